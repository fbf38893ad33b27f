set_option maxHeartbeats 40000000 in
set_option maxRecDepth 100000 in
theorem fx_X6_readsPerson_1 (l : Launch) (g : dkG) (z : Nat) (I0 : dkI) (np0 : dkN [(-1, -1)] (I0 340 8)) (np1 : dkN [(3, 9)] (I0 347 0))  (hO : dkOk I0) : Met l yX6_readsPerson wsX6_readsPerson (dkR 5) (dkPc g z [.ref (z + 340)] I0) (dkQv g z (fun I1 => dkF [(340, 340, 7, 12), (347, 347, 4, 4), (347, 347, 6, 34)] I0 I1 ∧ dkOk I1 ∧ ((dkN [(3, 3)] (I1 340 7) ∧ dkN [(0, 90)] (I1 340 8) ∧ dkN [(3, 9)] (I1 347 0) ∧ dkN [(5, 5)] (I1 347 4) ∧ (5 : Int) + 0 ≤ (I0 347 4).toInt ∧ I1 340 7 = 3 ∧ I1 340 8 = I0 340 10 ∧ I1 347 0 = I0 347 0 ∧ I1 347 4 = I0 347 4 ∧ I1 347 5 = I0 347 5 ∧ True) ∨ (dkN [(1, 2)] (I1 340 7) ∧ dkN [(0, 90)] (I1 340 8) ∧ dkN [(3, 9)] (I1 347 0) ∧ dkN [(0, 4)] (I1 347 4) ∧ (I0 347 4).toInt + 1 ≤ (5 : Int) ∧ (dkMb (I0 345) (I0 340 6) (I0 347 0) (I0 340 9)).1 ≠ 0 ∧ I1 340 7 = (dkMb (I0 345) (I0 340 6) (I0 347 0) (I0 340 9)).1 ∧ I1 340 8 = (dkMb (I0 345) (I0 340 6) (I0 347 0) (I0 340 9)).2 ∧ I1 347 0 = I0 347 0 ∧ I1 347 4 = I0 347 4 ∧ I1 347 5 = I0 347 5 ∧ True) ∨ (dkN [(0, 5)] (I1 340 11) ∧ dkN [(-1, -1)] (I1 340 8) ∧ dkN [(3, 9)] (I1 347 0) ∧ dkN [(1, 5)] (I1 347 4) ∧ (I0 347 4).toInt + 1 ≤ (5 : Int) ∧ (dkMb (I0 345) (I0 340 6) (I0 347 0) (I0 340 9)).1 = 0 ∧ I1 340 7 = I0 340 7 ∧ I1 340 8 = I0 340 8 ∧ I1 340 9 = dkTe (I0 345) (I0 340 6) (dkMb (I0 345) (I0 340 6) (I0 347 0) (I0 340 9)).2 ∧ I1 340 10 = (dkMb (I0 345) (I0 340 6) (I0 347 0) (I0 340 9)).2 ∧ I1 340 11 = dkTk (I0 345) (I0 340 6) (dkMb (I0 345) (I0 340 6) (I0 347 0) (I0 340 9)).2 ∧ I1 340 12 = dkTv (I0 345) (I0 340 6) (dkMb (I0 345) (I0 340 6) (I0 347 0) (I0 340 9)).2 ∧ I1 347 0 = I0 347 0 ∧ I1 347 5 = I0 347 5 ∧ I1 347 4 = I0 347 4 + 1 ∧ I1 347 4 = I0 347 4 + 1 ∧ True)))) 0 0 (dkA z) := by
  refine Met.ofW (cc := cX6_readsPerson) (maxL := 5) (ret := none) (by decide) rfl ?_
  intro p e s m args below meth c s₁ B hml hv
  obtain ⟨ha, hW, hK, hT⟩ := hv
  have hx := B.exec
  have hb := B.bytes
  have hr := B.returns
  have hts := atoms_spec (ws := wsX6_readsPerson) B.pre
  have hown : s.vm.findClass RX6 = some m.cls := findClass_of_methodNamed B.named
  have hlocks := B.notSynchronized
  have hS : va_S (dkA z) s.heap s.heap [] := va_S.rf
  have hF : dkF [(340, 340, 7, 12), (347, 347, 4, 4), (347, 347, 6, 34)] I0 I0 := dkF_rf _ _
  have hl := lv_entry ([.ref (z + 340)]) (n := 5) (Nat.le_of_ble_eq_true rfl)
  have hgo : entryFrame m args 5 = entryFrame m ([.ref (z + 340)] : List Value).toArray 5 := by rw [ha]
  rw [hgo, lg_entry_eq]
  generalize (lg_sl ([.ref (z + 340)]) ++ List.replicate (5 - (lg_sl ([.ref (z + 340)])).length) Slot.unset).toArray = ls at hl ⊢
  have hl : lv_has ls 5 [(0, .ref (z + 340))] := hl
  refine lv_aload_n hx hb dX6_readsPerson_0 rfl (lv_at hl 0 rfl) ?_
  refine lv_aload_n hx hb dX6_readsPerson_1 rfl (lv_at hl 0 rfl) ?_
  refine dk_get (k := 340) hx hb hts iX6_readsPerson_6 hown hK (dk_at340 hW) rfl 14 (by decide) (hts (.fieldLink RX6 28 "DogKingsModel" "draft" "[I") (List.mem_of_getElem? (i := 1) rfl)) rfl dX6_readsPerson_2 ?_
  refine lv_iconst (v := 4) hx hb dX6_readsPerson_5 (by decide) ?_
  refine dk_ild (k := 347) hx hb hK (dk_at347 hW) (dkN_in (n := 54) (dkN_lit (x := 4) (4) rfl) rfl) dX6_readsPerson_6 ?_
  refine lv_topi (fun v1 ev1 => ?_)
  have ev1 : v1 = I0 347 4 := ev1
  have dv1 : dkN [(0, 5)] v1 := by rw [ev1]; exact (show dkN [(0, 5)] (I0 347 4) from (hO 347 4))
  have xv1 : v1 = I0 347 4 := ev1.trans rfl
  refine lv_iconst (v := 5) hx hb dX6_readsPerson_7 (by decide) ?_
  refine lv_icmp_ge (tgt := 15) hx hb dX6_readsPerson_8 (by decide) (fun c2 => ?_) (fun c2 => ?_)
  ·
    have q3 : (5 : Int) + 0 ≤ (I0 347 4).toInt := by first | (rw [← xv1]; exact (dkc_le c2)) | (subst xv1; exact (dkc_le c2))
    have d4 : dkN [(5, 5)] v1 := dkN_le2 0 (dkN_lit (x := 5) (5) rfl) dv1 (dkc_le c2) rfl
    have f5 : dkN [(5, 5)] (I0 347 4) := by rw [← ev1]; exact d4
    refine lv_iconst (v := 0) hx hb dX6_readsPerson_15 (by decide) ?_
    refine lv_iconst (v := 3) hx hb dX6_readsPerson_16 (by decide) ?_
    refine dk_Vi (As := [.int 0, .int 3]) (rest := []) ⟨hx, hb, hml, hown, hts⟩ (fx_X6_takes_42 l g z I0 0 3 (dkN_lit (x := 0) (0) rfl) (dkN_lit (x := 3) (3) rfl) (show dkN [(-1, -1)] (I0 340 8) from dkN_sub np0 rfl) hO) (cwV 2 hts gX6_readsPerson_X6_takes rfl rfl rfl (by decide +kernel) ⟨Nat.le_of_ble_eq_true rfl, Nat.le_of_ble_eq_true rfl⟩) (dk_at340 hW) rfl hK hT hW hS rfl hl.1 rfl (Nat.le_of_ble_eq_true rfl) dX6_readsPerson_17 ⟨Nat.zero_le _, Nat.zero_le _⟩ (fun v6 I6 H6 L6 hp6 hW hS => ?_)
    obtain ⟨hF6, hO, hc6⟩ := hp6
    have hF := dkF_call hF hF6 rfl
    obtain ⟨dv6, f6_340_7, f6_340_8, x6_0, x6_1, xr6, xh6_0, xh6_1, xh6_2, xh6_3, xh6_4, xh6_5, -⟩ := hc6
    have q7 : (I0 340 8).toInt + 1 ≤ (0 : Int) := x6_0
    have y8 : I6 340 7 = 3 := by have h := xh6_0; exact h
    have y9 : I6 340 8 = I0 340 10 := by have h := xh6_1; exact h
    have y10 : I6 340 9 = I0 340 9 := by have h := xh6_2; exact h
    have y11 : I6 340 10 = I0 340 10 := by have h := xh6_3; exact h
    have y12 : I6 340 11 = I0 340 11 := by have h := xh6_4; exact h
    have y13 : I6 340 12 = I0 340 12 := by have h := xh6_5; exact h
    have xv6 : v6 = 0 := by have h := xr6; exact h
    refine lv_pop hx hb dX6_readsPerson_20 rfl ?_
    refine lv_bipush (v := 6) hx hb dX6_readsPerson_21 (by decide) ?_
    refine lv_bipush (v := 6) hx hb dX6_readsPerson_23 (by decide) ?_
    refine lv_aload_n hx hb dX6_readsPerson_25 rfl (lv_at hl 0 rfl) ?_
    refine dk_get (k := 340) hx hb hts iX6_readsPerson_6 hown hK (dk_at340 hW) rfl 14 (by decide) (hts (.fieldLink RX6 28 "DogKingsModel" "draft" "[I") (List.mem_of_getElem? (i := 1) rfl)) rfl dX6_readsPerson_26 ?_
    refine lv_iconst (v := 4) hx hb dX6_readsPerson_29 (by decide) ?_
    refine dk_ild (k := 347) hx hb hK (dk_at347 hW) (dkN_in (n := 54) (dkN_lit (x := 4) (4) rfl) rfl) dX6_readsPerson_30 ?_
    refine lv_topi (fun v14 ev14 => ?_)
    have ev14 : v14 = I6 347 4 := ev14
    have dv14 : dkN [(5, 5)] v14 := by rw [ev14]; exact (show dkN [(5, 5)] (I6 347 4) from (by rw [hF6 347 4 rfl]; exact f5))
    have xv14 : v14 = I0 347 4 := ev14.trans ((hF6 347 4 rfl).trans rfl)
    refine lv_iconst (v := 5) hx hb dX6_readsPerson_31 (by decide) ?_
    refine lv_icmp_ge (tgt := 44) hx hb dX6_readsPerson_32 (by decide) (fun c15 => ?_) (fun c15 => ?_)
    ·
      refine lv_iconst (v := 0) hx hb dX6_readsPerson_44 (by decide) ?_
      refine lv_imul hx hb dX6_readsPerson_45 ?_
      refine lv_topi (fun v16 ev16 => ?_)
      have dv16 : dkN [(0, 0)] v16 := by rw [ev16]; exact dkN_mulR 0 (by decide) (dkN_lit (x := 6) (6) rfl) (dkN_lit (x := 0) (0) rfl) rfl
      have xv16 : v16 = 0 := by rw [ev16]; rfl
      refine lv_iadd hx hb dX6_readsPerson_46 ?_
      refine lv_topi (fun v17 ev17 => ?_)
      have dv17 : dkN [(6, 6)] v17 := by rw [ev17]; exact dkN_add (dkN_lit (x := 6) (6) rfl) dv16 rfl
      have xv17 : v17 = 6 := by rw [ev17, xv16]; rfl
      refine lv_istore_n (lv' := [(1, .int v17), (0, .ref (z + 340))]) hx hb dX6_readsPerson_47 rfl hl (by decide) rfl (fun ls hl => ?_)
      refine lv_aload_n hx hb dX6_readsPerson_48 rfl (lv_at hl 1 rfl) ?_
      refine lv_iconst (v := 0) hx hb dX6_readsPerson_49 (by decide) ?_
      refine lv_aload_n hx hb dX6_readsPerson_50 rfl (lv_at hl 1 rfl) ?_
      refine dk_get (k := 340) hx hb hts iX6_readsPerson_6 hown hK (dk_at340 hW) rfl 14 (by decide) (hts (.fieldLink RX6 28 "DogKingsModel" "draft" "[I") (List.mem_of_getElem? (i := 1) rfl)) rfl dX6_readsPerson_51 ?_
      refine lv_iconst (v := 0) hx hb dX6_readsPerson_54 (by decide) ?_
      refine dk_ild (k := 347) hx hb hK (dk_at347 hW) (dkN_in (n := 54) (dkN_lit (x := 0) (0) rfl) rfl) dX6_readsPerson_55 ?_
      refine lv_topi (fun v18 ev18 => ?_)
      have ev18 : v18 = I6 347 0 := ev18
      have dv18 : dkN [(3, 9)] v18 := by rw [ev18]; exact (show dkN [(3, 9)] (I6 347 0) from (by rw [hF6 347 0 rfl]; exact np1))
      have xv18 : v18 = I0 347 0 := ev18.trans ((hF6 347 0 rfl).trans rfl)
      refine lv_iconst (v := 1) hx hb dX6_readsPerson_56 (by decide) ?_
      refine lv_isub hx hb dX6_readsPerson_57 ?_
      refine lv_topi (fun v19 ev19 => ?_)
      have dv19 : dkN [(2, 8)] v19 := by rw [ev19]; exact dkN_subt dv18 (dkN_lit (x := 1) (1) rfl) rfl
      have xv19 : v19 = (I0 347 0) - (1 : Int32) := by rw [ev19, xv18]
      have q20 : ((I0 347 0) - (1 : Int32)).toInt = (I0 347 0).toInt - (1 : Int) := by first | (rw [← xv19, ← xv18]; exact (by rw [ev19]; exact dk_subE dv18 (dkN_lit (x := 1) (1) rfl) rfl)) | (subst xv19 xv18; exact (by rw [ev19]; exact dk_subE dv18 (dkN_lit (x := 1) (1) rfl) rfl))
      refine dk_Vi (As := [.int 0, .int v19]) (rest := []) ⟨hx, hb, hml, hown, hts⟩ (h_X6_figure_0 l g z I6 0 v19 (show dkN [(0, 90)] (I6 340 8) from dkN_sub f6_340_8 rfl) hO) (cwV 2 hts gX6_readsPerson_X6_figure rfl rfl rfl (by decide +kernel) ⟨Nat.le_of_ble_eq_true rfl, Nat.le_of_ble_eq_true rfl⟩) (dk_at340 hW) rfl hK hT hW hS rfl hl.1 rfl (Nat.le_of_ble_eq_true rfl) dX6_readsPerson_58 ⟨Nat.zero_le _, Nat.zero_le _⟩ (fun v21 I21 H21 L21 hp21 hW hS => ?_)
      obtain ⟨hF21, hO, hc21⟩ := hp21
      have hF := dkF_call hF hF21 rfl
      have eI21 : I6 = I21 := (dkF_nil hF21).symm
      subst eI21
      obtain ⟨dv21, xr21, -⟩ := hc21
      have xv21 : v21 = 0 := by have h := xr21; exact h
      refine lv_istore_n (lv' := [(2, .int v21), (1, .int v17), (0, .ref (z + 340))]) hx hb dX6_readsPerson_61 rfl hl (by decide) rfl (fun ls hl => ?_)
      refine lv_aload_n hx hb dX6_readsPerson_62 rfl (lv_at hl 2 rfl) ?_
      refine lv_iconst (v := 0) hx hb dX6_readsPerson_63 (by decide) ?_
      refine lv_bipush (v := 9) hx hb dX6_readsPerson_64 (by decide) ?_
      refine dk_Vi (As := [.int 0, .int 9]) (rest := []) ⟨hx, hb, hml, hown, hts⟩ (h_X6_follows_0 l g z I6 0 9 (show dkN [(0, 90)] (I6 340 8) from dkN_sub (by rw [hF21 340 8 rfl]; exact f6_340_8) rfl) hO) (cwV 2 hts gX6_readsPerson_X6_follows rfl rfl rfl (by decide +kernel) ⟨Nat.le_of_ble_eq_true rfl, Nat.le_of_ble_eq_true rfl⟩) (dk_at340 hW) rfl hK hT hW hS rfl hl.1 rfl (Nat.le_of_ble_eq_true rfl) dX6_readsPerson_66 ⟨Nat.zero_le _, Nat.zero_le _⟩ (fun v22 I22 H22 L22 hp22 hW hS => ?_)
      obtain ⟨hF22, hO, hc22⟩ := hp22
      have hF := dkF_call hF hF22 rfl
      have eI22 : I6 = I22 := (dkF_nil hF22).symm
      subst eI22
      obtain ⟨dv22, xr22, -⟩ := hc22
      have xv22 : v22 = 0 := by have h := xr22; exact h
      refine lv_istore_n (lv' := [(3, .int v22), (2, .int v21), (1, .int v17), (0, .ref (z + 340))]) hx hb dX6_readsPerson_69 rfl hl (by decide) rfl (fun ls hl => ?_)
      refine lv_aload_n hx hb dX6_readsPerson_70 rfl (lv_at hl 3 rfl) ?_
      refine lv_iconst (v := 0) hx hb dX6_readsPerson_71 (by decide) ?_
      refine lv_iconst (v := 2) hx hb dX6_readsPerson_72 (by decide) ?_
      refine dk_Vi (As := [.int 0, .int 2]) (rest := []) ⟨hx, hb, hml, hown, hts⟩ (h_X6_follows_0 l g z I6 0 2 (show dkN [(0, 90)] (I6 340 8) from dkN_sub (by rw [hF22 340 8 rfl]; exact (by rw [hF21 340 8 rfl]; exact f6_340_8)) rfl) hO) (cwV 2 hts gX6_readsPerson_X6_follows rfl rfl rfl (by decide +kernel) ⟨Nat.le_of_ble_eq_true rfl, Nat.le_of_ble_eq_true rfl⟩) (dk_at340 hW) rfl hK hT hW hS rfl hl.1 rfl (Nat.le_of_ble_eq_true rfl) dX6_readsPerson_73 ⟨Nat.zero_le _, Nat.zero_le _⟩ (fun v23 I23 H23 L23 hp23 hW hS => ?_)
      obtain ⟨hF23, hO, hc23⟩ := hp23
      have hF := dkF_call hF hF23 rfl
      have eI23 : I6 = I23 := (dkF_nil hF23).symm
      subst eI23
      obtain ⟨dv23, xr23, -⟩ := hc23
      have xv23 : v23 = 0 := by have h := xr23; exact h
      refine lv_istore (lv' := [(4, .int v23), (3, .int v22), (2, .int v21), (1, .int v17), (0, .ref (z + 340))]) hx hb dX6_readsPerson_76 hl (by decide) rfl (fun ls hl => ?_)
      refine lv_aload_n hx hb dX6_readsPerson_78 rfl (lv_at hl 4 rfl) ?_
      refine lv_aload_n hx hb dX6_readsPerson_79 rfl (lv_at hl 4 rfl) ?_
      refine dk_get (k := 340) hx hb hts iX6_readsPerson_6 hown hK (dk_at340 hW) rfl 11 (by decide) (hts (.fieldLink RX6 98 "DogKingsModel" "token" "I") (List.mem_of_getElem? (i := 2) rfl)) rfl dX6_readsPerson_80 ?_
      refine lv_topi (fun v24 ev24 => ?_)
      have xv24 : v24 = I0 340 11 := ev24.trans ((hF23 340 11 rfl).trans ((hF22 340 11 rfl).trans ((hF21 340 11 rfl).trans y12)))
      refine lv_iconst (v := 4) hx hb dX6_readsPerson_83 (by decide) ?_
      refine lv_icmp_ne (tgt := 91) hx hb dX6_readsPerson_84 (by decide) (fun c25 => ?_) (fun c25 => ?_)
      ·
        have q26 : (I0 340 11).toInt ≠ (4 : Int) := by first | (rw [← xv24]; exact (dk_ne c25)) | (subst xv24; exact (dk_ne c25))
        have d27 : dkN [(-2147483648, 3), (5, 2147483647)] v24 := dkN_ne1 (4) (dkN_top v24) (dkN_lit (x := 4) (4) rfl) (dk_ne c25) rfl
        have f28 : dkN [(-2147483648, 3), (5, 2147483647)] (I6 340 11) := by rw [← ev24]; exact d27
        refine lv_iconst (v := 0) hx hb dX6_readsPerson_91 (by decide) ?_
        refine lv_iconst (v := 1) hx hb dX6_readsPerson_92 (by decide) ?_
        refine dk_Vi (As := [.int 0, .int 1]) (rest := []) ⟨hx, hb, hml, hown, hts⟩ (h_X6_takes_0 l g z I6 0 1 (show dkN [(0, 90)] (I6 340 8) from dkN_sub (by rw [hF23 340 8 rfl]; exact (by rw [hF22 340 8 rfl]; exact (by rw [hF21 340 8 rfl]; exact f6_340_8))) rfl) hO) (cwV 2 hts gX6_readsPerson_X6_takes rfl rfl rfl (by decide +kernel) ⟨Nat.le_of_ble_eq_true rfl, Nat.le_of_ble_eq_true rfl⟩) (dk_at340 hW) rfl hK hT hW hS rfl hl.1 rfl (Nat.le_of_ble_eq_true rfl) dX6_readsPerson_93 ⟨Nat.zero_le _, Nat.zero_le _⟩ (fun v29 I29 H29 L29 hp29 hW hS => ?_)
        obtain ⟨hF29, hO, hc29⟩ := hp29
        have hF := dkF_call hF hF29 rfl
        have eI29 : I6 = I29 := (dkF_nil hF29).symm
        subst eI29
        obtain ⟨dv29, xr29, -⟩ := hc29
        have xv29 : v29 = 0 := by have h := xr29; exact h
        refine lv_pop hx hb dX6_readsPerson_96 rfl ?_
        refine lv_aload_n hx hb dX6_readsPerson_97 rfl (lv_at hl 4 rfl) ?_
        refine dk_Vi (As := []) (rest := []) ⟨hx, hb, hml, hown, hts⟩ (fx_X6_isWell_7 l g z I6 (show dkN [(0, 90)] (I6 340 8) from dkN_sub (by rw [hF29 340 8 rfl]; exact (by rw [hF23 340 8 rfl]; exact (by rw [hF22 340 8 rfl]; exact (by rw [hF21 340 8 rfl]; exact f6_340_8)))) rfl) hO) (cwV 0 hts gX6_readsPerson_X6_isWell rfl rfl rfl (by decide +kernel) ⟨Nat.le_of_ble_eq_true rfl, Nat.le_of_ble_eq_true rfl⟩) (dk_at340 hW) rfl hK hT hW hS rfl hl.1 rfl (Nat.le_of_ble_eq_true rfl) dX6_readsPerson_98 ⟨Nat.zero_le _, Nat.zero_le _⟩ (fun v30 I30 H30 L30 hp30 hW hS => ?_)
        obtain ⟨hF30, hO, hc30⟩ := hp30
        have hF := dkF_call hF hF30 rfl
        have eI30 : I6 = I30 := (dkF_nil hF30).symm
        subst eI30
        obtain ⟨dv30, f30_340_8, x30_0, xr30, -⟩ := hc30
        have w31 : I6 340 8 = I0 340 10 := ((hF29 340 8 rfl).trans ((hF23 340 8 rfl).trans ((hF22 340 8 rfl).trans ((hF21 340 8 rfl).trans y9))))
        have q32 : (0 : Int) + 0 ≤ (I0 340 10).toInt := by have h := x30_0; rw [w31] at h; exact h
        have xv30 : v30 = 0 := by have h := xr30; exact h
        refine lv_if_eq (tgt := 149) hx hb dX6_readsPerson_101 (by decide) (fun c33 => ?_) (fun c33 => ?_)
        ·
          exact W.vret hx hb hr (fun t ht hW9 => ⟨⟨I6, rfl, ⟨hF, hO, Or.inl ⟨(show dkN [(3, 3)] (I6 340 7) from dkN_sub (by rw [hF30 340 7 rfl]; exact (by rw [hF29 340 7 rfl]; exact (by rw [hF23 340 7 rfl]; exact (by rw [hF22 340 7 rfl]; exact (by rw [hF21 340 7 rfl]; exact f6_340_7))))) rfl), (show dkN [(0, 90)] (I6 340 8) from dkN_sub f30_340_8 rfl), (show dkN [(3, 9)] (I6 347 0) from dkN_sub (by rw [hF30 347 0 rfl]; exact (by rw [hF29 347 0 rfl]; exact (by rw [hF23 347 0 rfl]; exact (by rw [hF22 347 0 rfl]; exact (by rw [hF21 347 0 rfl]; exact (by rw [hF6 347 0 rfl]; exact np1)))))) rfl), (show dkN [(5, 5)] (I6 347 4) from dkN_sub (by rw [hF30 347 4 rfl]; exact (by rw [hF29 347 4 rfl]; exact (by rw [hF23 347 4 rfl]; exact (by rw [hF22 347 4 rfl]; exact (by rw [hF21 347 4 rfl]; exact (by rw [hF6 347 4 rfl]; exact f5)))))) rfl), (by omega), (show I6 340 7 = 3 from ((hF30 340 7 rfl).trans ((hF29 340 7 rfl).trans ((hF23 340 7 rfl).trans ((hF22 340 7 rfl).trans ((hF21 340 7 rfl).trans y8)))))), (show I6 340 8 = I0 340 10 from ((hF30 340 8 rfl).trans ((hF29 340 8 rfl).trans ((hF23 340 8 rfl).trans ((hF22 340 8 rfl).trans ((hF21 340 8 rfl).trans y9)))))), (show I6 347 0 = I0 347 0 from ((hF30 347 0 rfl).trans ((hF29 347 0 rfl).trans ((hF23 347 0 rfl).trans ((hF22 347 0 rfl).trans ((hF21 347 0 rfl).trans ((hF6 347 0 rfl).trans rfl))))))), (show I6 347 4 = I0 347 4 from ((hF30 347 4 rfl).trans ((hF29 347 4 rfl).trans ((hF23 347 4 rfl).trans ((hF22 347 4 rfl).trans ((hF21 347 4 rfl).trans ((hF6 347 4 rfl).trans rfl))))))), (show I6 347 5 = I0 347 5 from ((hF30 347 5 rfl).trans ((hF29 347 5 rfl).trans ((hF23 347 5 rfl).trans ((hF22 347 5 rfl).trans ((hF21 347 5 rfl).trans ((hF6 347 5 rfl).trans rfl))))))), trivial⟩⟩, dkW_eq ht hW⟩, hS.F ht⟩) hS.2.2 dX6_readsPerson_149
        ·
          exact absurd ((xv30).trans (rfl).symm) c33
      ·
        have q34 : (I0 340 11).toInt = (4 : Int) := by first | (rw [← xv24]; exact (congrArg Int32.toInt c25)) | (subst xv24; exact (congrArg Int32.toInt c25))
        have d35 : dkN [(4, 4)] v24 := dkN_eq1 (dkN_top v24) (dkN_lit (x := 4) (4) rfl) (congrArg Int32.toInt c25) rfl
        have f36 : dkN [(4, 4)] (I6 340 11) := by rw [← ev24]; exact d35
        refine lv_iconst (v := 1) hx hb dX6_readsPerson_87 (by decide) ?_
        refine lv_goto (tgt := 92) hx hb dX6_readsPerson_88 (by decide) ?_
        refine lv_iconst (v := 1) hx hb dX6_readsPerson_92 (by decide) ?_
        refine dk_Vi (As := [.int 1, .int 1]) (rest := []) ⟨hx, hb, hml, hown, hts⟩ (h_X6_takes_0 l g z I6 1 1 (show dkN [(0, 90)] (I6 340 8) from dkN_sub (by rw [hF23 340 8 rfl]; exact (by rw [hF22 340 8 rfl]; exact (by rw [hF21 340 8 rfl]; exact f6_340_8))) rfl) hO) (cwV 2 hts gX6_readsPerson_X6_takes rfl rfl rfl (by decide +kernel) ⟨Nat.le_of_ble_eq_true rfl, Nat.le_of_ble_eq_true rfl⟩) (dk_at340 hW) rfl hK hT hW hS rfl hl.1 rfl (Nat.le_of_ble_eq_true rfl) dX6_readsPerson_93 ⟨Nat.zero_le _, Nat.zero_le _⟩ (fun v37 I37 H37 L37 hp37 hW hS => ?_)
        obtain ⟨hF37, hO, hc37⟩ := hp37
        have hF := dkF_call hF hF37 rfl
        have eI37 : I6 = I37 := (dkF_nil hF37).symm
        subst eI37
        obtain ⟨dv37, xr37, -⟩ := hc37
        have xv37 : v37 = 0 := by have h := xr37; exact h
        refine lv_pop hx hb dX6_readsPerson_96 rfl ?_
        refine lv_aload_n hx hb dX6_readsPerson_97 rfl (lv_at hl 4 rfl) ?_
        refine dk_Vi (As := []) (rest := []) ⟨hx, hb, hml, hown, hts⟩ (fx_X6_isWell_7 l g z I6 (show dkN [(0, 90)] (I6 340 8) from dkN_sub (by rw [hF37 340 8 rfl]; exact (by rw [hF23 340 8 rfl]; exact (by rw [hF22 340 8 rfl]; exact (by rw [hF21 340 8 rfl]; exact f6_340_8)))) rfl) hO) (cwV 0 hts gX6_readsPerson_X6_isWell rfl rfl rfl (by decide +kernel) ⟨Nat.le_of_ble_eq_true rfl, Nat.le_of_ble_eq_true rfl⟩) (dk_at340 hW) rfl hK hT hW hS rfl hl.1 rfl (Nat.le_of_ble_eq_true rfl) dX6_readsPerson_98 ⟨Nat.zero_le _, Nat.zero_le _⟩ (fun v38 I38 H38 L38 hp38 hW hS => ?_)
        obtain ⟨hF38, hO, hc38⟩ := hp38
        have hF := dkF_call hF hF38 rfl
        have eI38 : I6 = I38 := (dkF_nil hF38).symm
        subst eI38
        obtain ⟨dv38, f38_340_8, x38_0, xr38, -⟩ := hc38
        have w39 : I6 340 8 = I0 340 10 := ((hF37 340 8 rfl).trans ((hF23 340 8 rfl).trans ((hF22 340 8 rfl).trans ((hF21 340 8 rfl).trans y9))))
        have q40 : (0 : Int) + 0 ≤ (I0 340 10).toInt := by have h := x38_0; rw [w39] at h; exact h
        have xv38 : v38 = 0 := by have h := xr38; exact h
        refine lv_if_eq (tgt := 149) hx hb dX6_readsPerson_101 (by decide) (fun c41 => ?_) (fun c41 => ?_)
        ·
          exact W.vret hx hb hr (fun t ht hW9 => ⟨⟨I6, rfl, ⟨hF, hO, Or.inl ⟨(show dkN [(3, 3)] (I6 340 7) from dkN_sub (by rw [hF38 340 7 rfl]; exact (by rw [hF37 340 7 rfl]; exact (by rw [hF23 340 7 rfl]; exact (by rw [hF22 340 7 rfl]; exact (by rw [hF21 340 7 rfl]; exact f6_340_7))))) rfl), (show dkN [(0, 90)] (I6 340 8) from dkN_sub f38_340_8 rfl), (show dkN [(3, 9)] (I6 347 0) from dkN_sub (by rw [hF38 347 0 rfl]; exact (by rw [hF37 347 0 rfl]; exact (by rw [hF23 347 0 rfl]; exact (by rw [hF22 347 0 rfl]; exact (by rw [hF21 347 0 rfl]; exact (by rw [hF6 347 0 rfl]; exact np1)))))) rfl), (show dkN [(5, 5)] (I6 347 4) from dkN_sub (by rw [hF38 347 4 rfl]; exact (by rw [hF37 347 4 rfl]; exact (by rw [hF23 347 4 rfl]; exact (by rw [hF22 347 4 rfl]; exact (by rw [hF21 347 4 rfl]; exact (by rw [hF6 347 4 rfl]; exact f5)))))) rfl), (by omega), (show I6 340 7 = 3 from ((hF38 340 7 rfl).trans ((hF37 340 7 rfl).trans ((hF23 340 7 rfl).trans ((hF22 340 7 rfl).trans ((hF21 340 7 rfl).trans y8)))))), (show I6 340 8 = I0 340 10 from ((hF38 340 8 rfl).trans ((hF37 340 8 rfl).trans ((hF23 340 8 rfl).trans ((hF22 340 8 rfl).trans ((hF21 340 8 rfl).trans y9)))))), (show I6 347 0 = I0 347 0 from ((hF38 347 0 rfl).trans ((hF37 347 0 rfl).trans ((hF23 347 0 rfl).trans ((hF22 347 0 rfl).trans ((hF21 347 0 rfl).trans ((hF6 347 0 rfl).trans rfl))))))), (show I6 347 4 = I0 347 4 from ((hF38 347 4 rfl).trans ((hF37 347 4 rfl).trans ((hF23 347 4 rfl).trans ((hF22 347 4 rfl).trans ((hF21 347 4 rfl).trans ((hF6 347 4 rfl).trans rfl))))))), (show I6 347 5 = I0 347 5 from ((hF38 347 5 rfl).trans ((hF37 347 5 rfl).trans ((hF23 347 5 rfl).trans ((hF22 347 5 rfl).trans ((hF21 347 5 rfl).trans ((hF6 347 5 rfl).trans rfl))))))), trivial⟩⟩, dkW_eq ht hW⟩, hS.F ht⟩) hS.2.2 dX6_readsPerson_149
        ·
          exact absurd ((xv38).trans (rfl).symm) c41
    ·
      exact (dkN_nil (show dkN [] 5 from dkN_le2 1 dv14 (dkN_lit (x := 5) (5) rfl) (dkc_nle c15) rfl)).elim
  ·
    have q42 : (I0 347 4).toInt + 1 ≤ (5 : Int) := by first | (rw [← xv1]; exact (dkc_nle c2)) | (subst xv1; exact (dkc_nle c2))
    have d43 : dkN [(0, 4)] v1 := dkN_le1 1 dv1 (dkN_lit (x := 5) (5) rfl) (dkc_nle c2) rfl
    have f44 : dkN [(0, 4)] (I0 347 4) := by rw [← ev1]; exact d43
    refine lv_iconst (v := 1) hx hb dX6_readsPerson_11 (by decide) ?_
    refine lv_goto (tgt := 16) hx hb dX6_readsPerson_12 (by decide) ?_
    refine lv_iconst (v := 3) hx hb dX6_readsPerson_16 (by decide) ?_
    refine dk_Vi (As := [.int 1, .int 3]) (rest := []) ⟨hx, hb, hml, hown, hts⟩ (fx_X6_takes_43 l g z I0 1 3 (dkN_lit (x := 1) (1) rfl) (dkN_lit (x := 3) (3) rfl) (show dkN [(-1, -1)] (I0 340 8) from dkN_sub np0 rfl) hO) (cwV 2 hts gX6_readsPerson_X6_takes rfl rfl rfl (by decide +kernel) ⟨Nat.le_of_ble_eq_true rfl, Nat.le_of_ble_eq_true rfl⟩) (dk_at340 hW) rfl hK hT hW hS rfl hl.1 rfl (Nat.le_of_ble_eq_true rfl) dX6_readsPerson_17 ⟨Nat.zero_le _, Nat.zero_le _⟩ (fun v45 I45 H45 L45 hp45 hW hS => ?_)
    obtain ⟨hF45, hO, hc45⟩ := hp45
    have hF := dkF_call hF hF45 rfl
    obtain ⟨_, f45_340_11, f45_340_8, x45_0, x45_1, xr45, xh45_0, xh45_1, xh45_2, xh45_3, xh45_4, xh45_5, -⟩ := hc45
    have q46 : (I0 340 8).toInt + 1 ≤ (0 : Int) := x45_0
    have y47 : I45 340 7 = I0 340 7 := by have h := xh45_0; exact h
    have y48 : I45 340 8 = I0 340 8 := by have h := xh45_1; exact h
    have y49 : I45 340 9 = dkTe (I0 345) (I0 340 6) (I0 340 9) := by have h := xh45_2; exact h
    have y50 : I45 340 10 = I0 340 9 := by have h := xh45_3; exact h
    have y51 : I45 340 11 = dkTk (I0 345) (I0 340 6) (I0 340 9) := by have h := xh45_4; exact h
    have y52 : I45 340 12 = dkTv (I0 345) (I0 340 6) (I0 340 9) := by have h := xh45_5; exact h
    have xv45 : v45 = I0 340 12 := by have h := xr45; exact h
    refine lv_pop hx hb dX6_readsPerson_20 rfl ?_
    refine lv_bipush (v := 6) hx hb dX6_readsPerson_21 (by decide) ?_
    refine lv_bipush (v := 6) hx hb dX6_readsPerson_23 (by decide) ?_
    refine lv_aload_n hx hb dX6_readsPerson_25 rfl (lv_at hl 0 rfl) ?_
    refine dk_get (k := 340) hx hb hts iX6_readsPerson_6 hown hK (dk_at340 hW) rfl 14 (by decide) (hts (.fieldLink RX6 28 "DogKingsModel" "draft" "[I") (List.mem_of_getElem? (i := 1) rfl)) rfl dX6_readsPerson_26 ?_
    refine lv_iconst (v := 4) hx hb dX6_readsPerson_29 (by decide) ?_
    refine dk_ild (k := 347) hx hb hK (dk_at347 hW) (dkN_in (n := 54) (dkN_lit (x := 4) (4) rfl) rfl) dX6_readsPerson_30 ?_
    refine lv_topi (fun v53 ev53 => ?_)
    have ev53 : v53 = I45 347 4 := ev53
    have dv53 : dkN [(0, 4)] v53 := by rw [ev53]; exact (show dkN [(0, 4)] (I45 347 4) from (by rw [hF45 347 4 rfl]; exact f44))
    have xv53 : v53 = I0 347 4 := ev53.trans ((hF45 347 4 rfl).trans rfl)
    refine lv_iconst (v := 5) hx hb dX6_readsPerson_31 (by decide) ?_
    refine lv_icmp_ge (tgt := 44) hx hb dX6_readsPerson_32 (by decide) (fun c54 => ?_) (fun c54 => ?_)
    ·
      exact (dkN_nil (show dkN [] 5 from dkN_le1 0 (dkN_lit (x := 5) (5) rfl) dv53 (dkc_le c54) rfl)).elim
    ·
      refine lv_aload_n hx hb dX6_readsPerson_35 rfl (lv_at hl 0 rfl) ?_
      refine dk_get (k := 340) hx hb hts iX6_readsPerson_6 hown hK (dk_at340 hW) rfl 14 (by decide) (hts (.fieldLink RX6 28 "DogKingsModel" "draft" "[I") (List.mem_of_getElem? (i := 1) rfl)) rfl dX6_readsPerson_36 ?_
      refine lv_iconst (v := 4) hx hb dX6_readsPerson_39 (by decide) ?_
      refine dk_ild (k := 347) hx hb hK (dk_at347 hW) (dkN_in (n := 54) (dkN_lit (x := 4) (4) rfl) rfl) dX6_readsPerson_40 ?_
      refine lv_topi (fun v55 ev55 => ?_)
      have ev55 : v55 = I45 347 4 := ev55
      have dv55 : dkN [(0, 4)] v55 := by rw [ev55]; exact (show dkN [(0, 4)] (I45 347 4) from (by rw [hF45 347 4 rfl]; exact f44))
      have xv55 : v55 = I0 347 4 := ev55.trans ((hF45 347 4 rfl).trans rfl)
      refine lv_goto (tgt := 45) hx hb dX6_readsPerson_41 (by decide) ?_
      refine lv_imul hx hb dX6_readsPerson_45 ?_
      refine lv_topi (fun v56 ev56 => ?_)
      have dv56 : dkN [(0, 24)] v56 := by rw [ev56]; exact dkN_mulL 6 (by decide) (dkN_lit (x := 6) (6) rfl) dv55 rfl
      have xv56 : v56 = (6 : Int32) * (I0 347 4) := by rw [ev56, xv55]
      have q57 : ((6 : Int32) * (I0 347 4)).toInt = (6 : Int) * (I0 347 4).toInt := by first | (rw [← xv56, ← xv55]; exact (by rw [ev56]; exact dk_mulE 6 (x := 6) rfl dv55 (by decide) rfl)) | (subst xv56 xv55; exact (by rw [ev56]; exact dk_mulE 6 (x := 6) rfl dv55 (by decide) rfl))
      refine lv_iadd hx hb dX6_readsPerson_46 ?_
      refine lv_topi (fun v58 ev58 => ?_)
      have dv58 : dkN [(6, 30)] v58 := by rw [ev58]; exact dkN_add (dkN_lit (x := 6) (6) rfl) dv56 rfl
      have xv58 : v58 = (6 : Int32) + ((6 : Int32) * (I0 347 4)) := by rw [ev58, xv56]
      have q59 : ((6 : Int32) + ((6 : Int32) * (I0 347 4))).toInt = (6 : Int) + ((6 : Int32) * (I0 347 4)).toInt := by first | (rw [← xv58, ← xv56]; exact (by rw [ev58]; exact dk_addE (dkN_lit (x := 6) (6) rfl) dv56 rfl)) | (subst xv58 xv56; exact (by rw [ev58]; exact dk_addE (dkN_lit (x := 6) (6) rfl) dv56 rfl))
      refine lv_istore_n (lv' := [(1, .int v58), (0, .ref (z + 340))]) hx hb dX6_readsPerson_47 rfl hl (by decide) rfl (fun ls hl => ?_)
      refine lv_aload_n hx hb dX6_readsPerson_48 rfl (lv_at hl 1 rfl) ?_
      refine lv_iconst (v := 0) hx hb dX6_readsPerson_49 (by decide) ?_
      refine lv_aload_n hx hb dX6_readsPerson_50 rfl (lv_at hl 1 rfl) ?_
      refine dk_get (k := 340) hx hb hts iX6_readsPerson_6 hown hK (dk_at340 hW) rfl 14 (by decide) (hts (.fieldLink RX6 28 "DogKingsModel" "draft" "[I") (List.mem_of_getElem? (i := 1) rfl)) rfl dX6_readsPerson_51 ?_
      refine lv_iconst (v := 0) hx hb dX6_readsPerson_54 (by decide) ?_
      refine dk_ild (k := 347) hx hb hK (dk_at347 hW) (dkN_in (n := 54) (dkN_lit (x := 0) (0) rfl) rfl) dX6_readsPerson_55 ?_
      refine lv_topi (fun v60 ev60 => ?_)
      have ev60 : v60 = I45 347 0 := ev60
      have dv60 : dkN [(3, 9)] v60 := by rw [ev60]; exact (show dkN [(3, 9)] (I45 347 0) from (by rw [hF45 347 0 rfl]; exact np1))
      have xv60 : v60 = I0 347 0 := ev60.trans ((hF45 347 0 rfl).trans rfl)
      refine lv_iconst (v := 1) hx hb dX6_readsPerson_56 (by decide) ?_
      refine lv_isub hx hb dX6_readsPerson_57 ?_
      refine lv_topi (fun v61 ev61 => ?_)
      have dv61 : dkN [(2, 8)] v61 := by rw [ev61]; exact dkN_subt dv60 (dkN_lit (x := 1) (1) rfl) rfl
      have xv61 : v61 = (I0 347 0) - (1 : Int32) := by rw [ev61, xv60]
      have q62 : ((I0 347 0) - (1 : Int32)).toInt = (I0 347 0).toInt - (1 : Int) := by first | (rw [← xv61, ← xv60]; exact (by rw [ev61]; exact dk_subE dv60 (dkN_lit (x := 1) (1) rfl) rfl)) | (subst xv61 xv60; exact (by rw [ev61]; exact dk_subE dv60 (dkN_lit (x := 1) (1) rfl) rfl))
      refine dk_Vi (As := [.int 0, .int v61]) (rest := []) ⟨hx, hb, hml, hown, hts⟩ (fx_X6_figure_12 l g z I45 0 v61 (dkN_lit (x := 0) (0) rfl) dv61 (show dkN [(-1, -1)] (I45 340 8) from dkN_sub f45_340_8 rfl) hO) (cwV 2 hts gX6_readsPerson_X6_figure rfl rfl rfl (by decide +kernel) ⟨Nat.le_of_ble_eq_true rfl, Nat.le_of_ble_eq_true rfl⟩) (dk_at340 hW) rfl hK hT hW hS rfl hl.1 rfl (Nat.le_of_ble_eq_true rfl) dX6_readsPerson_58 ⟨Nat.zero_le _, Nat.zero_le _⟩ (fun v63 I63 H63 L63 hp63 hW hS => ?_)
      obtain ⟨hF63, hO, hc63⟩ := hp63
      have hF := dkF_call hF hF63 rfl
      rcases hc63 with ⟨dv63, f63_340_11, f63_340_12, f63_340_7, f63_340_8, x63_0, x63_1, x63_2, xr63, xh63_0, xh63_1, xh63_2, xh63_3, xh63_4, xh63_5, -⟩ | hc63
      ·
        have w64 : I45 340 8 = I0 340 8 := y48
        have w65 : I45 340 11 = dkTk (I0 345) (I0 340 6) (I0 340 9) := y51
        have q66 : (dkTk (I0 345) (I0 340 6) (I0 340 9)).toInt = (2 : Int) := by have h := x63_1; rw [w65] at h; exact h
        have w67 : I45 340 12 = dkTv (I0 345) (I0 340 6) (I0 340 9) := y52
        have q68 : (dkTv (I0 345) (I0 340 6) (I0 340 9)).toInt + 1 ≤ (0 : Int) := by have h := x63_2; rw [w67] at h; exact h
        have y69 : I63 340 7 = 2 := by have h := xh63_0; exact h
        have w70 : I45 340 10 = I0 340 9 := y50
        have y71 : I63 340 8 = I0 340 9 := by have h := xh63_1; rw [w70] at h; exact h
        have w72 : I45 340 9 = dkTe (I0 345) (I0 340 6) (I0 340 9) := y49
        have y73 : I63 340 9 = dkTe (I0 345) (I0 340 6) (I0 340 9) := by have h := xh63_2; rw [w72] at h; exact h
        have y74 : I63 340 10 = I0 340 9 := by have h := xh63_3; rw [w70] at h; exact h
        have y75 : I63 340 11 = dkTk (I0 345) (I0 340 6) (I0 340 9) := by have h := xh63_4; rw [w65] at h; exact h
        have y76 : I63 340 12 = dkTv (I0 345) (I0 340 6) (I0 340 9) := by have h := xh63_5; rw [w67] at h; exact h
        have xv63 : v63 = 0 := by have h := xr63; exact h
        refine lv_istore_n (lv' := [(2, .int v63), (1, .int v58), (0, .ref (z + 340))]) hx hb dX6_readsPerson_61 rfl hl (by decide) rfl (fun ls hl => ?_)
        refine lv_aload_n hx hb dX6_readsPerson_62 rfl (lv_at hl 2 rfl) ?_
        refine lv_iconst (v := 0) hx hb dX6_readsPerson_63 (by decide) ?_
        refine lv_bipush (v := 9) hx hb dX6_readsPerson_64 (by decide) ?_
        refine dk_Vi (As := [.int 0, .int 9]) (rest := []) ⟨hx, hb, hml, hown, hts⟩ (h_X6_follows_0 l g z I63 0 9 (show dkN [(0, 90)] (I63 340 8) from dkN_sub f63_340_8 rfl) hO) (cwV 2 hts gX6_readsPerson_X6_follows rfl rfl rfl (by decide +kernel) ⟨Nat.le_of_ble_eq_true rfl, Nat.le_of_ble_eq_true rfl⟩) (dk_at340 hW) rfl hK hT hW hS rfl hl.1 rfl (Nat.le_of_ble_eq_true rfl) dX6_readsPerson_66 ⟨Nat.zero_le _, Nat.zero_le _⟩ (fun v77 I77 H77 L77 hp77 hW hS => ?_)
        obtain ⟨hF77, hO, hc77⟩ := hp77
        have hF := dkF_call hF hF77 rfl
        have eI77 : I63 = I77 := (dkF_nil hF77).symm
        subst eI77
        obtain ⟨dv77, xr77, -⟩ := hc77
        have xv77 : v77 = 0 := by have h := xr77; exact h
        refine lv_istore_n (lv' := [(3, .int v77), (2, .int v63), (1, .int v58), (0, .ref (z + 340))]) hx hb dX6_readsPerson_69 rfl hl (by decide) rfl (fun ls hl => ?_)
        refine lv_aload_n hx hb dX6_readsPerson_70 rfl (lv_at hl 3 rfl) ?_
        refine lv_iconst (v := 0) hx hb dX6_readsPerson_71 (by decide) ?_
        refine lv_iconst (v := 2) hx hb dX6_readsPerson_72 (by decide) ?_
        refine dk_Vi (As := [.int 0, .int 2]) (rest := []) ⟨hx, hb, hml, hown, hts⟩ (h_X6_follows_0 l g z I63 0 2 (show dkN [(0, 90)] (I63 340 8) from dkN_sub (by rw [hF77 340 8 rfl]; exact f63_340_8) rfl) hO) (cwV 2 hts gX6_readsPerson_X6_follows rfl rfl rfl (by decide +kernel) ⟨Nat.le_of_ble_eq_true rfl, Nat.le_of_ble_eq_true rfl⟩) (dk_at340 hW) rfl hK hT hW hS rfl hl.1 rfl (Nat.le_of_ble_eq_true rfl) dX6_readsPerson_73 ⟨Nat.zero_le _, Nat.zero_le _⟩ (fun v78 I78 H78 L78 hp78 hW hS => ?_)
        obtain ⟨hF78, hO, hc78⟩ := hp78
        have hF := dkF_call hF hF78 rfl
        have eI78 : I63 = I78 := (dkF_nil hF78).symm
        subst eI78
        obtain ⟨dv78, xr78, -⟩ := hc78
        have xv78 : v78 = 0 := by have h := xr78; exact h
        refine lv_istore (lv' := [(4, .int v78), (3, .int v77), (2, .int v63), (1, .int v58), (0, .ref (z + 340))]) hx hb dX6_readsPerson_76 hl (by decide) rfl (fun ls hl => ?_)
        refine lv_aload_n hx hb dX6_readsPerson_78 rfl (lv_at hl 4 rfl) ?_
        refine lv_aload_n hx hb dX6_readsPerson_79 rfl (lv_at hl 4 rfl) ?_
        refine dk_get (k := 340) hx hb hts iX6_readsPerson_6 hown hK (dk_at340 hW) rfl 11 (by decide) (hts (.fieldLink RX6 98 "DogKingsModel" "token" "I") (List.mem_of_getElem? (i := 2) rfl)) rfl dX6_readsPerson_80 ?_
        refine lv_topi (fun v79 ev79 => ?_)
        have dv79 : dkN [(2, 2)] v79 := by rw [ev79]; exact (by rw [hF78 340 11 rfl]; exact (by rw [hF77 340 11 rfl]; exact f63_340_11))
        have xv79 : v79 = dkTk (I0 345) (I0 340 6) (I0 340 9) := ev79.trans ((hF78 340 11 rfl).trans ((hF77 340 11 rfl).trans y75))
        refine lv_iconst (v := 4) hx hb dX6_readsPerson_83 (by decide) ?_
        refine lv_icmp_ne (tgt := 91) hx hb dX6_readsPerson_84 (by decide) (fun c80 => ?_) (fun c80 => ?_)
        ·
          have q81 : (dkTk (I0 345) (I0 340 6) (I0 340 9)).toInt ≠ (4 : Int) := by first | (rw [← xv79]; exact (dk_ne c80)) | (subst xv79; exact (dk_ne c80))
          refine lv_iconst (v := 0) hx hb dX6_readsPerson_91 (by decide) ?_
          refine lv_iconst (v := 1) hx hb dX6_readsPerson_92 (by decide) ?_
          refine dk_Vi (As := [.int 0, .int 1]) (rest := []) ⟨hx, hb, hml, hown, hts⟩ (h_X6_takes_0 l g z I63 0 1 (show dkN [(0, 90)] (I63 340 8) from dkN_sub (by rw [hF78 340 8 rfl]; exact (by rw [hF77 340 8 rfl]; exact f63_340_8)) rfl) hO) (cwV 2 hts gX6_readsPerson_X6_takes rfl rfl rfl (by decide +kernel) ⟨Nat.le_of_ble_eq_true rfl, Nat.le_of_ble_eq_true rfl⟩) (dk_at340 hW) rfl hK hT hW hS rfl hl.1 rfl (Nat.le_of_ble_eq_true rfl) dX6_readsPerson_93 ⟨Nat.zero_le _, Nat.zero_le _⟩ (fun v82 I82 H82 L82 hp82 hW hS => ?_)
          obtain ⟨hF82, hO, hc82⟩ := hp82
          have hF := dkF_call hF hF82 rfl
          have eI82 : I63 = I82 := (dkF_nil hF82).symm
          subst eI82
          obtain ⟨dv82, xr82, -⟩ := hc82
          have xv82 : v82 = 0 := by have h := xr82; exact h
          refine lv_pop hx hb dX6_readsPerson_96 rfl ?_
          refine lv_aload_n hx hb dX6_readsPerson_97 rfl (lv_at hl 4 rfl) ?_
          refine dk_Vi (As := []) (rest := []) ⟨hx, hb, hml, hown, hts⟩ (fx_X6_isWell_7 l g z I63 (show dkN [(0, 90)] (I63 340 8) from dkN_sub (by rw [hF82 340 8 rfl]; exact (by rw [hF78 340 8 rfl]; exact (by rw [hF77 340 8 rfl]; exact f63_340_8))) rfl) hO) (cwV 0 hts gX6_readsPerson_X6_isWell rfl rfl rfl (by decide +kernel) ⟨Nat.le_of_ble_eq_true rfl, Nat.le_of_ble_eq_true rfl⟩) (dk_at340 hW) rfl hK hT hW hS rfl hl.1 rfl (Nat.le_of_ble_eq_true rfl) dX6_readsPerson_98 ⟨Nat.zero_le _, Nat.zero_le _⟩ (fun v83 I83 H83 L83 hp83 hW hS => ?_)
          obtain ⟨hF83, hO, hc83⟩ := hp83
          have hF := dkF_call hF hF83 rfl
          have eI83 : I63 = I83 := (dkF_nil hF83).symm
          subst eI83
          obtain ⟨dv83, f83_340_8, x83_0, xr83, -⟩ := hc83
          have w84 : I63 340 8 = I0 340 9 := ((hF82 340 8 rfl).trans ((hF78 340 8 rfl).trans ((hF77 340 8 rfl).trans y71)))
          have q85 : (0 : Int) + 0 ≤ (I0 340 9).toInt := by have h := x83_0; rw [w84] at h; exact h
          have xv83 : v83 = 0 := by have h := xr83; exact h
          refine lv_if_eq (tgt := 149) hx hb dX6_readsPerson_101 (by decide) (fun c86 => ?_) (fun c86 => ?_)
          ·
            have i0 : (0 : Int32).toInt = 0 := rfl
            have i1 : (1 : Int32).toInt = 1 := rfl
            have i2 : (2 : Int32).toInt = 2 := rfl
            have i3 : (3 : Int32).toInt = 3 := rfl
            have i9 : (9 : Int32).toInt = 9 := rfl
            have i30 : (30 : Int32).toInt = 30 := rfl
            have i44 : (44 : Int32).toInt = 44 := rfl
            have i59 : (59 : Int32).toInt = 59 := rfl
            have i109 : (109 : Int32).toInt = 109 := rfl
            have i116 : (116 : Int32).toInt = 116 := rfl
            have e87 : dkMb (I0 345) (I0 340 6) (I0 347 0) (I0 340 9) = (2, I0 340 9) := (dkTh_q (dkK_2 (T := (I0 345)) (n := (I0 340 6)) (a := I0 340 9) (lo := 0) (hi := ((I0 347 0) - (1 : Int32))) q66 (by omega)) (by decide))
            exact W.vret hx hb hr (fun t ht hW9 => ⟨⟨I63, rfl, ⟨hF, hO, Or.inr (Or.inl ⟨(show dkN [(1, 2)] (I63 340 7) from dkN_sub (by rw [hF83 340 7 rfl]; exact (by rw [hF82 340 7 rfl]; exact (by rw [hF78 340 7 rfl]; exact (by rw [hF77 340 7 rfl]; exact f63_340_7)))) rfl), (show dkN [(0, 90)] (I63 340 8) from dkN_sub f83_340_8 rfl), (show dkN [(3, 9)] (I63 347 0) from dkN_sub (by rw [hF83 347 0 rfl]; exact (by rw [hF82 347 0 rfl]; exact (by rw [hF78 347 0 rfl]; exact (by rw [hF77 347 0 rfl]; exact (by rw [hF63 347 0 rfl]; exact (by rw [hF45 347 0 rfl]; exact np1)))))) rfl), (show dkN [(0, 4)] (I63 347 4) from dkN_sub (by rw [hF83 347 4 rfl]; exact (by rw [hF82 347 4 rfl]; exact (by rw [hF78 347 4 rfl]; exact (by rw [hF77 347 4 rfl]; exact (by rw [hF63 347 4 rfl]; exact (by rw [hF45 347 4 rfl]; exact f44)))))) rfl), (by omega), (dkE_k e87 (by decide)), (((show I63 340 7 = 2 from ((hF83 340 7 rfl).trans ((hF82 340 7 rfl).trans ((hF78 340 7 rfl).trans ((hF77 340 7 rfl).trans y69)))))).trans (dkP_1 e87).symm), (((show I63 340 8 = I0 340 9 from ((hF83 340 8 rfl).trans ((hF82 340 8 rfl).trans ((hF78 340 8 rfl).trans ((hF77 340 8 rfl).trans y71)))))).trans (dkP_2 e87).symm), (show I63 347 0 = I0 347 0 from ((hF83 347 0 rfl).trans ((hF82 347 0 rfl).trans ((hF78 347 0 rfl).trans ((hF77 347 0 rfl).trans ((hF63 347 0 rfl).trans ((hF45 347 0 rfl).trans rfl))))))), (show I63 347 4 = I0 347 4 from ((hF83 347 4 rfl).trans ((hF82 347 4 rfl).trans ((hF78 347 4 rfl).trans ((hF77 347 4 rfl).trans ((hF63 347 4 rfl).trans ((hF45 347 4 rfl).trans rfl))))))), (show I63 347 5 = I0 347 5 from ((hF83 347 5 rfl).trans ((hF82 347 5 rfl).trans ((hF78 347 5 rfl).trans ((hF77 347 5 rfl).trans ((hF63 347 5 rfl).trans ((hF45 347 5 rfl).trans rfl))))))), trivial⟩)⟩, dkW_eq ht hW⟩, hS.F ht⟩) hS.2.2 dX6_readsPerson_149
          ·
            exact absurd ((xv83).trans (rfl).symm) c86
        ·
          exact (dkN_nil (show dkN [] v79 from dkN_eq1 dv79 (dkN_lit (x := 4) (4) rfl) (congrArg Int32.toInt c80) rfl)).elim
      rcases hc63 with ⟨dv63, f63_340_11, f63_340_12, f63_340_7, f63_340_8, x63_0, x63_1, x63_2, x63_3, xr63, xh63_0, xh63_1, xh63_2, xh63_3, xh63_4, xh63_5, -⟩ | hc63
      ·
        have w88 : I45 340 8 = I0 340 8 := y48
        have w89 : I45 340 11 = dkTk (I0 345) (I0 340 6) (I0 340 9) := y51
        have q90 : (dkTk (I0 345) (I0 340 6) (I0 340 9)).toInt = (2 : Int) := by have h := x63_1; rw [w89] at h; exact h
        have w91 : I45 340 12 = dkTv (I0 345) (I0 340 6) (I0 340 9) := y52
        have q92 : (0 : Int) + 0 ≤ (dkTv (I0 345) (I0 340 6) (I0 340 9)).toInt := by have h := x63_2; rw [w91] at h; exact h
        have q93 : ((I0 347 0) - (1 : Int32)).toInt + 1 ≤ (dkTv (I0 345) (I0 340 6) (I0 340 9)).toInt := by have h := x63_3; rw [w91, xv61] at h; exact h
        have y94 : I63 340 7 = 2 := by have h := xh63_0; exact h
        have w95 : I45 340 10 = I0 340 9 := y50
        have y96 : I63 340 8 = I0 340 9 := by have h := xh63_1; rw [w95] at h; exact h
        have w97 : I45 340 9 = dkTe (I0 345) (I0 340 6) (I0 340 9) := y49
        have y98 : I63 340 9 = dkTe (I0 345) (I0 340 6) (I0 340 9) := by have h := xh63_2; rw [w97] at h; exact h
        have y99 : I63 340 10 = I0 340 9 := by have h := xh63_3; rw [w95] at h; exact h
        have y100 : I63 340 11 = dkTk (I0 345) (I0 340 6) (I0 340 9) := by have h := xh63_4; rw [w89] at h; exact h
        have y101 : I63 340 12 = dkTv (I0 345) (I0 340 6) (I0 340 9) := by have h := xh63_5; rw [w91] at h; exact h
        have xv63 : v63 = 0 := by have h := xr63; exact h
        refine lv_istore_n (lv' := [(2, .int v63), (1, .int v58), (0, .ref (z + 340))]) hx hb dX6_readsPerson_61 rfl hl (by decide) rfl (fun ls hl => ?_)
        refine lv_aload_n hx hb dX6_readsPerson_62 rfl (lv_at hl 2 rfl) ?_
        refine lv_iconst (v := 0) hx hb dX6_readsPerson_63 (by decide) ?_
        refine lv_bipush (v := 9) hx hb dX6_readsPerson_64 (by decide) ?_
        refine dk_Vi (As := [.int 0, .int 9]) (rest := []) ⟨hx, hb, hml, hown, hts⟩ (h_X6_follows_0 l g z I63 0 9 (show dkN [(0, 90)] (I63 340 8) from dkN_sub f63_340_8 rfl) hO) (cwV 2 hts gX6_readsPerson_X6_follows rfl rfl rfl (by decide +kernel) ⟨Nat.le_of_ble_eq_true rfl, Nat.le_of_ble_eq_true rfl⟩) (dk_at340 hW) rfl hK hT hW hS rfl hl.1 rfl (Nat.le_of_ble_eq_true rfl) dX6_readsPerson_66 ⟨Nat.zero_le _, Nat.zero_le _⟩ (fun v102 I102 H102 L102 hp102 hW hS => ?_)
        obtain ⟨hF102, hO, hc102⟩ := hp102
        have hF := dkF_call hF hF102 rfl
        have eI102 : I63 = I102 := (dkF_nil hF102).symm
        subst eI102
        obtain ⟨dv102, xr102, -⟩ := hc102
        have xv102 : v102 = 0 := by have h := xr102; exact h
        refine lv_istore_n (lv' := [(3, .int v102), (2, .int v63), (1, .int v58), (0, .ref (z + 340))]) hx hb dX6_readsPerson_69 rfl hl (by decide) rfl (fun ls hl => ?_)
        refine lv_aload_n hx hb dX6_readsPerson_70 rfl (lv_at hl 3 rfl) ?_
        refine lv_iconst (v := 0) hx hb dX6_readsPerson_71 (by decide) ?_
        refine lv_iconst (v := 2) hx hb dX6_readsPerson_72 (by decide) ?_
        refine dk_Vi (As := [.int 0, .int 2]) (rest := []) ⟨hx, hb, hml, hown, hts⟩ (h_X6_follows_0 l g z I63 0 2 (show dkN [(0, 90)] (I63 340 8) from dkN_sub (by rw [hF102 340 8 rfl]; exact f63_340_8) rfl) hO) (cwV 2 hts gX6_readsPerson_X6_follows rfl rfl rfl (by decide +kernel) ⟨Nat.le_of_ble_eq_true rfl, Nat.le_of_ble_eq_true rfl⟩) (dk_at340 hW) rfl hK hT hW hS rfl hl.1 rfl (Nat.le_of_ble_eq_true rfl) dX6_readsPerson_73 ⟨Nat.zero_le _, Nat.zero_le _⟩ (fun v103 I103 H103 L103 hp103 hW hS => ?_)
        obtain ⟨hF103, hO, hc103⟩ := hp103
        have hF := dkF_call hF hF103 rfl
        have eI103 : I63 = I103 := (dkF_nil hF103).symm
        subst eI103
        obtain ⟨dv103, xr103, -⟩ := hc103
        have xv103 : v103 = 0 := by have h := xr103; exact h
        refine lv_istore (lv' := [(4, .int v103), (3, .int v102), (2, .int v63), (1, .int v58), (0, .ref (z + 340))]) hx hb dX6_readsPerson_76 hl (by decide) rfl (fun ls hl => ?_)
        refine lv_aload_n hx hb dX6_readsPerson_78 rfl (lv_at hl 4 rfl) ?_
        refine lv_aload_n hx hb dX6_readsPerson_79 rfl (lv_at hl 4 rfl) ?_
        refine dk_get (k := 340) hx hb hts iX6_readsPerson_6 hown hK (dk_at340 hW) rfl 11 (by decide) (hts (.fieldLink RX6 98 "DogKingsModel" "token" "I") (List.mem_of_getElem? (i := 2) rfl)) rfl dX6_readsPerson_80 ?_
        refine lv_topi (fun v104 ev104 => ?_)
        have dv104 : dkN [(2, 2)] v104 := by rw [ev104]; exact (by rw [hF103 340 11 rfl]; exact (by rw [hF102 340 11 rfl]; exact f63_340_11))
        have xv104 : v104 = dkTk (I0 345) (I0 340 6) (I0 340 9) := ev104.trans ((hF103 340 11 rfl).trans ((hF102 340 11 rfl).trans y100))
        refine lv_iconst (v := 4) hx hb dX6_readsPerson_83 (by decide) ?_
        refine lv_icmp_ne (tgt := 91) hx hb dX6_readsPerson_84 (by decide) (fun c105 => ?_) (fun c105 => ?_)
        ·
          have q106 : (dkTk (I0 345) (I0 340 6) (I0 340 9)).toInt ≠ (4 : Int) := by first | (rw [← xv104]; exact (dk_ne c105)) | (subst xv104; exact (dk_ne c105))
          refine lv_iconst (v := 0) hx hb dX6_readsPerson_91 (by decide) ?_
          refine lv_iconst (v := 1) hx hb dX6_readsPerson_92 (by decide) ?_
          refine dk_Vi (As := [.int 0, .int 1]) (rest := []) ⟨hx, hb, hml, hown, hts⟩ (h_X6_takes_0 l g z I63 0 1 (show dkN [(0, 90)] (I63 340 8) from dkN_sub (by rw [hF103 340 8 rfl]; exact (by rw [hF102 340 8 rfl]; exact f63_340_8)) rfl) hO) (cwV 2 hts gX6_readsPerson_X6_takes rfl rfl rfl (by decide +kernel) ⟨Nat.le_of_ble_eq_true rfl, Nat.le_of_ble_eq_true rfl⟩) (dk_at340 hW) rfl hK hT hW hS rfl hl.1 rfl (Nat.le_of_ble_eq_true rfl) dX6_readsPerson_93 ⟨Nat.zero_le _, Nat.zero_le _⟩ (fun v107 I107 H107 L107 hp107 hW hS => ?_)
          obtain ⟨hF107, hO, hc107⟩ := hp107
          have hF := dkF_call hF hF107 rfl
          have eI107 : I63 = I107 := (dkF_nil hF107).symm
          subst eI107
          obtain ⟨dv107, xr107, -⟩ := hc107
          have xv107 : v107 = 0 := by have h := xr107; exact h
          refine lv_pop hx hb dX6_readsPerson_96 rfl ?_
          refine lv_aload_n hx hb dX6_readsPerson_97 rfl (lv_at hl 4 rfl) ?_
          refine dk_Vi (As := []) (rest := []) ⟨hx, hb, hml, hown, hts⟩ (fx_X6_isWell_7 l g z I63 (show dkN [(0, 90)] (I63 340 8) from dkN_sub (by rw [hF107 340 8 rfl]; exact (by rw [hF103 340 8 rfl]; exact (by rw [hF102 340 8 rfl]; exact f63_340_8))) rfl) hO) (cwV 0 hts gX6_readsPerson_X6_isWell rfl rfl rfl (by decide +kernel) ⟨Nat.le_of_ble_eq_true rfl, Nat.le_of_ble_eq_true rfl⟩) (dk_at340 hW) rfl hK hT hW hS rfl hl.1 rfl (Nat.le_of_ble_eq_true rfl) dX6_readsPerson_98 ⟨Nat.zero_le _, Nat.zero_le _⟩ (fun v108 I108 H108 L108 hp108 hW hS => ?_)
          obtain ⟨hF108, hO, hc108⟩ := hp108
          have hF := dkF_call hF hF108 rfl
          have eI108 : I63 = I108 := (dkF_nil hF108).symm
          subst eI108
          obtain ⟨dv108, f108_340_8, x108_0, xr108, -⟩ := hc108
          have w109 : I63 340 8 = I0 340 9 := ((hF107 340 8 rfl).trans ((hF103 340 8 rfl).trans ((hF102 340 8 rfl).trans y96)))
          have q110 : (0 : Int) + 0 ≤ (I0 340 9).toInt := by have h := x108_0; rw [w109] at h; exact h
          have xv108 : v108 = 0 := by have h := xr108; exact h
          refine lv_if_eq (tgt := 149) hx hb dX6_readsPerson_101 (by decide) (fun c111 => ?_) (fun c111 => ?_)
          ·
            have i0 : (0 : Int32).toInt = 0 := rfl
            have i1 : (1 : Int32).toInt = 1 := rfl
            have i2 : (2 : Int32).toInt = 2 := rfl
            have i3 : (3 : Int32).toInt = 3 := rfl
            have i9 : (9 : Int32).toInt = 9 := rfl
            have i30 : (30 : Int32).toInt = 30 := rfl
            have i44 : (44 : Int32).toInt = 44 := rfl
            have i59 : (59 : Int32).toInt = 59 := rfl
            have i109 : (109 : Int32).toInt = 109 := rfl
            have i116 : (116 : Int32).toInt = 116 := rfl
            have e112 : dkMb (I0 345) (I0 340 6) (I0 347 0) (I0 340 9) = (2, I0 340 9) := (dkTh_q (dkK_2 (T := (I0 345)) (n := (I0 340 6)) (a := I0 340 9) (lo := 0) (hi := ((I0 347 0) - (1 : Int32))) q90 (by omega)) (by decide))
            exact W.vret hx hb hr (fun t ht hW9 => ⟨⟨I63, rfl, ⟨hF, hO, Or.inr (Or.inl ⟨(show dkN [(1, 2)] (I63 340 7) from dkN_sub (by rw [hF108 340 7 rfl]; exact (by rw [hF107 340 7 rfl]; exact (by rw [hF103 340 7 rfl]; exact (by rw [hF102 340 7 rfl]; exact f63_340_7)))) rfl), (show dkN [(0, 90)] (I63 340 8) from dkN_sub f108_340_8 rfl), (show dkN [(3, 9)] (I63 347 0) from dkN_sub (by rw [hF108 347 0 rfl]; exact (by rw [hF107 347 0 rfl]; exact (by rw [hF103 347 0 rfl]; exact (by rw [hF102 347 0 rfl]; exact (by rw [hF63 347 0 rfl]; exact (by rw [hF45 347 0 rfl]; exact np1)))))) rfl), (show dkN [(0, 4)] (I63 347 4) from dkN_sub (by rw [hF108 347 4 rfl]; exact (by rw [hF107 347 4 rfl]; exact (by rw [hF103 347 4 rfl]; exact (by rw [hF102 347 4 rfl]; exact (by rw [hF63 347 4 rfl]; exact (by rw [hF45 347 4 rfl]; exact f44)))))) rfl), (by omega), (dkE_k e112 (by decide)), (((show I63 340 7 = 2 from ((hF108 340 7 rfl).trans ((hF107 340 7 rfl).trans ((hF103 340 7 rfl).trans ((hF102 340 7 rfl).trans y94)))))).trans (dkP_1 e112).symm), (((show I63 340 8 = I0 340 9 from ((hF108 340 8 rfl).trans ((hF107 340 8 rfl).trans ((hF103 340 8 rfl).trans ((hF102 340 8 rfl).trans y96)))))).trans (dkP_2 e112).symm), (show I63 347 0 = I0 347 0 from ((hF108 347 0 rfl).trans ((hF107 347 0 rfl).trans ((hF103 347 0 rfl).trans ((hF102 347 0 rfl).trans ((hF63 347 0 rfl).trans ((hF45 347 0 rfl).trans rfl))))))), (show I63 347 4 = I0 347 4 from ((hF108 347 4 rfl).trans ((hF107 347 4 rfl).trans ((hF103 347 4 rfl).trans ((hF102 347 4 rfl).trans ((hF63 347 4 rfl).trans ((hF45 347 4 rfl).trans rfl))))))), (show I63 347 5 = I0 347 5 from ((hF108 347 5 rfl).trans ((hF107 347 5 rfl).trans ((hF103 347 5 rfl).trans ((hF102 347 5 rfl).trans ((hF63 347 5 rfl).trans ((hF45 347 5 rfl).trans rfl))))))), trivial⟩)⟩, dkW_eq ht hW⟩, hS.F ht⟩) hS.2.2 dX6_readsPerson_149
          ·
            exact absurd ((xv108).trans (rfl).symm) c111
        ·
          exact (dkN_nil (show dkN [] v104 from dkN_eq1 dv104 (dkN_lit (x := 4) (4) rfl) (congrArg Int32.toInt c105) rfl)).elim
      rcases hc63 with ⟨dv63, f63_340_11, f63_340_8, x63_0, x63_1, x63_2, x63_3, xr63, xh63_0, xh63_1, xh63_2, xh63_3, xh63_4, xh63_5, -⟩ | hc63
      ·
        have w113 : I45 340 8 = I0 340 8 := y48
        have w114 : I45 340 11 = dkTk (I0 345) (I0 340 6) (I0 340 9) := y51
        have q115 : (dkTk (I0 345) (I0 340 6) (I0 340 9)).toInt = (2 : Int) := by have h := x63_1; rw [w114] at h; exact h
        have w116 : I45 340 12 = dkTv (I0 345) (I0 340 6) (I0 340 9) := y52
        have q117 : (0 : Int) + 0 ≤ (dkTv (I0 345) (I0 340 6) (I0 340 9)).toInt := by have h := x63_2; rw [w116] at h; exact h
        have q118 : (dkTv (I0 345) (I0 340 6) (I0 340 9)).toInt + 0 ≤ ((I0 347 0) - (1 : Int32)).toInt := by have h := x63_3; rw [w116, xv61] at h; exact h
        have w119 : I45 340 7 = I0 340 7 := y47
        have y120 : I63 340 7 = I0 340 7 := by have h := xh63_0; rw [w119] at h; exact h
        have y121 : I63 340 8 = I0 340 8 := by have h := xh63_1; rw [w113] at h; exact h
        have w122 : I45 345 = I0 345 := ((funext fun j => hF45 345 j (dkNin_k rfl dkNin_nil)).trans rfl)
        have w123 : I45 340 6 = I0 340 6 := ((hF45 340 6 rfl).trans rfl)
        have w124 : I45 340 9 = dkTe (I0 345) (I0 340 6) (I0 340 9) := y49
        have y125 : I63 340 9 = dkTe (I0 345) (I0 340 6) (dkTe (I0 345) (I0 340 6) (I0 340 9)) := by have h := xh63_2; rw [w122, w123, w124] at h; exact h
        have y126 : I63 340 10 = dkTe (I0 345) (I0 340 6) (I0 340 9) := by have h := xh63_3; rw [w124] at h; exact h
        have y127 : I63 340 11 = dkTk (I0 345) (I0 340 6) (dkTe (I0 345) (I0 340 6) (I0 340 9)) := by have h := xh63_4; rw [w122, w123, w124] at h; exact h
        have y128 : I63 340 12 = dkTv (I0 345) (I0 340 6) (dkTe (I0 345) (I0 340 6) (I0 340 9)) := by have h := xh63_5; rw [w122, w123, w124] at h; exact h
        have xv63 : v63 = dkTv (I0 345) (I0 340 6) (I0 340 9) := by have h := xr63; rw [w116] at h; exact h
        refine lv_istore_n (lv' := [(2, .int v63), (1, .int v58), (0, .ref (z + 340))]) hx hb dX6_readsPerson_61 rfl hl (by decide) rfl (fun ls hl => ?_)
        refine lv_aload_n hx hb dX6_readsPerson_62 rfl (lv_at hl 2 rfl) ?_
        refine lv_iconst (v := 0) hx hb dX6_readsPerson_63 (by decide) ?_
        refine lv_bipush (v := 9) hx hb dX6_readsPerson_64 (by decide) ?_
        refine dk_Vi (As := [.int 0, .int 9]) (rest := []) ⟨hx, hb, hml, hown, hts⟩ (fx_X6_follows_8 l g z I63 0 9 (dkN_lit (x := 0) (0) rfl) (dkN_lit (x := 9) (9) rfl) (show dkN [(-1, -1)] (I63 340 8) from dkN_sub f63_340_8 rfl) hO) (cwV 2 hts gX6_readsPerson_X6_follows rfl rfl rfl (by decide +kernel) ⟨Nat.le_of_ble_eq_true rfl, Nat.le_of_ble_eq_true rfl⟩) (dk_at340 hW) rfl hK hT hW hS rfl hl.1 rfl (Nat.le_of_ble_eq_true rfl) dX6_readsPerson_66 ⟨Nat.zero_le _, Nat.zero_le _⟩ (fun v129 I129 H129 L129 hp129 hW hS => ?_)
        obtain ⟨hF129, hO, hc129⟩ := hp129
        have hF := dkF_call hF hF129 rfl
        rcases hc129 with ⟨dv129, f129_340_11, f129_340_7, f129_340_8, x129_0, x129_1, xr129, xh129_0, xh129_1, xh129_2, xh129_3, xh129_4, xh129_5, -⟩ | hc129
        ·
          have w130 : I63 340 11 = dkTk (I0 345) (I0 340 6) (dkTe (I0 345) (I0 340 6) (I0 340 9)) := y127
          have q131 : (dkTk (I0 345) (I0 340 6) (dkTe (I0 345) (I0 340 6) (I0 340 9))).toInt ≠ (3 : Int) := by have h := x129_0; rw [w130] at h; exact h
          have w132 : I63 340 8 = I0 340 8 := y121
          have y133 : I129 340 7 = 1 := by have h := xh129_0; exact h
          have w134 : I63 340 10 = dkTe (I0 345) (I0 340 6) (I0 340 9) := y126
          have y135 : I129 340 8 = dkTe (I0 345) (I0 340 6) (I0 340 9) := by have h := xh129_1; rw [w134] at h; exact h
          have w136 : I63 340 9 = dkTe (I0 345) (I0 340 6) (dkTe (I0 345) (I0 340 6) (I0 340 9)) := y125
          have y137 : I129 340 9 = dkTe (I0 345) (I0 340 6) (dkTe (I0 345) (I0 340 6) (I0 340 9)) := by have h := xh129_2; rw [w136] at h; exact h
          have y138 : I129 340 10 = dkTe (I0 345) (I0 340 6) (I0 340 9) := by have h := xh129_3; rw [w134] at h; exact h
          have y139 : I129 340 11 = dkTk (I0 345) (I0 340 6) (dkTe (I0 345) (I0 340 6) (I0 340 9)) := by have h := xh129_4; rw [w130] at h; exact h
          have w140 : I63 340 12 = dkTv (I0 345) (I0 340 6) (dkTe (I0 345) (I0 340 6) (I0 340 9)) := y128
          have y141 : I129 340 12 = dkTv (I0 345) (I0 340 6) (dkTe (I0 345) (I0 340 6) (I0 340 9)) := by have h := xh129_5; rw [w140] at h; exact h
          have xv129 : v129 = 0 := by have h := xr129; exact h
          refine lv_istore_n (lv' := [(3, .int v129), (2, .int v63), (1, .int v58), (0, .ref (z + 340))]) hx hb dX6_readsPerson_69 rfl hl (by decide) rfl (fun ls hl => ?_)
          refine lv_aload_n hx hb dX6_readsPerson_70 rfl (lv_at hl 3 rfl) ?_
          refine lv_iconst (v := 0) hx hb dX6_readsPerson_71 (by decide) ?_
          refine lv_iconst (v := 2) hx hb dX6_readsPerson_72 (by decide) ?_
          refine dk_Vi (As := [.int 0, .int 2]) (rest := []) ⟨hx, hb, hml, hown, hts⟩ (h_X6_follows_0 l g z I129 0 2 (show dkN [(0, 90)] (I129 340 8) from dkN_sub f129_340_8 rfl) hO) (cwV 2 hts gX6_readsPerson_X6_follows rfl rfl rfl (by decide +kernel) ⟨Nat.le_of_ble_eq_true rfl, Nat.le_of_ble_eq_true rfl⟩) (dk_at340 hW) rfl hK hT hW hS rfl hl.1 rfl (Nat.le_of_ble_eq_true rfl) dX6_readsPerson_73 ⟨Nat.zero_le _, Nat.zero_le _⟩ (fun v142 I142 H142 L142 hp142 hW hS => ?_)
          obtain ⟨hF142, hO, hc142⟩ := hp142
          have hF := dkF_call hF hF142 rfl
          have eI142 : I129 = I142 := (dkF_nil hF142).symm
          subst eI142
          obtain ⟨dv142, xr142, -⟩ := hc142
          have xv142 : v142 = 0 := by have h := xr142; exact h
          refine lv_istore (lv' := [(4, .int v142), (3, .int v129), (2, .int v63), (1, .int v58), (0, .ref (z + 340))]) hx hb dX6_readsPerson_76 hl (by decide) rfl (fun ls hl => ?_)
          refine lv_aload_n hx hb dX6_readsPerson_78 rfl (lv_at hl 4 rfl) ?_
          refine lv_aload_n hx hb dX6_readsPerson_79 rfl (lv_at hl 4 rfl) ?_
          refine dk_get (k := 340) hx hb hts iX6_readsPerson_6 hown hK (dk_at340 hW) rfl 11 (by decide) (hts (.fieldLink RX6 98 "DogKingsModel" "token" "I") (List.mem_of_getElem? (i := 2) rfl)) rfl dX6_readsPerson_80 ?_
          refine lv_topi (fun v143 ev143 => ?_)
          have dv143 : dkN [(-2147483648, 2), (4, 2147483647)] v143 := by rw [ev143]; exact (by rw [hF142 340 11 rfl]; exact f129_340_11)
          have xv143 : v143 = dkTk (I0 345) (I0 340 6) (dkTe (I0 345) (I0 340 6) (I0 340 9)) := ev143.trans ((hF142 340 11 rfl).trans y139)
          refine lv_iconst (v := 4) hx hb dX6_readsPerson_83 (by decide) ?_
          refine lv_icmp_ne (tgt := 91) hx hb dX6_readsPerson_84 (by decide) (fun c144 => ?_) (fun c144 => ?_)
          ·
            have q145 : (dkTk (I0 345) (I0 340 6) (dkTe (I0 345) (I0 340 6) (I0 340 9))).toInt ≠ (4 : Int) := by first | (rw [← xv143]; exact (dk_ne c144)) | (subst xv143; exact (dk_ne c144))
            have d146 : dkN [(-2147483648, 2), (5, 2147483647)] v143 := dkN_ne1 (4) dv143 (dkN_lit (x := 4) (4) rfl) (dk_ne c144) rfl
            have f147 : dkN [(-2147483648, 2), (5, 2147483647)] (I129 340 11) := by rw [← ev143]; exact d146
            refine lv_iconst (v := 0) hx hb dX6_readsPerson_91 (by decide) ?_
            refine lv_iconst (v := 1) hx hb dX6_readsPerson_92 (by decide) ?_
            refine dk_Vi (As := [.int 0, .int 1]) (rest := []) ⟨hx, hb, hml, hown, hts⟩ (h_X6_takes_0 l g z I129 0 1 (show dkN [(0, 90)] (I129 340 8) from dkN_sub (by rw [hF142 340 8 rfl]; exact f129_340_8) rfl) hO) (cwV 2 hts gX6_readsPerson_X6_takes rfl rfl rfl (by decide +kernel) ⟨Nat.le_of_ble_eq_true rfl, Nat.le_of_ble_eq_true rfl⟩) (dk_at340 hW) rfl hK hT hW hS rfl hl.1 rfl (Nat.le_of_ble_eq_true rfl) dX6_readsPerson_93 ⟨Nat.zero_le _, Nat.zero_le _⟩ (fun v148 I148 H148 L148 hp148 hW hS => ?_)
            obtain ⟨hF148, hO, hc148⟩ := hp148
            have hF := dkF_call hF hF148 rfl
            have eI148 : I129 = I148 := (dkF_nil hF148).symm
            subst eI148
            obtain ⟨dv148, xr148, -⟩ := hc148
            have xv148 : v148 = 0 := by have h := xr148; exact h
            refine lv_pop hx hb dX6_readsPerson_96 rfl ?_
            refine lv_aload_n hx hb dX6_readsPerson_97 rfl (lv_at hl 4 rfl) ?_
            refine dk_Vi (As := []) (rest := []) ⟨hx, hb, hml, hown, hts⟩ (fx_X6_isWell_7 l g z I129 (show dkN [(0, 90)] (I129 340 8) from dkN_sub (by rw [hF148 340 8 rfl]; exact (by rw [hF142 340 8 rfl]; exact f129_340_8)) rfl) hO) (cwV 0 hts gX6_readsPerson_X6_isWell rfl rfl rfl (by decide +kernel) ⟨Nat.le_of_ble_eq_true rfl, Nat.le_of_ble_eq_true rfl⟩) (dk_at340 hW) rfl hK hT hW hS rfl hl.1 rfl (Nat.le_of_ble_eq_true rfl) dX6_readsPerson_98 ⟨Nat.zero_le _, Nat.zero_le _⟩ (fun v149 I149 H149 L149 hp149 hW hS => ?_)
            obtain ⟨hF149, hO, hc149⟩ := hp149
            have hF := dkF_call hF hF149 rfl
            have eI149 : I129 = I149 := (dkF_nil hF149).symm
            subst eI149
            obtain ⟨dv149, f149_340_8, x149_0, xr149, -⟩ := hc149
            have w150 : I129 340 8 = dkTe (I0 345) (I0 340 6) (I0 340 9) := ((hF148 340 8 rfl).trans ((hF142 340 8 rfl).trans y135))
            have q151 : (0 : Int) + 0 ≤ (dkTe (I0 345) (I0 340 6) (I0 340 9)).toInt := by have h := x149_0; rw [w150] at h; exact h
            have xv149 : v149 = 0 := by have h := xr149; exact h
            refine lv_if_eq (tgt := 149) hx hb dX6_readsPerson_101 (by decide) (fun c152 => ?_) (fun c152 => ?_)
            ·
              have i0 : (0 : Int32).toInt = 0 := rfl
              have i1 : (1 : Int32).toInt = 1 := rfl
              have i2 : (2 : Int32).toInt = 2 := rfl
              have i3 : (3 : Int32).toInt = 3 := rfl
              have i9 : (9 : Int32).toInt = 9 := rfl
              have i30 : (30 : Int32).toInt = 30 := rfl
              have i44 : (44 : Int32).toInt = 44 := rfl
              have i59 : (59 : Int32).toInt = 59 := rfl
              have i109 : (109 : Int32).toInt = 109 := rfl
              have i116 : (116 : Int32).toInt = 116 := rfl
              have e153 : dkMb (I0 345) (I0 340 6) (I0 347 0) (I0 340 9) = (1, dkTe (I0 345) (I0 340 6) (I0 340 9)) := ((dkTh_p (dkK_0 (T := (I0 345)) (n := (I0 340 6)) (a := I0 340 9) (lo := 0) (hi := ((I0 347 0) - (1 : Int32))) q115 (by omega) (by omega))).trans (dkTh_q (dkK_cn (T := (I0 345)) (n := (I0 340 6)) (a := dkTe (I0 345) (I0 340 6) (I0 340 9)) q131) (by decide)))
              exact W.vret hx hb hr (fun t ht hW9 => ⟨⟨I129, rfl, ⟨hF, hO, Or.inr (Or.inl ⟨(show dkN [(1, 2)] (I129 340 7) from dkN_sub (by rw [hF149 340 7 rfl]; exact (by rw [hF148 340 7 rfl]; exact (by rw [hF142 340 7 rfl]; exact f129_340_7))) rfl), (show dkN [(0, 90)] (I129 340 8) from dkN_sub f149_340_8 rfl), (show dkN [(3, 9)] (I129 347 0) from dkN_sub (by rw [hF149 347 0 rfl]; exact (by rw [hF148 347 0 rfl]; exact (by rw [hF142 347 0 rfl]; exact (by rw [hF129 347 0 rfl]; exact (by rw [hF63 347 0 rfl]; exact (by rw [hF45 347 0 rfl]; exact np1)))))) rfl), (show dkN [(0, 4)] (I129 347 4) from dkN_sub (by rw [hF149 347 4 rfl]; exact (by rw [hF148 347 4 rfl]; exact (by rw [hF142 347 4 rfl]; exact (by rw [hF129 347 4 rfl]; exact (by rw [hF63 347 4 rfl]; exact (by rw [hF45 347 4 rfl]; exact f44)))))) rfl), (by omega), (dkE_k e153 (by decide)), (((show I129 340 7 = 1 from ((hF149 340 7 rfl).trans ((hF148 340 7 rfl).trans ((hF142 340 7 rfl).trans y133))))).trans (dkP_1 e153).symm), (((show I129 340 8 = dkTe (I0 345) (I0 340 6) (I0 340 9) from ((hF149 340 8 rfl).trans ((hF148 340 8 rfl).trans ((hF142 340 8 rfl).trans y135))))).trans (dkP_2 e153).symm), (show I129 347 0 = I0 347 0 from ((hF149 347 0 rfl).trans ((hF148 347 0 rfl).trans ((hF142 347 0 rfl).trans ((hF129 347 0 rfl).trans ((hF63 347 0 rfl).trans ((hF45 347 0 rfl).trans rfl))))))), (show I129 347 4 = I0 347 4 from ((hF149 347 4 rfl).trans ((hF148 347 4 rfl).trans ((hF142 347 4 rfl).trans ((hF129 347 4 rfl).trans ((hF63 347 4 rfl).trans ((hF45 347 4 rfl).trans rfl))))))), (show I129 347 5 = I0 347 5 from ((hF149 347 5 rfl).trans ((hF148 347 5 rfl).trans ((hF142 347 5 rfl).trans ((hF129 347 5 rfl).trans ((hF63 347 5 rfl).trans ((hF45 347 5 rfl).trans rfl))))))), trivial⟩)⟩, dkW_eq ht hW⟩, hS.F ht⟩) hS.2.2 dX6_readsPerson_149
            ·
              exact absurd ((xv149).trans (rfl).symm) c152
          ·
            have q154 : (dkTk (I0 345) (I0 340 6) (dkTe (I0 345) (I0 340 6) (I0 340 9))).toInt = (4 : Int) := by first | (rw [← xv143]; exact (congrArg Int32.toInt c144)) | (subst xv143; exact (congrArg Int32.toInt c144))
            have d155 : dkN [(4, 4)] v143 := dkN_eq1 dv143 (dkN_lit (x := 4) (4) rfl) (congrArg Int32.toInt c144) rfl
            have f156 : dkN [(4, 4)] (I129 340 11) := by rw [← ev143]; exact d155
            refine lv_iconst (v := 1) hx hb dX6_readsPerson_87 (by decide) ?_
            refine lv_goto (tgt := 92) hx hb dX6_readsPerson_88 (by decide) ?_
            refine lv_iconst (v := 1) hx hb dX6_readsPerson_92 (by decide) ?_
            refine dk_Vi (As := [.int 1, .int 1]) (rest := []) ⟨hx, hb, hml, hown, hts⟩ (h_X6_takes_0 l g z I129 1 1 (show dkN [(0, 90)] (I129 340 8) from dkN_sub (by rw [hF142 340 8 rfl]; exact f129_340_8) rfl) hO) (cwV 2 hts gX6_readsPerson_X6_takes rfl rfl rfl (by decide +kernel) ⟨Nat.le_of_ble_eq_true rfl, Nat.le_of_ble_eq_true rfl⟩) (dk_at340 hW) rfl hK hT hW hS rfl hl.1 rfl (Nat.le_of_ble_eq_true rfl) dX6_readsPerson_93 ⟨Nat.zero_le _, Nat.zero_le _⟩ (fun v157 I157 H157 L157 hp157 hW hS => ?_)
            obtain ⟨hF157, hO, hc157⟩ := hp157
            have hF := dkF_call hF hF157 rfl
            have eI157 : I129 = I157 := (dkF_nil hF157).symm
            subst eI157
            obtain ⟨dv157, xr157, -⟩ := hc157
            have xv157 : v157 = 0 := by have h := xr157; exact h
            refine lv_pop hx hb dX6_readsPerson_96 rfl ?_
            refine lv_aload_n hx hb dX6_readsPerson_97 rfl (lv_at hl 4 rfl) ?_
            refine dk_Vi (As := []) (rest := []) ⟨hx, hb, hml, hown, hts⟩ (fx_X6_isWell_7 l g z I129 (show dkN [(0, 90)] (I129 340 8) from dkN_sub (by rw [hF157 340 8 rfl]; exact (by rw [hF142 340 8 rfl]; exact f129_340_8)) rfl) hO) (cwV 0 hts gX6_readsPerson_X6_isWell rfl rfl rfl (by decide +kernel) ⟨Nat.le_of_ble_eq_true rfl, Nat.le_of_ble_eq_true rfl⟩) (dk_at340 hW) rfl hK hT hW hS rfl hl.1 rfl (Nat.le_of_ble_eq_true rfl) dX6_readsPerson_98 ⟨Nat.zero_le _, Nat.zero_le _⟩ (fun v158 I158 H158 L158 hp158 hW hS => ?_)
            obtain ⟨hF158, hO, hc158⟩ := hp158
            have hF := dkF_call hF hF158 rfl
            have eI158 : I129 = I158 := (dkF_nil hF158).symm
            subst eI158
            obtain ⟨dv158, f158_340_8, x158_0, xr158, -⟩ := hc158
            have w159 : I129 340 8 = dkTe (I0 345) (I0 340 6) (I0 340 9) := ((hF157 340 8 rfl).trans ((hF142 340 8 rfl).trans y135))
            have q160 : (0 : Int) + 0 ≤ (dkTe (I0 345) (I0 340 6) (I0 340 9)).toInt := by have h := x158_0; rw [w159] at h; exact h
            have xv158 : v158 = 0 := by have h := xr158; exact h
            refine lv_if_eq (tgt := 149) hx hb dX6_readsPerson_101 (by decide) (fun c161 => ?_) (fun c161 => ?_)
            ·
              have i0 : (0 : Int32).toInt = 0 := rfl
              have i1 : (1 : Int32).toInt = 1 := rfl
              have i2 : (2 : Int32).toInt = 2 := rfl
              have i3 : (3 : Int32).toInt = 3 := rfl
              have i9 : (9 : Int32).toInt = 9 := rfl
              have i30 : (30 : Int32).toInt = 30 := rfl
              have i44 : (44 : Int32).toInt = 44 := rfl
              have i59 : (59 : Int32).toInt = 59 := rfl
              have i109 : (109 : Int32).toInt = 109 := rfl
              have i116 : (116 : Int32).toInt = 116 := rfl
              have e162 : dkMb (I0 345) (I0 340 6) (I0 347 0) (I0 340 9) = (1, dkTe (I0 345) (I0 340 6) (I0 340 9)) := ((dkTh_p (dkK_0 (T := (I0 345)) (n := (I0 340 6)) (a := I0 340 9) (lo := 0) (hi := ((I0 347 0) - (1 : Int32))) q115 (by omega) (by omega))).trans (dkTh_q (dkK_cn (T := (I0 345)) (n := (I0 340 6)) (a := dkTe (I0 345) (I0 340 6) (I0 340 9)) q131) (by decide)))
              exact W.vret hx hb hr (fun t ht hW9 => ⟨⟨I129, rfl, ⟨hF, hO, Or.inr (Or.inl ⟨(show dkN [(1, 2)] (I129 340 7) from dkN_sub (by rw [hF158 340 7 rfl]; exact (by rw [hF157 340 7 rfl]; exact (by rw [hF142 340 7 rfl]; exact f129_340_7))) rfl), (show dkN [(0, 90)] (I129 340 8) from dkN_sub f158_340_8 rfl), (show dkN [(3, 9)] (I129 347 0) from dkN_sub (by rw [hF158 347 0 rfl]; exact (by rw [hF157 347 0 rfl]; exact (by rw [hF142 347 0 rfl]; exact (by rw [hF129 347 0 rfl]; exact (by rw [hF63 347 0 rfl]; exact (by rw [hF45 347 0 rfl]; exact np1)))))) rfl), (show dkN [(0, 4)] (I129 347 4) from dkN_sub (by rw [hF158 347 4 rfl]; exact (by rw [hF157 347 4 rfl]; exact (by rw [hF142 347 4 rfl]; exact (by rw [hF129 347 4 rfl]; exact (by rw [hF63 347 4 rfl]; exact (by rw [hF45 347 4 rfl]; exact f44)))))) rfl), (by omega), (dkE_k e162 (by decide)), (((show I129 340 7 = 1 from ((hF158 340 7 rfl).trans ((hF157 340 7 rfl).trans ((hF142 340 7 rfl).trans y133))))).trans (dkP_1 e162).symm), (((show I129 340 8 = dkTe (I0 345) (I0 340 6) (I0 340 9) from ((hF158 340 8 rfl).trans ((hF157 340 8 rfl).trans ((hF142 340 8 rfl).trans y135))))).trans (dkP_2 e162).symm), (show I129 347 0 = I0 347 0 from ((hF158 347 0 rfl).trans ((hF157 347 0 rfl).trans ((hF142 347 0 rfl).trans ((hF129 347 0 rfl).trans ((hF63 347 0 rfl).trans ((hF45 347 0 rfl).trans rfl))))))), (show I129 347 4 = I0 347 4 from ((hF158 347 4 rfl).trans ((hF157 347 4 rfl).trans ((hF142 347 4 rfl).trans ((hF129 347 4 rfl).trans ((hF63 347 4 rfl).trans ((hF45 347 4 rfl).trans rfl))))))), (show I129 347 5 = I0 347 5 from ((hF158 347 5 rfl).trans ((hF157 347 5 rfl).trans ((hF142 347 5 rfl).trans ((hF129 347 5 rfl).trans ((hF63 347 5 rfl).trans ((hF45 347 5 rfl).trans rfl))))))), trivial⟩)⟩, dkW_eq ht hW⟩, hS.F ht⟩) hS.2.2 dX6_readsPerson_149
            ·
              exact absurd ((xv158).trans (rfl).symm) c161
        rcases hc129 with ⟨dv129, f129_340_11, f129_340_12, f129_340_7, f129_340_8, x129_0, x129_1, x129_2, x129_3, xr129, xh129_0, xh129_1, xh129_2, xh129_3, xh129_4, xh129_5, -⟩ | hc129
        ·
          have w163 : I63 340 11 = dkTk (I0 345) (I0 340 6) (dkTe (I0 345) (I0 340 6) (I0 340 9)) := y127
          have q164 : (dkTk (I0 345) (I0 340 6) (dkTe (I0 345) (I0 340 6) (I0 340 9))).toInt = (3 : Int) := by have h := x129_0; rw [w163] at h; exact h
          have w165 : I63 340 8 = I0 340 8 := y121
          have w166 : I63 345 = I0 345 := ((funext fun j => hF63 345 j (dkNin_k rfl dkNin_nil)).trans ((funext fun j => hF45 345 j (dkNin_k rfl dkNin_nil)).trans rfl))
          have w167 : I63 340 6 = I0 340 6 := ((hF63 340 6 rfl).trans ((hF45 340 6 rfl).trans rfl))
          have w168 : I63 340 9 = dkTe (I0 345) (I0 340 6) (dkTe (I0 345) (I0 340 6) (I0 340 9)) := y125
          have q169 : (dkTk (I0 345) (I0 340 6) (dkTe (I0 345) (I0 340 6) (dkTe (I0 345) (I0 340 6) (I0 340 9)))).toInt = (2 : Int) := by have h := x129_2; rw [w166, w167, w168] at h; exact h
          have q170 : (dkTv (I0 345) (I0 340 6) (dkTe (I0 345) (I0 340 6) (dkTe (I0 345) (I0 340 6) (I0 340 9)))).toInt + 1 ≤ (0 : Int) := by have h := x129_3; rw [w166, w167, w168] at h; exact h
          have y171 : I129 340 7 = 2 := by have h := xh129_0; exact h
          have y172 : I129 340 8 = dkTe (I0 345) (I0 340 6) (dkTe (I0 345) (I0 340 6) (I0 340 9)) := by have h := xh129_1; rw [w168] at h; exact h
          have y173 : I129 340 9 = dkTe (I0 345) (I0 340 6) (dkTe (I0 345) (I0 340 6) (dkTe (I0 345) (I0 340 6) (I0 340 9))) := by have h := xh129_2; rw [w166, w167, w168] at h; exact h
          have y174 : I129 340 10 = dkTe (I0 345) (I0 340 6) (dkTe (I0 345) (I0 340 6) (I0 340 9)) := by have h := xh129_3; rw [w168] at h; exact h
          have y175 : I129 340 11 = dkTk (I0 345) (I0 340 6) (dkTe (I0 345) (I0 340 6) (dkTe (I0 345) (I0 340 6) (I0 340 9))) := by have h := xh129_4; rw [w166, w167, w168] at h; exact h
          have y176 : I129 340 12 = dkTv (I0 345) (I0 340 6) (dkTe (I0 345) (I0 340 6) (dkTe (I0 345) (I0 340 6) (I0 340 9))) := by have h := xh129_5; rw [w166, w167, w168] at h; exact h
          have xv129 : v129 = 0 := by have h := xr129; exact h
          refine lv_istore_n (lv' := [(3, .int v129), (2, .int v63), (1, .int v58), (0, .ref (z + 340))]) hx hb dX6_readsPerson_69 rfl hl (by decide) rfl (fun ls hl => ?_)
          refine lv_aload_n hx hb dX6_readsPerson_70 rfl (lv_at hl 3 rfl) ?_
          refine lv_iconst (v := 0) hx hb dX6_readsPerson_71 (by decide) ?_
          refine lv_iconst (v := 2) hx hb dX6_readsPerson_72 (by decide) ?_
          refine dk_Vi (As := [.int 0, .int 2]) (rest := []) ⟨hx, hb, hml, hown, hts⟩ (h_X6_follows_0 l g z I129 0 2 (show dkN [(0, 90)] (I129 340 8) from dkN_sub f129_340_8 rfl) hO) (cwV 2 hts gX6_readsPerson_X6_follows rfl rfl rfl (by decide +kernel) ⟨Nat.le_of_ble_eq_true rfl, Nat.le_of_ble_eq_true rfl⟩) (dk_at340 hW) rfl hK hT hW hS rfl hl.1 rfl (Nat.le_of_ble_eq_true rfl) dX6_readsPerson_73 ⟨Nat.zero_le _, Nat.zero_le _⟩ (fun v177 I177 H177 L177 hp177 hW hS => ?_)
          obtain ⟨hF177, hO, hc177⟩ := hp177
          have hF := dkF_call hF hF177 rfl
          have eI177 : I129 = I177 := (dkF_nil hF177).symm
          subst eI177
          obtain ⟨dv177, xr177, -⟩ := hc177
          have xv177 : v177 = 0 := by have h := xr177; exact h
          refine lv_istore (lv' := [(4, .int v177), (3, .int v129), (2, .int v63), (1, .int v58), (0, .ref (z + 340))]) hx hb dX6_readsPerson_76 hl (by decide) rfl (fun ls hl => ?_)
          refine lv_aload_n hx hb dX6_readsPerson_78 rfl (lv_at hl 4 rfl) ?_
          refine lv_aload_n hx hb dX6_readsPerson_79 rfl (lv_at hl 4 rfl) ?_
          refine dk_get (k := 340) hx hb hts iX6_readsPerson_6 hown hK (dk_at340 hW) rfl 11 (by decide) (hts (.fieldLink RX6 98 "DogKingsModel" "token" "I") (List.mem_of_getElem? (i := 2) rfl)) rfl dX6_readsPerson_80 ?_
          refine lv_topi (fun v178 ev178 => ?_)
          have dv178 : dkN [(2, 2)] v178 := by rw [ev178]; exact (by rw [hF177 340 11 rfl]; exact f129_340_11)
          have xv178 : v178 = dkTk (I0 345) (I0 340 6) (dkTe (I0 345) (I0 340 6) (dkTe (I0 345) (I0 340 6) (I0 340 9))) := ev178.trans ((hF177 340 11 rfl).trans y175)
          refine lv_iconst (v := 4) hx hb dX6_readsPerson_83 (by decide) ?_
          refine lv_icmp_ne (tgt := 91) hx hb dX6_readsPerson_84 (by decide) (fun c179 => ?_) (fun c179 => ?_)
          ·
            have q180 : (dkTk (I0 345) (I0 340 6) (dkTe (I0 345) (I0 340 6) (dkTe (I0 345) (I0 340 6) (I0 340 9)))).toInt ≠ (4 : Int) := by first | (rw [← xv178]; exact (dk_ne c179)) | (subst xv178; exact (dk_ne c179))
            refine lv_iconst (v := 0) hx hb dX6_readsPerson_91 (by decide) ?_
            refine lv_iconst (v := 1) hx hb dX6_readsPerson_92 (by decide) ?_
            refine dk_Vi (As := [.int 0, .int 1]) (rest := []) ⟨hx, hb, hml, hown, hts⟩ (h_X6_takes_0 l g z I129 0 1 (show dkN [(0, 90)] (I129 340 8) from dkN_sub (by rw [hF177 340 8 rfl]; exact f129_340_8) rfl) hO) (cwV 2 hts gX6_readsPerson_X6_takes rfl rfl rfl (by decide +kernel) ⟨Nat.le_of_ble_eq_true rfl, Nat.le_of_ble_eq_true rfl⟩) (dk_at340 hW) rfl hK hT hW hS rfl hl.1 rfl (Nat.le_of_ble_eq_true rfl) dX6_readsPerson_93 ⟨Nat.zero_le _, Nat.zero_le _⟩ (fun v181 I181 H181 L181 hp181 hW hS => ?_)
            obtain ⟨hF181, hO, hc181⟩ := hp181
            have hF := dkF_call hF hF181 rfl
            have eI181 : I129 = I181 := (dkF_nil hF181).symm
            subst eI181
            obtain ⟨dv181, xr181, -⟩ := hc181
            have xv181 : v181 = 0 := by have h := xr181; exact h
            refine lv_pop hx hb dX6_readsPerson_96 rfl ?_
            refine lv_aload_n hx hb dX6_readsPerson_97 rfl (lv_at hl 4 rfl) ?_
            refine dk_Vi (As := []) (rest := []) ⟨hx, hb, hml, hown, hts⟩ (fx_X6_isWell_7 l g z I129 (show dkN [(0, 90)] (I129 340 8) from dkN_sub (by rw [hF181 340 8 rfl]; exact (by rw [hF177 340 8 rfl]; exact f129_340_8)) rfl) hO) (cwV 0 hts gX6_readsPerson_X6_isWell rfl rfl rfl (by decide +kernel) ⟨Nat.le_of_ble_eq_true rfl, Nat.le_of_ble_eq_true rfl⟩) (dk_at340 hW) rfl hK hT hW hS rfl hl.1 rfl (Nat.le_of_ble_eq_true rfl) dX6_readsPerson_98 ⟨Nat.zero_le _, Nat.zero_le _⟩ (fun v182 I182 H182 L182 hp182 hW hS => ?_)
            obtain ⟨hF182, hO, hc182⟩ := hp182
            have hF := dkF_call hF hF182 rfl
            have eI182 : I129 = I182 := (dkF_nil hF182).symm
            subst eI182
            obtain ⟨dv182, f182_340_8, x182_0, xr182, -⟩ := hc182
            have w183 : I129 340 8 = dkTe (I0 345) (I0 340 6) (dkTe (I0 345) (I0 340 6) (I0 340 9)) := ((hF181 340 8 rfl).trans ((hF177 340 8 rfl).trans y172))
            have q184 : (0 : Int) + 0 ≤ (dkTe (I0 345) (I0 340 6) (dkTe (I0 345) (I0 340 6) (I0 340 9))).toInt := by have h := x182_0; rw [w183] at h; exact h
            have xv182 : v182 = 0 := by have h := xr182; exact h
            refine lv_if_eq (tgt := 149) hx hb dX6_readsPerson_101 (by decide) (fun c185 => ?_) (fun c185 => ?_)
            ·
              have i0 : (0 : Int32).toInt = 0 := rfl
              have i1 : (1 : Int32).toInt = 1 := rfl
              have i2 : (2 : Int32).toInt = 2 := rfl
              have i3 : (3 : Int32).toInt = 3 := rfl
              have i9 : (9 : Int32).toInt = 9 := rfl
              have i30 : (30 : Int32).toInt = 30 := rfl
              have i44 : (44 : Int32).toInt = 44 := rfl
              have i59 : (59 : Int32).toInt = 59 := rfl
              have i109 : (109 : Int32).toInt = 109 := rfl
              have i116 : (116 : Int32).toInt = 116 := rfl
              have e186 : dkMb (I0 345) (I0 340 6) (I0 347 0) (I0 340 9) = (2, dkTe (I0 345) (I0 340 6) (dkTe (I0 345) (I0 340 6) (I0 340 9))) := ((dkTh_p (dkK_0 (T := (I0 345)) (n := (I0 340 6)) (a := I0 340 9) (lo := 0) (hi := ((I0 347 0) - (1 : Int32))) q115 (by omega) (by omega))).trans ((dkTh_p (dkK_c (T := (I0 345)) (n := (I0 340 6)) (a := dkTe (I0 345) (I0 340 6) (I0 340 9)) q164)).trans (dkTh_q (dkK_2 (T := (I0 345)) (n := (I0 340 6)) (a := dkTe (I0 345) (I0 340 6) (dkTe (I0 345) (I0 340 6) (I0 340 9))) (lo := 0) (hi := 9) q169 (by omega)) (by decide))))
              exact W.vret hx hb hr (fun t ht hW9 => ⟨⟨I129, rfl, ⟨hF, hO, Or.inr (Or.inl ⟨(show dkN [(1, 2)] (I129 340 7) from dkN_sub (by rw [hF182 340 7 rfl]; exact (by rw [hF181 340 7 rfl]; exact (by rw [hF177 340 7 rfl]; exact f129_340_7))) rfl), (show dkN [(0, 90)] (I129 340 8) from dkN_sub f182_340_8 rfl), (show dkN [(3, 9)] (I129 347 0) from dkN_sub (by rw [hF182 347 0 rfl]; exact (by rw [hF181 347 0 rfl]; exact (by rw [hF177 347 0 rfl]; exact (by rw [hF129 347 0 rfl]; exact (by rw [hF63 347 0 rfl]; exact (by rw [hF45 347 0 rfl]; exact np1)))))) rfl), (show dkN [(0, 4)] (I129 347 4) from dkN_sub (by rw [hF182 347 4 rfl]; exact (by rw [hF181 347 4 rfl]; exact (by rw [hF177 347 4 rfl]; exact (by rw [hF129 347 4 rfl]; exact (by rw [hF63 347 4 rfl]; exact (by rw [hF45 347 4 rfl]; exact f44)))))) rfl), (by omega), (dkE_k e186 (by decide)), (((show I129 340 7 = 2 from ((hF182 340 7 rfl).trans ((hF181 340 7 rfl).trans ((hF177 340 7 rfl).trans y171))))).trans (dkP_1 e186).symm), (((show I129 340 8 = dkTe (I0 345) (I0 340 6) (dkTe (I0 345) (I0 340 6) (I0 340 9)) from ((hF182 340 8 rfl).trans ((hF181 340 8 rfl).trans ((hF177 340 8 rfl).trans y172))))).trans (dkP_2 e186).symm), (show I129 347 0 = I0 347 0 from ((hF182 347 0 rfl).trans ((hF181 347 0 rfl).trans ((hF177 347 0 rfl).trans ((hF129 347 0 rfl).trans ((hF63 347 0 rfl).trans ((hF45 347 0 rfl).trans rfl))))))), (show I129 347 4 = I0 347 4 from ((hF182 347 4 rfl).trans ((hF181 347 4 rfl).trans ((hF177 347 4 rfl).trans ((hF129 347 4 rfl).trans ((hF63 347 4 rfl).trans ((hF45 347 4 rfl).trans rfl))))))), (show I129 347 5 = I0 347 5 from ((hF182 347 5 rfl).trans ((hF181 347 5 rfl).trans ((hF177 347 5 rfl).trans ((hF129 347 5 rfl).trans ((hF63 347 5 rfl).trans ((hF45 347 5 rfl).trans rfl))))))), trivial⟩)⟩, dkW_eq ht hW⟩, hS.F ht⟩) hS.2.2 dX6_readsPerson_149
            ·
              exact absurd ((xv182).trans (rfl).symm) c185
          ·
            exact (dkN_nil (show dkN [] v178 from dkN_eq1 dv178 (dkN_lit (x := 4) (4) rfl) (congrArg Int32.toInt c179) rfl)).elim
        rcases hc129 with ⟨dv129, f129_340_11, f129_340_12, f129_340_7, f129_340_8, x129_0, x129_1, x129_2, x129_3, x129_4, xr129, xh129_0, xh129_1, xh129_2, xh129_3, xh129_4, xh129_5, -⟩ | hc129
        ·
          have w187 : I63 340 11 = dkTk (I0 345) (I0 340 6) (dkTe (I0 345) (I0 340 6) (I0 340 9)) := y127
          have q188 : (dkTk (I0 345) (I0 340 6) (dkTe (I0 345) (I0 340 6) (I0 340 9))).toInt = (3 : Int) := by have h := x129_0; rw [w187] at h; exact h
          have w189 : I63 340 8 = I0 340 8 := y121
          have w190 : I63 345 = I0 345 := ((funext fun j => hF63 345 j (dkNin_k rfl dkNin_nil)).trans ((funext fun j => hF45 345 j (dkNin_k rfl dkNin_nil)).trans rfl))
          have w191 : I63 340 6 = I0 340 6 := ((hF63 340 6 rfl).trans ((hF45 340 6 rfl).trans rfl))
          have w192 : I63 340 9 = dkTe (I0 345) (I0 340 6) (dkTe (I0 345) (I0 340 6) (I0 340 9)) := y125
          have q193 : (dkTk (I0 345) (I0 340 6) (dkTe (I0 345) (I0 340 6) (dkTe (I0 345) (I0 340 6) (I0 340 9)))).toInt = (2 : Int) := by have h := x129_2; rw [w190, w191, w192] at h; exact h
          have q194 : (0 : Int) + 0 ≤ (dkTv (I0 345) (I0 340 6) (dkTe (I0 345) (I0 340 6) (dkTe (I0 345) (I0 340 6) (I0 340 9)))).toInt := by have h := x129_3; rw [w190, w191, w192] at h; exact h
          have q195 : (9 : Int) + 1 ≤ (dkTv (I0 345) (I0 340 6) (dkTe (I0 345) (I0 340 6) (dkTe (I0 345) (I0 340 6) (I0 340 9)))).toInt := by have h := x129_4; rw [w190, w191, w192] at h; exact h
          have y196 : I129 340 7 = 2 := by have h := xh129_0; exact h
          have y197 : I129 340 8 = dkTe (I0 345) (I0 340 6) (dkTe (I0 345) (I0 340 6) (I0 340 9)) := by have h := xh129_1; rw [w192] at h; exact h
          have y198 : I129 340 9 = dkTe (I0 345) (I0 340 6) (dkTe (I0 345) (I0 340 6) (dkTe (I0 345) (I0 340 6) (I0 340 9))) := by have h := xh129_2; rw [w190, w191, w192] at h; exact h
          have y199 : I129 340 10 = dkTe (I0 345) (I0 340 6) (dkTe (I0 345) (I0 340 6) (I0 340 9)) := by have h := xh129_3; rw [w192] at h; exact h
          have y200 : I129 340 11 = dkTk (I0 345) (I0 340 6) (dkTe (I0 345) (I0 340 6) (dkTe (I0 345) (I0 340 6) (I0 340 9))) := by have h := xh129_4; rw [w190, w191, w192] at h; exact h
          have y201 : I129 340 12 = dkTv (I0 345) (I0 340 6) (dkTe (I0 345) (I0 340 6) (dkTe (I0 345) (I0 340 6) (I0 340 9))) := by have h := xh129_5; rw [w190, w191, w192] at h; exact h
          have xv129 : v129 = 0 := by have h := xr129; exact h
          refine lv_istore_n (lv' := [(3, .int v129), (2, .int v63), (1, .int v58), (0, .ref (z + 340))]) hx hb dX6_readsPerson_69 rfl hl (by decide) rfl (fun ls hl => ?_)
          refine lv_aload_n hx hb dX6_readsPerson_70 rfl (lv_at hl 3 rfl) ?_
          refine lv_iconst (v := 0) hx hb dX6_readsPerson_71 (by decide) ?_
          refine lv_iconst (v := 2) hx hb dX6_readsPerson_72 (by decide) ?_
          refine dk_Vi (As := [.int 0, .int 2]) (rest := []) ⟨hx, hb, hml, hown, hts⟩ (h_X6_follows_0 l g z I129 0 2 (show dkN [(0, 90)] (I129 340 8) from dkN_sub f129_340_8 rfl) hO) (cwV 2 hts gX6_readsPerson_X6_follows rfl rfl rfl (by decide +kernel) ⟨Nat.le_of_ble_eq_true rfl, Nat.le_of_ble_eq_true rfl⟩) (dk_at340 hW) rfl hK hT hW hS rfl hl.1 rfl (Nat.le_of_ble_eq_true rfl) dX6_readsPerson_73 ⟨Nat.zero_le _, Nat.zero_le _⟩ (fun v202 I202 H202 L202 hp202 hW hS => ?_)
          obtain ⟨hF202, hO, hc202⟩ := hp202
          have hF := dkF_call hF hF202 rfl
          have eI202 : I129 = I202 := (dkF_nil hF202).symm
          subst eI202
          obtain ⟨dv202, xr202, -⟩ := hc202
          have xv202 : v202 = 0 := by have h := xr202; exact h
          refine lv_istore (lv' := [(4, .int v202), (3, .int v129), (2, .int v63), (1, .int v58), (0, .ref (z + 340))]) hx hb dX6_readsPerson_76 hl (by decide) rfl (fun ls hl => ?_)
          refine lv_aload_n hx hb dX6_readsPerson_78 rfl (lv_at hl 4 rfl) ?_
          refine lv_aload_n hx hb dX6_readsPerson_79 rfl (lv_at hl 4 rfl) ?_
          refine dk_get (k := 340) hx hb hts iX6_readsPerson_6 hown hK (dk_at340 hW) rfl 11 (by decide) (hts (.fieldLink RX6 98 "DogKingsModel" "token" "I") (List.mem_of_getElem? (i := 2) rfl)) rfl dX6_readsPerson_80 ?_
          refine lv_topi (fun v203 ev203 => ?_)
          have dv203 : dkN [(2, 2)] v203 := by rw [ev203]; exact (by rw [hF202 340 11 rfl]; exact f129_340_11)
          have xv203 : v203 = dkTk (I0 345) (I0 340 6) (dkTe (I0 345) (I0 340 6) (dkTe (I0 345) (I0 340 6) (I0 340 9))) := ev203.trans ((hF202 340 11 rfl).trans y200)
          refine lv_iconst (v := 4) hx hb dX6_readsPerson_83 (by decide) ?_
          refine lv_icmp_ne (tgt := 91) hx hb dX6_readsPerson_84 (by decide) (fun c204 => ?_) (fun c204 => ?_)
          ·
            have q205 : (dkTk (I0 345) (I0 340 6) (dkTe (I0 345) (I0 340 6) (dkTe (I0 345) (I0 340 6) (I0 340 9)))).toInt ≠ (4 : Int) := by first | (rw [← xv203]; exact (dk_ne c204)) | (subst xv203; exact (dk_ne c204))
            refine lv_iconst (v := 0) hx hb dX6_readsPerson_91 (by decide) ?_
            refine lv_iconst (v := 1) hx hb dX6_readsPerson_92 (by decide) ?_
            refine dk_Vi (As := [.int 0, .int 1]) (rest := []) ⟨hx, hb, hml, hown, hts⟩ (h_X6_takes_0 l g z I129 0 1 (show dkN [(0, 90)] (I129 340 8) from dkN_sub (by rw [hF202 340 8 rfl]; exact f129_340_8) rfl) hO) (cwV 2 hts gX6_readsPerson_X6_takes rfl rfl rfl (by decide +kernel) ⟨Nat.le_of_ble_eq_true rfl, Nat.le_of_ble_eq_true rfl⟩) (dk_at340 hW) rfl hK hT hW hS rfl hl.1 rfl (Nat.le_of_ble_eq_true rfl) dX6_readsPerson_93 ⟨Nat.zero_le _, Nat.zero_le _⟩ (fun v206 I206 H206 L206 hp206 hW hS => ?_)
            obtain ⟨hF206, hO, hc206⟩ := hp206
            have hF := dkF_call hF hF206 rfl
            have eI206 : I129 = I206 := (dkF_nil hF206).symm
            subst eI206
            obtain ⟨dv206, xr206, -⟩ := hc206
            have xv206 : v206 = 0 := by have h := xr206; exact h
            refine lv_pop hx hb dX6_readsPerson_96 rfl ?_
            refine lv_aload_n hx hb dX6_readsPerson_97 rfl (lv_at hl 4 rfl) ?_
            refine dk_Vi (As := []) (rest := []) ⟨hx, hb, hml, hown, hts⟩ (fx_X6_isWell_7 l g z I129 (show dkN [(0, 90)] (I129 340 8) from dkN_sub (by rw [hF206 340 8 rfl]; exact (by rw [hF202 340 8 rfl]; exact f129_340_8)) rfl) hO) (cwV 0 hts gX6_readsPerson_X6_isWell rfl rfl rfl (by decide +kernel) ⟨Nat.le_of_ble_eq_true rfl, Nat.le_of_ble_eq_true rfl⟩) (dk_at340 hW) rfl hK hT hW hS rfl hl.1 rfl (Nat.le_of_ble_eq_true rfl) dX6_readsPerson_98 ⟨Nat.zero_le _, Nat.zero_le _⟩ (fun v207 I207 H207 L207 hp207 hW hS => ?_)
            obtain ⟨hF207, hO, hc207⟩ := hp207
            have hF := dkF_call hF hF207 rfl
            have eI207 : I129 = I207 := (dkF_nil hF207).symm
            subst eI207
            obtain ⟨dv207, f207_340_8, x207_0, xr207, -⟩ := hc207
            have w208 : I129 340 8 = dkTe (I0 345) (I0 340 6) (dkTe (I0 345) (I0 340 6) (I0 340 9)) := ((hF206 340 8 rfl).trans ((hF202 340 8 rfl).trans y197))
            have q209 : (0 : Int) + 0 ≤ (dkTe (I0 345) (I0 340 6) (dkTe (I0 345) (I0 340 6) (I0 340 9))).toInt := by have h := x207_0; rw [w208] at h; exact h
            have xv207 : v207 = 0 := by have h := xr207; exact h
            refine lv_if_eq (tgt := 149) hx hb dX6_readsPerson_101 (by decide) (fun c210 => ?_) (fun c210 => ?_)
            ·
              have i0 : (0 : Int32).toInt = 0 := rfl
              have i1 : (1 : Int32).toInt = 1 := rfl
              have i2 : (2 : Int32).toInt = 2 := rfl
              have i3 : (3 : Int32).toInt = 3 := rfl
              have i9 : (9 : Int32).toInt = 9 := rfl
              have i30 : (30 : Int32).toInt = 30 := rfl
              have i44 : (44 : Int32).toInt = 44 := rfl
              have i59 : (59 : Int32).toInt = 59 := rfl
              have i109 : (109 : Int32).toInt = 109 := rfl
              have i116 : (116 : Int32).toInt = 116 := rfl
              have e211 : dkMb (I0 345) (I0 340 6) (I0 347 0) (I0 340 9) = (2, dkTe (I0 345) (I0 340 6) (dkTe (I0 345) (I0 340 6) (I0 340 9))) := ((dkTh_p (dkK_0 (T := (I0 345)) (n := (I0 340 6)) (a := I0 340 9) (lo := 0) (hi := ((I0 347 0) - (1 : Int32))) q115 (by omega) (by omega))).trans ((dkTh_p (dkK_c (T := (I0 345)) (n := (I0 340 6)) (a := dkTe (I0 345) (I0 340 6) (I0 340 9)) q188)).trans (dkTh_q (dkK_2 (T := (I0 345)) (n := (I0 340 6)) (a := dkTe (I0 345) (I0 340 6) (dkTe (I0 345) (I0 340 6) (I0 340 9))) (lo := 0) (hi := 9) q193 (by omega)) (by decide))))
              exact W.vret hx hb hr (fun t ht hW9 => ⟨⟨I129, rfl, ⟨hF, hO, Or.inr (Or.inl ⟨(show dkN [(1, 2)] (I129 340 7) from dkN_sub (by rw [hF207 340 7 rfl]; exact (by rw [hF206 340 7 rfl]; exact (by rw [hF202 340 7 rfl]; exact f129_340_7))) rfl), (show dkN [(0, 90)] (I129 340 8) from dkN_sub f207_340_8 rfl), (show dkN [(3, 9)] (I129 347 0) from dkN_sub (by rw [hF207 347 0 rfl]; exact (by rw [hF206 347 0 rfl]; exact (by rw [hF202 347 0 rfl]; exact (by rw [hF129 347 0 rfl]; exact (by rw [hF63 347 0 rfl]; exact (by rw [hF45 347 0 rfl]; exact np1)))))) rfl), (show dkN [(0, 4)] (I129 347 4) from dkN_sub (by rw [hF207 347 4 rfl]; exact (by rw [hF206 347 4 rfl]; exact (by rw [hF202 347 4 rfl]; exact (by rw [hF129 347 4 rfl]; exact (by rw [hF63 347 4 rfl]; exact (by rw [hF45 347 4 rfl]; exact f44)))))) rfl), (by omega), (dkE_k e211 (by decide)), (((show I129 340 7 = 2 from ((hF207 340 7 rfl).trans ((hF206 340 7 rfl).trans ((hF202 340 7 rfl).trans y196))))).trans (dkP_1 e211).symm), (((show I129 340 8 = dkTe (I0 345) (I0 340 6) (dkTe (I0 345) (I0 340 6) (I0 340 9)) from ((hF207 340 8 rfl).trans ((hF206 340 8 rfl).trans ((hF202 340 8 rfl).trans y197))))).trans (dkP_2 e211).symm), (show I129 347 0 = I0 347 0 from ((hF207 347 0 rfl).trans ((hF206 347 0 rfl).trans ((hF202 347 0 rfl).trans ((hF129 347 0 rfl).trans ((hF63 347 0 rfl).trans ((hF45 347 0 rfl).trans rfl))))))), (show I129 347 4 = I0 347 4 from ((hF207 347 4 rfl).trans ((hF206 347 4 rfl).trans ((hF202 347 4 rfl).trans ((hF129 347 4 rfl).trans ((hF63 347 4 rfl).trans ((hF45 347 4 rfl).trans rfl))))))), (show I129 347 5 = I0 347 5 from ((hF207 347 5 rfl).trans ((hF206 347 5 rfl).trans ((hF202 347 5 rfl).trans ((hF129 347 5 rfl).trans ((hF63 347 5 rfl).trans ((hF45 347 5 rfl).trans rfl))))))), trivial⟩)⟩, dkW_eq ht hW⟩, hS.F ht⟩) hS.2.2 dX6_readsPerson_149
            ·
              exact absurd ((xv207).trans (rfl).symm) c210
          ·
            exact (dkN_nil (show dkN [] v203 from dkN_eq1 dv203 (dkN_lit (x := 4) (4) rfl) (congrArg Int32.toInt c204) rfl)).elim
        rcases hc129 with ⟨dv129, f129_340_11, f129_340_8, x129_0, x129_1, x129_2, x129_3, x129_4, xr129, xh129_0, xh129_1, xh129_2, xh129_3, xh129_4, xh129_5, -⟩ | hc129
        ·
          have w212 : I63 340 11 = dkTk (I0 345) (I0 340 6) (dkTe (I0 345) (I0 340 6) (I0 340 9)) := y127
          have q213 : (dkTk (I0 345) (I0 340 6) (dkTe (I0 345) (I0 340 6) (I0 340 9))).toInt = (3 : Int) := by have h := x129_0; rw [w212] at h; exact h
          have w214 : I63 340 8 = I0 340 8 := y121
          have w215 : I63 345 = I0 345 := ((funext fun j => hF63 345 j (dkNin_k rfl dkNin_nil)).trans ((funext fun j => hF45 345 j (dkNin_k rfl dkNin_nil)).trans rfl))
          have w216 : I63 340 6 = I0 340 6 := ((hF63 340 6 rfl).trans ((hF45 340 6 rfl).trans rfl))
          have w217 : I63 340 9 = dkTe (I0 345) (I0 340 6) (dkTe (I0 345) (I0 340 6) (I0 340 9)) := y125
          have q218 : (dkTk (I0 345) (I0 340 6) (dkTe (I0 345) (I0 340 6) (dkTe (I0 345) (I0 340 6) (I0 340 9)))).toInt = (2 : Int) := by have h := x129_2; rw [w215, w216, w217] at h; exact h
          have q219 : (0 : Int) + 0 ≤ (dkTv (I0 345) (I0 340 6) (dkTe (I0 345) (I0 340 6) (dkTe (I0 345) (I0 340 6) (I0 340 9)))).toInt := by have h := x129_3; rw [w215, w216, w217] at h; exact h
          have q220 : (dkTv (I0 345) (I0 340 6) (dkTe (I0 345) (I0 340 6) (dkTe (I0 345) (I0 340 6) (I0 340 9)))).toInt + 0 ≤ (9 : Int) := by have h := x129_4; rw [w215, w216, w217] at h; exact h
          have w221 : I63 340 7 = I0 340 7 := y120
          have y222 : I129 340 7 = I0 340 7 := by have h := xh129_0; rw [w221] at h; exact h
          have y223 : I129 340 8 = I0 340 8 := by have h := xh129_1; rw [w214] at h; exact h
          have y224 : I129 340 9 = dkTe (I0 345) (I0 340 6) (dkTe (I0 345) (I0 340 6) (dkTe (I0 345) (I0 340 6) (dkTe (I0 345) (I0 340 6) (I0 340 9)))) := by have h := xh129_2; rw [w215, w216, w217] at h; exact h
          have y225 : I129 340 10 = dkTe (I0 345) (I0 340 6) (dkTe (I0 345) (I0 340 6) (dkTe (I0 345) (I0 340 6) (I0 340 9))) := by have h := xh129_3; rw [w215, w216, w217] at h; exact h
          have y226 : I129 340 11 = dkTk (I0 345) (I0 340 6) (dkTe (I0 345) (I0 340 6) (dkTe (I0 345) (I0 340 6) (dkTe (I0 345) (I0 340 6) (I0 340 9)))) := by have h := xh129_4; rw [w215, w216, w217] at h; exact h
          have y227 : I129 340 12 = dkTv (I0 345) (I0 340 6) (dkTe (I0 345) (I0 340 6) (dkTe (I0 345) (I0 340 6) (dkTe (I0 345) (I0 340 6) (I0 340 9)))) := by have h := xh129_5; rw [w215, w216, w217] at h; exact h
          have xv129 : v129 = dkTv (I0 345) (I0 340 6) (dkTe (I0 345) (I0 340 6) (dkTe (I0 345) (I0 340 6) (I0 340 9))) := by have h := xr129; rw [w215, w216, w217] at h; exact h
          refine lv_istore_n (lv' := [(3, .int v129), (2, .int v63), (1, .int v58), (0, .ref (z + 340))]) hx hb dX6_readsPerson_69 rfl hl (by decide) rfl (fun ls hl => ?_)
          refine lv_aload_n hx hb dX6_readsPerson_70 rfl (lv_at hl 3 rfl) ?_
          refine lv_iconst (v := 0) hx hb dX6_readsPerson_71 (by decide) ?_
          refine lv_iconst (v := 2) hx hb dX6_readsPerson_72 (by decide) ?_
          refine dk_Vi (As := [.int 0, .int 2]) (rest := []) ⟨hx, hb, hml, hown, hts⟩ (fx_X6_follows_9 l g z I129 0 2 (dkN_lit (x := 0) (0) rfl) (dkN_lit (x := 2) (2) rfl) (show dkN [(-1, -1)] (I129 340 8) from dkN_sub f129_340_8 rfl) hO) (cwV 2 hts gX6_readsPerson_X6_follows rfl rfl rfl (by decide +kernel) ⟨Nat.le_of_ble_eq_true rfl, Nat.le_of_ble_eq_true rfl⟩) (dk_at340 hW) rfl hK hT hW hS rfl hl.1 rfl (Nat.le_of_ble_eq_true rfl) dX6_readsPerson_73 ⟨Nat.zero_le _, Nat.zero_le _⟩ (fun v228 I228 H228 L228 hp228 hW hS => ?_)
          obtain ⟨hF228, hO, hc228⟩ := hp228
          have hF := dkF_call hF hF228 rfl
          rcases hc228 with ⟨dv228, f228_340_11, f228_340_7, f228_340_8, x228_0, x228_1, xr228, xh228_0, xh228_1, xh228_2, xh228_3, xh228_4, xh228_5, -⟩ | hc228
          ·
            have w229 : I129 340 11 = dkTk (I0 345) (I0 340 6) (dkTe (I0 345) (I0 340 6) (dkTe (I0 345) (I0 340 6) (dkTe (I0 345) (I0 340 6) (I0 340 9)))) := y226
            have q230 : (dkTk (I0 345) (I0 340 6) (dkTe (I0 345) (I0 340 6) (dkTe (I0 345) (I0 340 6) (dkTe (I0 345) (I0 340 6) (I0 340 9))))).toInt ≠ (3 : Int) := by have h := x228_0; rw [w229] at h; exact h
            have w231 : I129 340 8 = I0 340 8 := y223
            have y232 : I228 340 7 = 1 := by have h := xh228_0; exact h
            have w233 : I129 340 10 = dkTe (I0 345) (I0 340 6) (dkTe (I0 345) (I0 340 6) (dkTe (I0 345) (I0 340 6) (I0 340 9))) := y225
            have y234 : I228 340 8 = dkTe (I0 345) (I0 340 6) (dkTe (I0 345) (I0 340 6) (dkTe (I0 345) (I0 340 6) (I0 340 9))) := by have h := xh228_1; rw [w233] at h; exact h
            have w235 : I129 340 9 = dkTe (I0 345) (I0 340 6) (dkTe (I0 345) (I0 340 6) (dkTe (I0 345) (I0 340 6) (dkTe (I0 345) (I0 340 6) (I0 340 9)))) := y224
            have y236 : I228 340 9 = dkTe (I0 345) (I0 340 6) (dkTe (I0 345) (I0 340 6) (dkTe (I0 345) (I0 340 6) (dkTe (I0 345) (I0 340 6) (I0 340 9)))) := by have h := xh228_2; rw [w235] at h; exact h
            have y237 : I228 340 10 = dkTe (I0 345) (I0 340 6) (dkTe (I0 345) (I0 340 6) (dkTe (I0 345) (I0 340 6) (I0 340 9))) := by have h := xh228_3; rw [w233] at h; exact h
            have y238 : I228 340 11 = dkTk (I0 345) (I0 340 6) (dkTe (I0 345) (I0 340 6) (dkTe (I0 345) (I0 340 6) (dkTe (I0 345) (I0 340 6) (I0 340 9)))) := by have h := xh228_4; rw [w229] at h; exact h
            have w239 : I129 340 12 = dkTv (I0 345) (I0 340 6) (dkTe (I0 345) (I0 340 6) (dkTe (I0 345) (I0 340 6) (dkTe (I0 345) (I0 340 6) (I0 340 9)))) := y227
            have y240 : I228 340 12 = dkTv (I0 345) (I0 340 6) (dkTe (I0 345) (I0 340 6) (dkTe (I0 345) (I0 340 6) (dkTe (I0 345) (I0 340 6) (I0 340 9)))) := by have h := xh228_5; rw [w239] at h; exact h
            have xv228 : v228 = 0 := by have h := xr228; exact h
            refine lv_istore (lv' := [(4, .int v228), (3, .int v129), (2, .int v63), (1, .int v58), (0, .ref (z + 340))]) hx hb dX6_readsPerson_76 hl (by decide) rfl (fun ls hl => ?_)
            refine lv_aload_n hx hb dX6_readsPerson_78 rfl (lv_at hl 4 rfl) ?_
            refine lv_aload_n hx hb dX6_readsPerson_79 rfl (lv_at hl 4 rfl) ?_
            refine dk_get (k := 340) hx hb hts iX6_readsPerson_6 hown hK (dk_at340 hW) rfl 11 (by decide) (hts (.fieldLink RX6 98 "DogKingsModel" "token" "I") (List.mem_of_getElem? (i := 2) rfl)) rfl dX6_readsPerson_80 ?_
            refine lv_topi (fun v241 ev241 => ?_)
            have dv241 : dkN [(-2147483648, 2), (4, 2147483647)] v241 := by rw [ev241]; exact f228_340_11
            have xv241 : v241 = dkTk (I0 345) (I0 340 6) (dkTe (I0 345) (I0 340 6) (dkTe (I0 345) (I0 340 6) (dkTe (I0 345) (I0 340 6) (I0 340 9)))) := ev241.trans y238
            refine lv_iconst (v := 4) hx hb dX6_readsPerson_83 (by decide) ?_
            refine lv_icmp_ne (tgt := 91) hx hb dX6_readsPerson_84 (by decide) (fun c242 => ?_) (fun c242 => ?_)
            ·
              have q243 : (dkTk (I0 345) (I0 340 6) (dkTe (I0 345) (I0 340 6) (dkTe (I0 345) (I0 340 6) (dkTe (I0 345) (I0 340 6) (I0 340 9))))).toInt ≠ (4 : Int) := by first | (rw [← xv241]; exact (dk_ne c242)) | (subst xv241; exact (dk_ne c242))
              have d244 : dkN [(-2147483648, 2), (5, 2147483647)] v241 := dkN_ne1 (4) dv241 (dkN_lit (x := 4) (4) rfl) (dk_ne c242) rfl
              have f245 : dkN [(-2147483648, 2), (5, 2147483647)] (I228 340 11) := by rw [← ev241]; exact d244
              refine lv_iconst (v := 0) hx hb dX6_readsPerson_91 (by decide) ?_
              refine lv_iconst (v := 1) hx hb dX6_readsPerson_92 (by decide) ?_
              refine dk_Vi (As := [.int 0, .int 1]) (rest := []) ⟨hx, hb, hml, hown, hts⟩ (h_X6_takes_0 l g z I228 0 1 (show dkN [(0, 90)] (I228 340 8) from dkN_sub f228_340_8 rfl) hO) (cwV 2 hts gX6_readsPerson_X6_takes rfl rfl rfl (by decide +kernel) ⟨Nat.le_of_ble_eq_true rfl, Nat.le_of_ble_eq_true rfl⟩) (dk_at340 hW) rfl hK hT hW hS rfl hl.1 rfl (Nat.le_of_ble_eq_true rfl) dX6_readsPerson_93 ⟨Nat.zero_le _, Nat.zero_le _⟩ (fun v246 I246 H246 L246 hp246 hW hS => ?_)
              obtain ⟨hF246, hO, hc246⟩ := hp246
              have hF := dkF_call hF hF246 rfl
              have eI246 : I228 = I246 := (dkF_nil hF246).symm
              subst eI246
              obtain ⟨dv246, xr246, -⟩ := hc246
              have xv246 : v246 = 0 := by have h := xr246; exact h
              refine lv_pop hx hb dX6_readsPerson_96 rfl ?_
              refine lv_aload_n hx hb dX6_readsPerson_97 rfl (lv_at hl 4 rfl) ?_
              refine dk_Vi (As := []) (rest := []) ⟨hx, hb, hml, hown, hts⟩ (fx_X6_isWell_7 l g z I228 (show dkN [(0, 90)] (I228 340 8) from dkN_sub (by rw [hF246 340 8 rfl]; exact f228_340_8) rfl) hO) (cwV 0 hts gX6_readsPerson_X6_isWell rfl rfl rfl (by decide +kernel) ⟨Nat.le_of_ble_eq_true rfl, Nat.le_of_ble_eq_true rfl⟩) (dk_at340 hW) rfl hK hT hW hS rfl hl.1 rfl (Nat.le_of_ble_eq_true rfl) dX6_readsPerson_98 ⟨Nat.zero_le _, Nat.zero_le _⟩ (fun v247 I247 H247 L247 hp247 hW hS => ?_)
              obtain ⟨hF247, hO, hc247⟩ := hp247
              have hF := dkF_call hF hF247 rfl
              have eI247 : I228 = I247 := (dkF_nil hF247).symm
              subst eI247
              obtain ⟨dv247, f247_340_8, x247_0, xr247, -⟩ := hc247
              have w248 : I228 340 8 = dkTe (I0 345) (I0 340 6) (dkTe (I0 345) (I0 340 6) (dkTe (I0 345) (I0 340 6) (I0 340 9))) := ((hF246 340 8 rfl).trans y234)
              have q249 : (0 : Int) + 0 ≤ (dkTe (I0 345) (I0 340 6) (dkTe (I0 345) (I0 340 6) (dkTe (I0 345) (I0 340 6) (I0 340 9)))).toInt := by have h := x247_0; rw [w248] at h; exact h
              have xv247 : v247 = 0 := by have h := xr247; exact h
              refine lv_if_eq (tgt := 149) hx hb dX6_readsPerson_101 (by decide) (fun c250 => ?_) (fun c250 => ?_)
              ·
                have i0 : (0 : Int32).toInt = 0 := rfl
                have i1 : (1 : Int32).toInt = 1 := rfl
                have i2 : (2 : Int32).toInt = 2 := rfl
                have i3 : (3 : Int32).toInt = 3 := rfl
                have i9 : (9 : Int32).toInt = 9 := rfl
                have i30 : (30 : Int32).toInt = 30 := rfl
                have i44 : (44 : Int32).toInt = 44 := rfl
                have i59 : (59 : Int32).toInt = 59 := rfl
                have i109 : (109 : Int32).toInt = 109 := rfl
                have i116 : (116 : Int32).toInt = 116 := rfl
                have e251 : dkMb (I0 345) (I0 340 6) (I0 347 0) (I0 340 9) = (1, dkTe (I0 345) (I0 340 6) (dkTe (I0 345) (I0 340 6) (dkTe (I0 345) (I0 340 6) (I0 340 9)))) := ((dkTh_p (dkK_0 (T := (I0 345)) (n := (I0 340 6)) (a := I0 340 9) (lo := 0) (hi := ((I0 347 0) - (1 : Int32))) q115 (by omega) (by omega))).trans ((dkTh_p (dkK_c (T := (I0 345)) (n := (I0 340 6)) (a := dkTe (I0 345) (I0 340 6) (I0 340 9)) q213)).trans ((dkTh_p (dkK_0 (T := (I0 345)) (n := (I0 340 6)) (a := dkTe (I0 345) (I0 340 6) (dkTe (I0 345) (I0 340 6) (I0 340 9))) (lo := 0) (hi := 9) q218 (by omega) (by omega))).trans (dkTh_q (dkK_cn (T := (I0 345)) (n := (I0 340 6)) (a := dkTe (I0 345) (I0 340 6) (dkTe (I0 345) (I0 340 6) (dkTe (I0 345) (I0 340 6) (I0 340 9)))) q230) (by decide)))))
                exact W.vret hx hb hr (fun t ht hW9 => ⟨⟨I228, rfl, ⟨hF, hO, Or.inr (Or.inl ⟨(show dkN [(1, 2)] (I228 340 7) from dkN_sub (by rw [hF247 340 7 rfl]; exact (by rw [hF246 340 7 rfl]; exact f228_340_7)) rfl), (show dkN [(0, 90)] (I228 340 8) from dkN_sub f247_340_8 rfl), (show dkN [(3, 9)] (I228 347 0) from dkN_sub (by rw [hF247 347 0 rfl]; exact (by rw [hF246 347 0 rfl]; exact (by rw [hF228 347 0 rfl]; exact (by rw [hF129 347 0 rfl]; exact (by rw [hF63 347 0 rfl]; exact (by rw [hF45 347 0 rfl]; exact np1)))))) rfl), (show dkN [(0, 4)] (I228 347 4) from dkN_sub (by rw [hF247 347 4 rfl]; exact (by rw [hF246 347 4 rfl]; exact (by rw [hF228 347 4 rfl]; exact (by rw [hF129 347 4 rfl]; exact (by rw [hF63 347 4 rfl]; exact (by rw [hF45 347 4 rfl]; exact f44)))))) rfl), (by omega), (dkE_k e251 (by decide)), (((show I228 340 7 = 1 from ((hF247 340 7 rfl).trans ((hF246 340 7 rfl).trans y232)))).trans (dkP_1 e251).symm), (((show I228 340 8 = dkTe (I0 345) (I0 340 6) (dkTe (I0 345) (I0 340 6) (dkTe (I0 345) (I0 340 6) (I0 340 9))) from ((hF247 340 8 rfl).trans ((hF246 340 8 rfl).trans y234)))).trans (dkP_2 e251).symm), (show I228 347 0 = I0 347 0 from ((hF247 347 0 rfl).trans ((hF246 347 0 rfl).trans ((hF228 347 0 rfl).trans ((hF129 347 0 rfl).trans ((hF63 347 0 rfl).trans ((hF45 347 0 rfl).trans rfl))))))), (show I228 347 4 = I0 347 4 from ((hF247 347 4 rfl).trans ((hF246 347 4 rfl).trans ((hF228 347 4 rfl).trans ((hF129 347 4 rfl).trans ((hF63 347 4 rfl).trans ((hF45 347 4 rfl).trans rfl))))))), (show I228 347 5 = I0 347 5 from ((hF247 347 5 rfl).trans ((hF246 347 5 rfl).trans ((hF228 347 5 rfl).trans ((hF129 347 5 rfl).trans ((hF63 347 5 rfl).trans ((hF45 347 5 rfl).trans rfl))))))), trivial⟩)⟩, dkW_eq ht hW⟩, hS.F ht⟩) hS.2.2 dX6_readsPerson_149
              ·
                exact absurd ((xv247).trans (rfl).symm) c250
            ·
              have q252 : (dkTk (I0 345) (I0 340 6) (dkTe (I0 345) (I0 340 6) (dkTe (I0 345) (I0 340 6) (dkTe (I0 345) (I0 340 6) (I0 340 9))))).toInt = (4 : Int) := by first | (rw [← xv241]; exact (congrArg Int32.toInt c242)) | (subst xv241; exact (congrArg Int32.toInt c242))
              have d253 : dkN [(4, 4)] v241 := dkN_eq1 dv241 (dkN_lit (x := 4) (4) rfl) (congrArg Int32.toInt c242) rfl
              have f254 : dkN [(4, 4)] (I228 340 11) := by rw [← ev241]; exact d253
              refine lv_iconst (v := 1) hx hb dX6_readsPerson_87 (by decide) ?_
              refine lv_goto (tgt := 92) hx hb dX6_readsPerson_88 (by decide) ?_
              refine lv_iconst (v := 1) hx hb dX6_readsPerson_92 (by decide) ?_
              refine dk_Vi (As := [.int 1, .int 1]) (rest := []) ⟨hx, hb, hml, hown, hts⟩ (h_X6_takes_0 l g z I228 1 1 (show dkN [(0, 90)] (I228 340 8) from dkN_sub f228_340_8 rfl) hO) (cwV 2 hts gX6_readsPerson_X6_takes rfl rfl rfl (by decide +kernel) ⟨Nat.le_of_ble_eq_true rfl, Nat.le_of_ble_eq_true rfl⟩) (dk_at340 hW) rfl hK hT hW hS rfl hl.1 rfl (Nat.le_of_ble_eq_true rfl) dX6_readsPerson_93 ⟨Nat.zero_le _, Nat.zero_le _⟩ (fun v255 I255 H255 L255 hp255 hW hS => ?_)
              obtain ⟨hF255, hO, hc255⟩ := hp255
              have hF := dkF_call hF hF255 rfl
              have eI255 : I228 = I255 := (dkF_nil hF255).symm
              subst eI255
              obtain ⟨dv255, xr255, -⟩ := hc255
              have xv255 : v255 = 0 := by have h := xr255; exact h
              refine lv_pop hx hb dX6_readsPerson_96 rfl ?_
              refine lv_aload_n hx hb dX6_readsPerson_97 rfl (lv_at hl 4 rfl) ?_
              refine dk_Vi (As := []) (rest := []) ⟨hx, hb, hml, hown, hts⟩ (fx_X6_isWell_7 l g z I228 (show dkN [(0, 90)] (I228 340 8) from dkN_sub (by rw [hF255 340 8 rfl]; exact f228_340_8) rfl) hO) (cwV 0 hts gX6_readsPerson_X6_isWell rfl rfl rfl (by decide +kernel) ⟨Nat.le_of_ble_eq_true rfl, Nat.le_of_ble_eq_true rfl⟩) (dk_at340 hW) rfl hK hT hW hS rfl hl.1 rfl (Nat.le_of_ble_eq_true rfl) dX6_readsPerson_98 ⟨Nat.zero_le _, Nat.zero_le _⟩ (fun v256 I256 H256 L256 hp256 hW hS => ?_)
              obtain ⟨hF256, hO, hc256⟩ := hp256
              have hF := dkF_call hF hF256 rfl
              have eI256 : I228 = I256 := (dkF_nil hF256).symm
              subst eI256
              obtain ⟨dv256, f256_340_8, x256_0, xr256, -⟩ := hc256
              have w257 : I228 340 8 = dkTe (I0 345) (I0 340 6) (dkTe (I0 345) (I0 340 6) (dkTe (I0 345) (I0 340 6) (I0 340 9))) := ((hF255 340 8 rfl).trans y234)
              have q258 : (0 : Int) + 0 ≤ (dkTe (I0 345) (I0 340 6) (dkTe (I0 345) (I0 340 6) (dkTe (I0 345) (I0 340 6) (I0 340 9)))).toInt := by have h := x256_0; rw [w257] at h; exact h
              have xv256 : v256 = 0 := by have h := xr256; exact h
              refine lv_if_eq (tgt := 149) hx hb dX6_readsPerson_101 (by decide) (fun c259 => ?_) (fun c259 => ?_)
              ·
                have i0 : (0 : Int32).toInt = 0 := rfl
                have i1 : (1 : Int32).toInt = 1 := rfl
                have i2 : (2 : Int32).toInt = 2 := rfl
                have i3 : (3 : Int32).toInt = 3 := rfl
                have i9 : (9 : Int32).toInt = 9 := rfl
                have i30 : (30 : Int32).toInt = 30 := rfl
                have i44 : (44 : Int32).toInt = 44 := rfl
                have i59 : (59 : Int32).toInt = 59 := rfl
                have i109 : (109 : Int32).toInt = 109 := rfl
                have i116 : (116 : Int32).toInt = 116 := rfl
                have e260 : dkMb (I0 345) (I0 340 6) (I0 347 0) (I0 340 9) = (1, dkTe (I0 345) (I0 340 6) (dkTe (I0 345) (I0 340 6) (dkTe (I0 345) (I0 340 6) (I0 340 9)))) := ((dkTh_p (dkK_0 (T := (I0 345)) (n := (I0 340 6)) (a := I0 340 9) (lo := 0) (hi := ((I0 347 0) - (1 : Int32))) q115 (by omega) (by omega))).trans ((dkTh_p (dkK_c (T := (I0 345)) (n := (I0 340 6)) (a := dkTe (I0 345) (I0 340 6) (I0 340 9)) q213)).trans ((dkTh_p (dkK_0 (T := (I0 345)) (n := (I0 340 6)) (a := dkTe (I0 345) (I0 340 6) (dkTe (I0 345) (I0 340 6) (I0 340 9))) (lo := 0) (hi := 9) q218 (by omega) (by omega))).trans (dkTh_q (dkK_cn (T := (I0 345)) (n := (I0 340 6)) (a := dkTe (I0 345) (I0 340 6) (dkTe (I0 345) (I0 340 6) (dkTe (I0 345) (I0 340 6) (I0 340 9)))) q230) (by decide)))))
                exact W.vret hx hb hr (fun t ht hW9 => ⟨⟨I228, rfl, ⟨hF, hO, Or.inr (Or.inl ⟨(show dkN [(1, 2)] (I228 340 7) from dkN_sub (by rw [hF256 340 7 rfl]; exact (by rw [hF255 340 7 rfl]; exact f228_340_7)) rfl), (show dkN [(0, 90)] (I228 340 8) from dkN_sub f256_340_8 rfl), (show dkN [(3, 9)] (I228 347 0) from dkN_sub (by rw [hF256 347 0 rfl]; exact (by rw [hF255 347 0 rfl]; exact (by rw [hF228 347 0 rfl]; exact (by rw [hF129 347 0 rfl]; exact (by rw [hF63 347 0 rfl]; exact (by rw [hF45 347 0 rfl]; exact np1)))))) rfl), (show dkN [(0, 4)] (I228 347 4) from dkN_sub (by rw [hF256 347 4 rfl]; exact (by rw [hF255 347 4 rfl]; exact (by rw [hF228 347 4 rfl]; exact (by rw [hF129 347 4 rfl]; exact (by rw [hF63 347 4 rfl]; exact (by rw [hF45 347 4 rfl]; exact f44)))))) rfl), (by omega), (dkE_k e260 (by decide)), (((show I228 340 7 = 1 from ((hF256 340 7 rfl).trans ((hF255 340 7 rfl).trans y232)))).trans (dkP_1 e260).symm), (((show I228 340 8 = dkTe (I0 345) (I0 340 6) (dkTe (I0 345) (I0 340 6) (dkTe (I0 345) (I0 340 6) (I0 340 9))) from ((hF256 340 8 rfl).trans ((hF255 340 8 rfl).trans y234)))).trans (dkP_2 e260).symm), (show I228 347 0 = I0 347 0 from ((hF256 347 0 rfl).trans ((hF255 347 0 rfl).trans ((hF228 347 0 rfl).trans ((hF129 347 0 rfl).trans ((hF63 347 0 rfl).trans ((hF45 347 0 rfl).trans rfl))))))), (show I228 347 4 = I0 347 4 from ((hF256 347 4 rfl).trans ((hF255 347 4 rfl).trans ((hF228 347 4 rfl).trans ((hF129 347 4 rfl).trans ((hF63 347 4 rfl).trans ((hF45 347 4 rfl).trans rfl))))))), (show I228 347 5 = I0 347 5 from ((hF256 347 5 rfl).trans ((hF255 347 5 rfl).trans ((hF228 347 5 rfl).trans ((hF129 347 5 rfl).trans ((hF63 347 5 rfl).trans ((hF45 347 5 rfl).trans rfl))))))), trivial⟩)⟩, dkW_eq ht hW⟩, hS.F ht⟩) hS.2.2 dX6_readsPerson_149
              ·
                exact absurd ((xv256).trans (rfl).symm) c259
          rcases hc228 with ⟨dv228, f228_340_11, f228_340_12, f228_340_7, f228_340_8, x228_0, x228_1, x228_2, x228_3, xr228, xh228_0, xh228_1, xh228_2, xh228_3, xh228_4, xh228_5, -⟩ | hc228
          ·
            have w261 : I129 340 11 = dkTk (I0 345) (I0 340 6) (dkTe (I0 345) (I0 340 6) (dkTe (I0 345) (I0 340 6) (dkTe (I0 345) (I0 340 6) (I0 340 9)))) := y226
            have q262 : (dkTk (I0 345) (I0 340 6) (dkTe (I0 345) (I0 340 6) (dkTe (I0 345) (I0 340 6) (dkTe (I0 345) (I0 340 6) (I0 340 9))))).toInt = (3 : Int) := by have h := x228_0; rw [w261] at h; exact h
            have w263 : I129 340 8 = I0 340 8 := y223
            have w264 : I129 345 = I0 345 := ((funext fun j => hF129 345 j (dkNin_k rfl dkNin_nil)).trans ((funext fun j => hF63 345 j (dkNin_k rfl dkNin_nil)).trans ((funext fun j => hF45 345 j (dkNin_k rfl dkNin_nil)).trans rfl)))
            have w265 : I129 340 6 = I0 340 6 := ((hF129 340 6 rfl).trans ((hF63 340 6 rfl).trans ((hF45 340 6 rfl).trans rfl)))
            have w266 : I129 340 9 = dkTe (I0 345) (I0 340 6) (dkTe (I0 345) (I0 340 6) (dkTe (I0 345) (I0 340 6) (dkTe (I0 345) (I0 340 6) (I0 340 9)))) := y224
            have q267 : (dkTk (I0 345) (I0 340 6) (dkTe (I0 345) (I0 340 6) (dkTe (I0 345) (I0 340 6) (dkTe (I0 345) (I0 340 6) (dkTe (I0 345) (I0 340 6) (I0 340 9)))))).toInt = (2 : Int) := by have h := x228_2; rw [w264, w265, w266] at h; exact h
            have q268 : (dkTv (I0 345) (I0 340 6) (dkTe (I0 345) (I0 340 6) (dkTe (I0 345) (I0 340 6) (dkTe (I0 345) (I0 340 6) (dkTe (I0 345) (I0 340 6) (I0 340 9)))))).toInt + 1 ≤ (0 : Int) := by have h := x228_3; rw [w264, w265, w266] at h; exact h
            have y269 : I228 340 7 = 2 := by have h := xh228_0; exact h
            have y270 : I228 340 8 = dkTe (I0 345) (I0 340 6) (dkTe (I0 345) (I0 340 6) (dkTe (I0 345) (I0 340 6) (dkTe (I0 345) (I0 340 6) (I0 340 9)))) := by have h := xh228_1; rw [w266] at h; exact h
            have y271 : I228 340 9 = dkTe (I0 345) (I0 340 6) (dkTe (I0 345) (I0 340 6) (dkTe (I0 345) (I0 340 6) (dkTe (I0 345) (I0 340 6) (dkTe (I0 345) (I0 340 6) (I0 340 9))))) := by have h := xh228_2; rw [w264, w265, w266] at h; exact h
            have y272 : I228 340 10 = dkTe (I0 345) (I0 340 6) (dkTe (I0 345) (I0 340 6) (dkTe (I0 345) (I0 340 6) (dkTe (I0 345) (I0 340 6) (I0 340 9)))) := by have h := xh228_3; rw [w266] at h; exact h
            have y273 : I228 340 11 = dkTk (I0 345) (I0 340 6) (dkTe (I0 345) (I0 340 6) (dkTe (I0 345) (I0 340 6) (dkTe (I0 345) (I0 340 6) (dkTe (I0 345) (I0 340 6) (I0 340 9))))) := by have h := xh228_4; rw [w264, w265, w266] at h; exact h
            have y274 : I228 340 12 = dkTv (I0 345) (I0 340 6) (dkTe (I0 345) (I0 340 6) (dkTe (I0 345) (I0 340 6) (dkTe (I0 345) (I0 340 6) (dkTe (I0 345) (I0 340 6) (I0 340 9))))) := by have h := xh228_5; rw [w264, w265, w266] at h; exact h
            have xv228 : v228 = 0 := by have h := xr228; exact h
            refine lv_istore (lv' := [(4, .int v228), (3, .int v129), (2, .int v63), (1, .int v58), (0, .ref (z + 340))]) hx hb dX6_readsPerson_76 hl (by decide) rfl (fun ls hl => ?_)
            refine lv_aload_n hx hb dX6_readsPerson_78 rfl (lv_at hl 4 rfl) ?_
            refine lv_aload_n hx hb dX6_readsPerson_79 rfl (lv_at hl 4 rfl) ?_
            refine dk_get (k := 340) hx hb hts iX6_readsPerson_6 hown hK (dk_at340 hW) rfl 11 (by decide) (hts (.fieldLink RX6 98 "DogKingsModel" "token" "I") (List.mem_of_getElem? (i := 2) rfl)) rfl dX6_readsPerson_80 ?_
            refine lv_topi (fun v275 ev275 => ?_)
            have dv275 : dkN [(2, 2)] v275 := by rw [ev275]; exact f228_340_11
            have xv275 : v275 = dkTk (I0 345) (I0 340 6) (dkTe (I0 345) (I0 340 6) (dkTe (I0 345) (I0 340 6) (dkTe (I0 345) (I0 340 6) (dkTe (I0 345) (I0 340 6) (I0 340 9))))) := ev275.trans y273
            refine lv_iconst (v := 4) hx hb dX6_readsPerson_83 (by decide) ?_
            refine lv_icmp_ne (tgt := 91) hx hb dX6_readsPerson_84 (by decide) (fun c276 => ?_) (fun c276 => ?_)
            ·
              have q277 : (dkTk (I0 345) (I0 340 6) (dkTe (I0 345) (I0 340 6) (dkTe (I0 345) (I0 340 6) (dkTe (I0 345) (I0 340 6) (dkTe (I0 345) (I0 340 6) (I0 340 9)))))).toInt ≠ (4 : Int) := by first | (rw [← xv275]; exact (dk_ne c276)) | (subst xv275; exact (dk_ne c276))
              refine lv_iconst (v := 0) hx hb dX6_readsPerson_91 (by decide) ?_
              refine lv_iconst (v := 1) hx hb dX6_readsPerson_92 (by decide) ?_
              refine dk_Vi (As := [.int 0, .int 1]) (rest := []) ⟨hx, hb, hml, hown, hts⟩ (h_X6_takes_0 l g z I228 0 1 (show dkN [(0, 90)] (I228 340 8) from dkN_sub f228_340_8 rfl) hO) (cwV 2 hts gX6_readsPerson_X6_takes rfl rfl rfl (by decide +kernel) ⟨Nat.le_of_ble_eq_true rfl, Nat.le_of_ble_eq_true rfl⟩) (dk_at340 hW) rfl hK hT hW hS rfl hl.1 rfl (Nat.le_of_ble_eq_true rfl) dX6_readsPerson_93 ⟨Nat.zero_le _, Nat.zero_le _⟩ (fun v278 I278 H278 L278 hp278 hW hS => ?_)
              obtain ⟨hF278, hO, hc278⟩ := hp278
              have hF := dkF_call hF hF278 rfl
              have eI278 : I228 = I278 := (dkF_nil hF278).symm
              subst eI278
              obtain ⟨dv278, xr278, -⟩ := hc278
              have xv278 : v278 = 0 := by have h := xr278; exact h
              refine lv_pop hx hb dX6_readsPerson_96 rfl ?_
              refine lv_aload_n hx hb dX6_readsPerson_97 rfl (lv_at hl 4 rfl) ?_
              refine dk_Vi (As := []) (rest := []) ⟨hx, hb, hml, hown, hts⟩ (fx_X6_isWell_7 l g z I228 (show dkN [(0, 90)] (I228 340 8) from dkN_sub (by rw [hF278 340 8 rfl]; exact f228_340_8) rfl) hO) (cwV 0 hts gX6_readsPerson_X6_isWell rfl rfl rfl (by decide +kernel) ⟨Nat.le_of_ble_eq_true rfl, Nat.le_of_ble_eq_true rfl⟩) (dk_at340 hW) rfl hK hT hW hS rfl hl.1 rfl (Nat.le_of_ble_eq_true rfl) dX6_readsPerson_98 ⟨Nat.zero_le _, Nat.zero_le _⟩ (fun v279 I279 H279 L279 hp279 hW hS => ?_)
              obtain ⟨hF279, hO, hc279⟩ := hp279
              have hF := dkF_call hF hF279 rfl
              have eI279 : I228 = I279 := (dkF_nil hF279).symm
              subst eI279
              obtain ⟨dv279, f279_340_8, x279_0, xr279, -⟩ := hc279
              have w280 : I228 340 8 = dkTe (I0 345) (I0 340 6) (dkTe (I0 345) (I0 340 6) (dkTe (I0 345) (I0 340 6) (dkTe (I0 345) (I0 340 6) (I0 340 9)))) := ((hF278 340 8 rfl).trans y270)
              have q281 : (0 : Int) + 0 ≤ (dkTe (I0 345) (I0 340 6) (dkTe (I0 345) (I0 340 6) (dkTe (I0 345) (I0 340 6) (dkTe (I0 345) (I0 340 6) (I0 340 9))))).toInt := by have h := x279_0; rw [w280] at h; exact h
              have xv279 : v279 = 0 := by have h := xr279; exact h
              refine lv_if_eq (tgt := 149) hx hb dX6_readsPerson_101 (by decide) (fun c282 => ?_) (fun c282 => ?_)
              ·
                have i0 : (0 : Int32).toInt = 0 := rfl
                have i1 : (1 : Int32).toInt = 1 := rfl
                have i2 : (2 : Int32).toInt = 2 := rfl
                have i3 : (3 : Int32).toInt = 3 := rfl
                have i9 : (9 : Int32).toInt = 9 := rfl
                have i30 : (30 : Int32).toInt = 30 := rfl
                have i44 : (44 : Int32).toInt = 44 := rfl
                have i59 : (59 : Int32).toInt = 59 := rfl
                have i109 : (109 : Int32).toInt = 109 := rfl
                have i116 : (116 : Int32).toInt = 116 := rfl
                have e283 : dkMb (I0 345) (I0 340 6) (I0 347 0) (I0 340 9) = (2, dkTe (I0 345) (I0 340 6) (dkTe (I0 345) (I0 340 6) (dkTe (I0 345) (I0 340 6) (dkTe (I0 345) (I0 340 6) (I0 340 9))))) := ((dkTh_p (dkK_0 (T := (I0 345)) (n := (I0 340 6)) (a := I0 340 9) (lo := 0) (hi := ((I0 347 0) - (1 : Int32))) q115 (by omega) (by omega))).trans ((dkTh_p (dkK_c (T := (I0 345)) (n := (I0 340 6)) (a := dkTe (I0 345) (I0 340 6) (I0 340 9)) q213)).trans ((dkTh_p (dkK_0 (T := (I0 345)) (n := (I0 340 6)) (a := dkTe (I0 345) (I0 340 6) (dkTe (I0 345) (I0 340 6) (I0 340 9))) (lo := 0) (hi := 9) q218 (by omega) (by omega))).trans ((dkTh_p (dkK_c (T := (I0 345)) (n := (I0 340 6)) (a := dkTe (I0 345) (I0 340 6) (dkTe (I0 345) (I0 340 6) (dkTe (I0 345) (I0 340 6) (I0 340 9)))) q262)).trans (dkTh_q (dkK_2 (T := (I0 345)) (n := (I0 340 6)) (a := dkTe (I0 345) (I0 340 6) (dkTe (I0 345) (I0 340 6) (dkTe (I0 345) (I0 340 6) (dkTe (I0 345) (I0 340 6) (I0 340 9))))) (lo := 0) (hi := 2) q267 (by omega)) (by decide))))))
                exact W.vret hx hb hr (fun t ht hW9 => ⟨⟨I228, rfl, ⟨hF, hO, Or.inr (Or.inl ⟨(show dkN [(1, 2)] (I228 340 7) from dkN_sub (by rw [hF279 340 7 rfl]; exact (by rw [hF278 340 7 rfl]; exact f228_340_7)) rfl), (show dkN [(0, 90)] (I228 340 8) from dkN_sub f279_340_8 rfl), (show dkN [(3, 9)] (I228 347 0) from dkN_sub (by rw [hF279 347 0 rfl]; exact (by rw [hF278 347 0 rfl]; exact (by rw [hF228 347 0 rfl]; exact (by rw [hF129 347 0 rfl]; exact (by rw [hF63 347 0 rfl]; exact (by rw [hF45 347 0 rfl]; exact np1)))))) rfl), (show dkN [(0, 4)] (I228 347 4) from dkN_sub (by rw [hF279 347 4 rfl]; exact (by rw [hF278 347 4 rfl]; exact (by rw [hF228 347 4 rfl]; exact (by rw [hF129 347 4 rfl]; exact (by rw [hF63 347 4 rfl]; exact (by rw [hF45 347 4 rfl]; exact f44)))))) rfl), (by omega), (dkE_k e283 (by decide)), (((show I228 340 7 = 2 from ((hF279 340 7 rfl).trans ((hF278 340 7 rfl).trans y269)))).trans (dkP_1 e283).symm), (((show I228 340 8 = dkTe (I0 345) (I0 340 6) (dkTe (I0 345) (I0 340 6) (dkTe (I0 345) (I0 340 6) (dkTe (I0 345) (I0 340 6) (I0 340 9)))) from ((hF279 340 8 rfl).trans ((hF278 340 8 rfl).trans y270)))).trans (dkP_2 e283).symm), (show I228 347 0 = I0 347 0 from ((hF279 347 0 rfl).trans ((hF278 347 0 rfl).trans ((hF228 347 0 rfl).trans ((hF129 347 0 rfl).trans ((hF63 347 0 rfl).trans ((hF45 347 0 rfl).trans rfl))))))), (show I228 347 4 = I0 347 4 from ((hF279 347 4 rfl).trans ((hF278 347 4 rfl).trans ((hF228 347 4 rfl).trans ((hF129 347 4 rfl).trans ((hF63 347 4 rfl).trans ((hF45 347 4 rfl).trans rfl))))))), (show I228 347 5 = I0 347 5 from ((hF279 347 5 rfl).trans ((hF278 347 5 rfl).trans ((hF228 347 5 rfl).trans ((hF129 347 5 rfl).trans ((hF63 347 5 rfl).trans ((hF45 347 5 rfl).trans rfl))))))), trivial⟩)⟩, dkW_eq ht hW⟩, hS.F ht⟩) hS.2.2 dX6_readsPerson_149
              ·
                exact absurd ((xv279).trans (rfl).symm) c282
            ·
              exact (dkN_nil (show dkN [] v275 from dkN_eq1 dv275 (dkN_lit (x := 4) (4) rfl) (congrArg Int32.toInt c276) rfl)).elim
          rcases hc228 with ⟨dv228, f228_340_11, f228_340_12, f228_340_7, f228_340_8, x228_0, x228_1, x228_2, x228_3, x228_4, xr228, xh228_0, xh228_1, xh228_2, xh228_3, xh228_4, xh228_5, -⟩ | hc228
          ·
            have w284 : I129 340 11 = dkTk (I0 345) (I0 340 6) (dkTe (I0 345) (I0 340 6) (dkTe (I0 345) (I0 340 6) (dkTe (I0 345) (I0 340 6) (I0 340 9)))) := y226
            have q285 : (dkTk (I0 345) (I0 340 6) (dkTe (I0 345) (I0 340 6) (dkTe (I0 345) (I0 340 6) (dkTe (I0 345) (I0 340 6) (I0 340 9))))).toInt = (3 : Int) := by have h := x228_0; rw [w284] at h; exact h
            have w286 : I129 340 8 = I0 340 8 := y223
            have w287 : I129 345 = I0 345 := ((funext fun j => hF129 345 j (dkNin_k rfl dkNin_nil)).trans ((funext fun j => hF63 345 j (dkNin_k rfl dkNin_nil)).trans ((funext fun j => hF45 345 j (dkNin_k rfl dkNin_nil)).trans rfl)))
            have w288 : I129 340 6 = I0 340 6 := ((hF129 340 6 rfl).trans ((hF63 340 6 rfl).trans ((hF45 340 6 rfl).trans rfl)))
            have w289 : I129 340 9 = dkTe (I0 345) (I0 340 6) (dkTe (I0 345) (I0 340 6) (dkTe (I0 345) (I0 340 6) (dkTe (I0 345) (I0 340 6) (I0 340 9)))) := y224
            have q290 : (dkTk (I0 345) (I0 340 6) (dkTe (I0 345) (I0 340 6) (dkTe (I0 345) (I0 340 6) (dkTe (I0 345) (I0 340 6) (dkTe (I0 345) (I0 340 6) (I0 340 9)))))).toInt = (2 : Int) := by have h := x228_2; rw [w287, w288, w289] at h; exact h
            have q291 : (0 : Int) + 0 ≤ (dkTv (I0 345) (I0 340 6) (dkTe (I0 345) (I0 340 6) (dkTe (I0 345) (I0 340 6) (dkTe (I0 345) (I0 340 6) (dkTe (I0 345) (I0 340 6) (I0 340 9)))))).toInt := by have h := x228_3; rw [w287, w288, w289] at h; exact h
            have q292 : (2 : Int) + 1 ≤ (dkTv (I0 345) (I0 340 6) (dkTe (I0 345) (I0 340 6) (dkTe (I0 345) (I0 340 6) (dkTe (I0 345) (I0 340 6) (dkTe (I0 345) (I0 340 6) (I0 340 9)))))).toInt := by have h := x228_4; rw [w287, w288, w289] at h; exact h
            have y293 : I228 340 7 = 2 := by have h := xh228_0; exact h
            have y294 : I228 340 8 = dkTe (I0 345) (I0 340 6) (dkTe (I0 345) (I0 340 6) (dkTe (I0 345) (I0 340 6) (dkTe (I0 345) (I0 340 6) (I0 340 9)))) := by have h := xh228_1; rw [w289] at h; exact h
            have y295 : I228 340 9 = dkTe (I0 345) (I0 340 6) (dkTe (I0 345) (I0 340 6) (dkTe (I0 345) (I0 340 6) (dkTe (I0 345) (I0 340 6) (dkTe (I0 345) (I0 340 6) (I0 340 9))))) := by have h := xh228_2; rw [w287, w288, w289] at h; exact h
            have y296 : I228 340 10 = dkTe (I0 345) (I0 340 6) (dkTe (I0 345) (I0 340 6) (dkTe (I0 345) (I0 340 6) (dkTe (I0 345) (I0 340 6) (I0 340 9)))) := by have h := xh228_3; rw [w289] at h; exact h
            have y297 : I228 340 11 = dkTk (I0 345) (I0 340 6) (dkTe (I0 345) (I0 340 6) (dkTe (I0 345) (I0 340 6) (dkTe (I0 345) (I0 340 6) (dkTe (I0 345) (I0 340 6) (I0 340 9))))) := by have h := xh228_4; rw [w287, w288, w289] at h; exact h
            have y298 : I228 340 12 = dkTv (I0 345) (I0 340 6) (dkTe (I0 345) (I0 340 6) (dkTe (I0 345) (I0 340 6) (dkTe (I0 345) (I0 340 6) (dkTe (I0 345) (I0 340 6) (I0 340 9))))) := by have h := xh228_5; rw [w287, w288, w289] at h; exact h
            have xv228 : v228 = 0 := by have h := xr228; exact h
            refine lv_istore (lv' := [(4, .int v228), (3, .int v129), (2, .int v63), (1, .int v58), (0, .ref (z + 340))]) hx hb dX6_readsPerson_76 hl (by decide) rfl (fun ls hl => ?_)
            refine lv_aload_n hx hb dX6_readsPerson_78 rfl (lv_at hl 4 rfl) ?_
            refine lv_aload_n hx hb dX6_readsPerson_79 rfl (lv_at hl 4 rfl) ?_
            refine dk_get (k := 340) hx hb hts iX6_readsPerson_6 hown hK (dk_at340 hW) rfl 11 (by decide) (hts (.fieldLink RX6 98 "DogKingsModel" "token" "I") (List.mem_of_getElem? (i := 2) rfl)) rfl dX6_readsPerson_80 ?_
            refine lv_topi (fun v299 ev299 => ?_)
            have dv299 : dkN [(2, 2)] v299 := by rw [ev299]; exact f228_340_11
            have xv299 : v299 = dkTk (I0 345) (I0 340 6) (dkTe (I0 345) (I0 340 6) (dkTe (I0 345) (I0 340 6) (dkTe (I0 345) (I0 340 6) (dkTe (I0 345) (I0 340 6) (I0 340 9))))) := ev299.trans y297
            refine lv_iconst (v := 4) hx hb dX6_readsPerson_83 (by decide) ?_
            refine lv_icmp_ne (tgt := 91) hx hb dX6_readsPerson_84 (by decide) (fun c300 => ?_) (fun c300 => ?_)
            ·
              have q301 : (dkTk (I0 345) (I0 340 6) (dkTe (I0 345) (I0 340 6) (dkTe (I0 345) (I0 340 6) (dkTe (I0 345) (I0 340 6) (dkTe (I0 345) (I0 340 6) (I0 340 9)))))).toInt ≠ (4 : Int) := by first | (rw [← xv299]; exact (dk_ne c300)) | (subst xv299; exact (dk_ne c300))
              refine lv_iconst (v := 0) hx hb dX6_readsPerson_91 (by decide) ?_
              refine lv_iconst (v := 1) hx hb dX6_readsPerson_92 (by decide) ?_
              refine dk_Vi (As := [.int 0, .int 1]) (rest := []) ⟨hx, hb, hml, hown, hts⟩ (h_X6_takes_0 l g z I228 0 1 (show dkN [(0, 90)] (I228 340 8) from dkN_sub f228_340_8 rfl) hO) (cwV 2 hts gX6_readsPerson_X6_takes rfl rfl rfl (by decide +kernel) ⟨Nat.le_of_ble_eq_true rfl, Nat.le_of_ble_eq_true rfl⟩) (dk_at340 hW) rfl hK hT hW hS rfl hl.1 rfl (Nat.le_of_ble_eq_true rfl) dX6_readsPerson_93 ⟨Nat.zero_le _, Nat.zero_le _⟩ (fun v302 I302 H302 L302 hp302 hW hS => ?_)
              obtain ⟨hF302, hO, hc302⟩ := hp302
              have hF := dkF_call hF hF302 rfl
              have eI302 : I228 = I302 := (dkF_nil hF302).symm
              subst eI302
              obtain ⟨dv302, xr302, -⟩ := hc302
              have xv302 : v302 = 0 := by have h := xr302; exact h
              refine lv_pop hx hb dX6_readsPerson_96 rfl ?_
              refine lv_aload_n hx hb dX6_readsPerson_97 rfl (lv_at hl 4 rfl) ?_
              refine dk_Vi (As := []) (rest := []) ⟨hx, hb, hml, hown, hts⟩ (fx_X6_isWell_7 l g z I228 (show dkN [(0, 90)] (I228 340 8) from dkN_sub (by rw [hF302 340 8 rfl]; exact f228_340_8) rfl) hO) (cwV 0 hts gX6_readsPerson_X6_isWell rfl rfl rfl (by decide +kernel) ⟨Nat.le_of_ble_eq_true rfl, Nat.le_of_ble_eq_true rfl⟩) (dk_at340 hW) rfl hK hT hW hS rfl hl.1 rfl (Nat.le_of_ble_eq_true rfl) dX6_readsPerson_98 ⟨Nat.zero_le _, Nat.zero_le _⟩ (fun v303 I303 H303 L303 hp303 hW hS => ?_)
              obtain ⟨hF303, hO, hc303⟩ := hp303
              have hF := dkF_call hF hF303 rfl
              have eI303 : I228 = I303 := (dkF_nil hF303).symm
              subst eI303
              obtain ⟨dv303, f303_340_8, x303_0, xr303, -⟩ := hc303
              have w304 : I228 340 8 = dkTe (I0 345) (I0 340 6) (dkTe (I0 345) (I0 340 6) (dkTe (I0 345) (I0 340 6) (dkTe (I0 345) (I0 340 6) (I0 340 9)))) := ((hF302 340 8 rfl).trans y294)
              have q305 : (0 : Int) + 0 ≤ (dkTe (I0 345) (I0 340 6) (dkTe (I0 345) (I0 340 6) (dkTe (I0 345) (I0 340 6) (dkTe (I0 345) (I0 340 6) (I0 340 9))))).toInt := by have h := x303_0; rw [w304] at h; exact h
              have xv303 : v303 = 0 := by have h := xr303; exact h
              refine lv_if_eq (tgt := 149) hx hb dX6_readsPerson_101 (by decide) (fun c306 => ?_) (fun c306 => ?_)
              ·
                have i0 : (0 : Int32).toInt = 0 := rfl
                have i1 : (1 : Int32).toInt = 1 := rfl
                have i2 : (2 : Int32).toInt = 2 := rfl
                have i3 : (3 : Int32).toInt = 3 := rfl
                have i9 : (9 : Int32).toInt = 9 := rfl
                have i30 : (30 : Int32).toInt = 30 := rfl
                have i44 : (44 : Int32).toInt = 44 := rfl
                have i59 : (59 : Int32).toInt = 59 := rfl
                have i109 : (109 : Int32).toInt = 109 := rfl
                have i116 : (116 : Int32).toInt = 116 := rfl
                have e307 : dkMb (I0 345) (I0 340 6) (I0 347 0) (I0 340 9) = (2, dkTe (I0 345) (I0 340 6) (dkTe (I0 345) (I0 340 6) (dkTe (I0 345) (I0 340 6) (dkTe (I0 345) (I0 340 6) (I0 340 9))))) := ((dkTh_p (dkK_0 (T := (I0 345)) (n := (I0 340 6)) (a := I0 340 9) (lo := 0) (hi := ((I0 347 0) - (1 : Int32))) q115 (by omega) (by omega))).trans ((dkTh_p (dkK_c (T := (I0 345)) (n := (I0 340 6)) (a := dkTe (I0 345) (I0 340 6) (I0 340 9)) q213)).trans ((dkTh_p (dkK_0 (T := (I0 345)) (n := (I0 340 6)) (a := dkTe (I0 345) (I0 340 6) (dkTe (I0 345) (I0 340 6) (I0 340 9))) (lo := 0) (hi := 9) q218 (by omega) (by omega))).trans ((dkTh_p (dkK_c (T := (I0 345)) (n := (I0 340 6)) (a := dkTe (I0 345) (I0 340 6) (dkTe (I0 345) (I0 340 6) (dkTe (I0 345) (I0 340 6) (I0 340 9)))) q285)).trans (dkTh_q (dkK_2 (T := (I0 345)) (n := (I0 340 6)) (a := dkTe (I0 345) (I0 340 6) (dkTe (I0 345) (I0 340 6) (dkTe (I0 345) (I0 340 6) (dkTe (I0 345) (I0 340 6) (I0 340 9))))) (lo := 0) (hi := 2) q290 (by omega)) (by decide))))))
                exact W.vret hx hb hr (fun t ht hW9 => ⟨⟨I228, rfl, ⟨hF, hO, Or.inr (Or.inl ⟨(show dkN [(1, 2)] (I228 340 7) from dkN_sub (by rw [hF303 340 7 rfl]; exact (by rw [hF302 340 7 rfl]; exact f228_340_7)) rfl), (show dkN [(0, 90)] (I228 340 8) from dkN_sub f303_340_8 rfl), (show dkN [(3, 9)] (I228 347 0) from dkN_sub (by rw [hF303 347 0 rfl]; exact (by rw [hF302 347 0 rfl]; exact (by rw [hF228 347 0 rfl]; exact (by rw [hF129 347 0 rfl]; exact (by rw [hF63 347 0 rfl]; exact (by rw [hF45 347 0 rfl]; exact np1)))))) rfl), (show dkN [(0, 4)] (I228 347 4) from dkN_sub (by rw [hF303 347 4 rfl]; exact (by rw [hF302 347 4 rfl]; exact (by rw [hF228 347 4 rfl]; exact (by rw [hF129 347 4 rfl]; exact (by rw [hF63 347 4 rfl]; exact (by rw [hF45 347 4 rfl]; exact f44)))))) rfl), (by omega), (dkE_k e307 (by decide)), (((show I228 340 7 = 2 from ((hF303 340 7 rfl).trans ((hF302 340 7 rfl).trans y293)))).trans (dkP_1 e307).symm), (((show I228 340 8 = dkTe (I0 345) (I0 340 6) (dkTe (I0 345) (I0 340 6) (dkTe (I0 345) (I0 340 6) (dkTe (I0 345) (I0 340 6) (I0 340 9)))) from ((hF303 340 8 rfl).trans ((hF302 340 8 rfl).trans y294)))).trans (dkP_2 e307).symm), (show I228 347 0 = I0 347 0 from ((hF303 347 0 rfl).trans ((hF302 347 0 rfl).trans ((hF228 347 0 rfl).trans ((hF129 347 0 rfl).trans ((hF63 347 0 rfl).trans ((hF45 347 0 rfl).trans rfl))))))), (show I228 347 4 = I0 347 4 from ((hF303 347 4 rfl).trans ((hF302 347 4 rfl).trans ((hF228 347 4 rfl).trans ((hF129 347 4 rfl).trans ((hF63 347 4 rfl).trans ((hF45 347 4 rfl).trans rfl))))))), (show I228 347 5 = I0 347 5 from ((hF303 347 5 rfl).trans ((hF302 347 5 rfl).trans ((hF228 347 5 rfl).trans ((hF129 347 5 rfl).trans ((hF63 347 5 rfl).trans ((hF45 347 5 rfl).trans rfl))))))), trivial⟩)⟩, dkW_eq ht hW⟩, hS.F ht⟩) hS.2.2 dX6_readsPerson_149
              ·
                exact absurd ((xv303).trans (rfl).symm) c306
            ·
              exact (dkN_nil (show dkN [] v299 from dkN_eq1 dv299 (dkN_lit (x := 4) (4) rfl) (congrArg Int32.toInt c300) rfl)).elim
          rcases hc228 with ⟨dv228, f228_340_11, f228_340_8, x228_0, x228_1, x228_2, x228_3, x228_4, xr228, xh228_0, xh228_1, xh228_2, xh228_3, xh228_4, xh228_5, -⟩ | hc228
          ·
            have w308 : I129 340 11 = dkTk (I0 345) (I0 340 6) (dkTe (I0 345) (I0 340 6) (dkTe (I0 345) (I0 340 6) (dkTe (I0 345) (I0 340 6) (I0 340 9)))) := y226
            have q309 : (dkTk (I0 345) (I0 340 6) (dkTe (I0 345) (I0 340 6) (dkTe (I0 345) (I0 340 6) (dkTe (I0 345) (I0 340 6) (I0 340 9))))).toInt = (3 : Int) := by have h := x228_0; rw [w308] at h; exact h
            have w310 : I129 340 8 = I0 340 8 := y223
            have w311 : I129 345 = I0 345 := ((funext fun j => hF129 345 j (dkNin_k rfl dkNin_nil)).trans ((funext fun j => hF63 345 j (dkNin_k rfl dkNin_nil)).trans ((funext fun j => hF45 345 j (dkNin_k rfl dkNin_nil)).trans rfl)))
            have w312 : I129 340 6 = I0 340 6 := ((hF129 340 6 rfl).trans ((hF63 340 6 rfl).trans ((hF45 340 6 rfl).trans rfl)))
            have w313 : I129 340 9 = dkTe (I0 345) (I0 340 6) (dkTe (I0 345) (I0 340 6) (dkTe (I0 345) (I0 340 6) (dkTe (I0 345) (I0 340 6) (I0 340 9)))) := y224
            have q314 : (dkTk (I0 345) (I0 340 6) (dkTe (I0 345) (I0 340 6) (dkTe (I0 345) (I0 340 6) (dkTe (I0 345) (I0 340 6) (dkTe (I0 345) (I0 340 6) (I0 340 9)))))).toInt = (2 : Int) := by have h := x228_2; rw [w311, w312, w313] at h; exact h
            have q315 : (0 : Int) + 0 ≤ (dkTv (I0 345) (I0 340 6) (dkTe (I0 345) (I0 340 6) (dkTe (I0 345) (I0 340 6) (dkTe (I0 345) (I0 340 6) (dkTe (I0 345) (I0 340 6) (I0 340 9)))))).toInt := by have h := x228_3; rw [w311, w312, w313] at h; exact h
            have q316 : (dkTv (I0 345) (I0 340 6) (dkTe (I0 345) (I0 340 6) (dkTe (I0 345) (I0 340 6) (dkTe (I0 345) (I0 340 6) (dkTe (I0 345) (I0 340 6) (I0 340 9)))))).toInt + 0 ≤ (2 : Int) := by have h := x228_4; rw [w311, w312, w313] at h; exact h
            have w317 : I129 340 7 = I0 340 7 := y222
            have y318 : I228 340 7 = I0 340 7 := by have h := xh228_0; rw [w317] at h; exact h
            have y319 : I228 340 8 = I0 340 8 := by have h := xh228_1; rw [w310] at h; exact h
            have y320 : I228 340 9 = dkTe (I0 345) (I0 340 6) (dkTe (I0 345) (I0 340 6) (dkTe (I0 345) (I0 340 6) (dkTe (I0 345) (I0 340 6) (dkTe (I0 345) (I0 340 6) (dkTe (I0 345) (I0 340 6) (I0 340 9)))))) := by have h := xh228_2; rw [w311, w312, w313] at h; exact h
            have y321 : I228 340 10 = dkTe (I0 345) (I0 340 6) (dkTe (I0 345) (I0 340 6) (dkTe (I0 345) (I0 340 6) (dkTe (I0 345) (I0 340 6) (dkTe (I0 345) (I0 340 6) (I0 340 9))))) := by have h := xh228_3; rw [w311, w312, w313] at h; exact h
            have y322 : I228 340 11 = dkTk (I0 345) (I0 340 6) (dkTe (I0 345) (I0 340 6) (dkTe (I0 345) (I0 340 6) (dkTe (I0 345) (I0 340 6) (dkTe (I0 345) (I0 340 6) (dkTe (I0 345) (I0 340 6) (I0 340 9)))))) := by have h := xh228_4; rw [w311, w312, w313] at h; exact h
            have y323 : I228 340 12 = dkTv (I0 345) (I0 340 6) (dkTe (I0 345) (I0 340 6) (dkTe (I0 345) (I0 340 6) (dkTe (I0 345) (I0 340 6) (dkTe (I0 345) (I0 340 6) (dkTe (I0 345) (I0 340 6) (I0 340 9)))))) := by have h := xh228_5; rw [w311, w312, w313] at h; exact h
            have xv228 : v228 = dkTv (I0 345) (I0 340 6) (dkTe (I0 345) (I0 340 6) (dkTe (I0 345) (I0 340 6) (dkTe (I0 345) (I0 340 6) (dkTe (I0 345) (I0 340 6) (I0 340 9))))) := by have h := xr228; rw [w311, w312, w313] at h; exact h
            refine lv_istore (lv' := [(4, .int v228), (3, .int v129), (2, .int v63), (1, .int v58), (0, .ref (z + 340))]) hx hb dX6_readsPerson_76 hl (by decide) rfl (fun ls hl => ?_)
            refine lv_aload_n hx hb dX6_readsPerson_78 rfl (lv_at hl 4 rfl) ?_
            refine lv_aload_n hx hb dX6_readsPerson_79 rfl (lv_at hl 4 rfl) ?_
            refine dk_get (k := 340) hx hb hts iX6_readsPerson_6 hown hK (dk_at340 hW) rfl 11 (by decide) (hts (.fieldLink RX6 98 "DogKingsModel" "token" "I") (List.mem_of_getElem? (i := 2) rfl)) rfl dX6_readsPerson_80 ?_
            refine lv_topi (fun v324 ev324 => ?_)
            have dv324 : dkN [(0, 5)] v324 := by rw [ev324]; exact f228_340_11
            have xv324 : v324 = dkTk (I0 345) (I0 340 6) (dkTe (I0 345) (I0 340 6) (dkTe (I0 345) (I0 340 6) (dkTe (I0 345) (I0 340 6) (dkTe (I0 345) (I0 340 6) (dkTe (I0 345) (I0 340 6) (I0 340 9)))))) := ev324.trans y322
            refine lv_iconst (v := 4) hx hb dX6_readsPerson_83 (by decide) ?_
            refine lv_icmp_ne (tgt := 91) hx hb dX6_readsPerson_84 (by decide) (fun c325 => ?_) (fun c325 => ?_)
            ·
              have q326 : (dkTk (I0 345) (I0 340 6) (dkTe (I0 345) (I0 340 6) (dkTe (I0 345) (I0 340 6) (dkTe (I0 345) (I0 340 6) (dkTe (I0 345) (I0 340 6) (dkTe (I0 345) (I0 340 6) (I0 340 9))))))).toInt ≠ (4 : Int) := by first | (rw [← xv324]; exact (dk_ne c325)) | (subst xv324; exact (dk_ne c325))
              have d327 : dkN [(0, 3), (5, 5)] v324 := dkN_ne1 (4) dv324 (dkN_lit (x := 4) (4) rfl) (dk_ne c325) rfl
              have f328 : dkN [(0, 3), (5, 5)] (I228 340 11) := by rw [← ev324]; exact d327
              refine lv_iconst (v := 0) hx hb dX6_readsPerson_91 (by decide) ?_
              refine lv_iconst (v := 1) hx hb dX6_readsPerson_92 (by decide) ?_
              refine dk_Vi (As := [.int 0, .int 1]) (rest := []) ⟨hx, hb, hml, hown, hts⟩ (fx_X6_takes_31 l g z I228 0 1 (dkN_lit (x := 0) (0) rfl) (dkN_lit (x := 1) (1) rfl) (show dkN [(-1, -1)] (I228 340 8) from dkN_sub f228_340_8 rfl) hO) (cwV 2 hts gX6_readsPerson_X6_takes rfl rfl rfl (by decide +kernel) ⟨Nat.le_of_ble_eq_true rfl, Nat.le_of_ble_eq_true rfl⟩) (dk_at340 hW) rfl hK hT hW hS rfl hl.1 rfl (Nat.le_of_ble_eq_true rfl) dX6_readsPerson_93 ⟨Nat.zero_le _, Nat.zero_le _⟩ (fun v329 I329 H329 L329 hp329 hW hS => ?_)
              obtain ⟨hF329, hO, hc329⟩ := hp329
              have hF := dkF_call hF hF329 rfl
              obtain ⟨dv329, f329_340_7, f329_340_8, x329_0, x329_1, xr329, xh329_0, xh329_1, xh329_2, xh329_3, xh329_4, xh329_5, -⟩ := hc329
              have w330 : I228 340 8 = I0 340 8 := y319
              have y331 : I329 340 7 = 1 := by have h := xh329_0; exact h
              have w332 : I228 340 10 = dkTe (I0 345) (I0 340 6) (dkTe (I0 345) (I0 340 6) (dkTe (I0 345) (I0 340 6) (dkTe (I0 345) (I0 340 6) (dkTe (I0 345) (I0 340 6) (I0 340 9))))) := y321
              have y333 : I329 340 8 = dkTe (I0 345) (I0 340 6) (dkTe (I0 345) (I0 340 6) (dkTe (I0 345) (I0 340 6) (dkTe (I0 345) (I0 340 6) (dkTe (I0 345) (I0 340 6) (I0 340 9))))) := by have h := xh329_1; rw [w332] at h; exact h
              have w334 : I228 340 9 = dkTe (I0 345) (I0 340 6) (dkTe (I0 345) (I0 340 6) (dkTe (I0 345) (I0 340 6) (dkTe (I0 345) (I0 340 6) (dkTe (I0 345) (I0 340 6) (dkTe (I0 345) (I0 340 6) (I0 340 9)))))) := y320
              have y335 : I329 340 9 = dkTe (I0 345) (I0 340 6) (dkTe (I0 345) (I0 340 6) (dkTe (I0 345) (I0 340 6) (dkTe (I0 345) (I0 340 6) (dkTe (I0 345) (I0 340 6) (dkTe (I0 345) (I0 340 6) (I0 340 9)))))) := by have h := xh329_2; rw [w334] at h; exact h
              have y336 : I329 340 10 = dkTe (I0 345) (I0 340 6) (dkTe (I0 345) (I0 340 6) (dkTe (I0 345) (I0 340 6) (dkTe (I0 345) (I0 340 6) (dkTe (I0 345) (I0 340 6) (I0 340 9))))) := by have h := xh329_3; rw [w332] at h; exact h
              have w337 : I228 340 11 = dkTk (I0 345) (I0 340 6) (dkTe (I0 345) (I0 340 6) (dkTe (I0 345) (I0 340 6) (dkTe (I0 345) (I0 340 6) (dkTe (I0 345) (I0 340 6) (dkTe (I0 345) (I0 340 6) (I0 340 9)))))) := y322
              have y338 : I329 340 11 = dkTk (I0 345) (I0 340 6) (dkTe (I0 345) (I0 340 6) (dkTe (I0 345) (I0 340 6) (dkTe (I0 345) (I0 340 6) (dkTe (I0 345) (I0 340 6) (dkTe (I0 345) (I0 340 6) (I0 340 9)))))) := by have h := xh329_4; rw [w337] at h; exact h
              have w339 : I228 340 12 = dkTv (I0 345) (I0 340 6) (dkTe (I0 345) (I0 340 6) (dkTe (I0 345) (I0 340 6) (dkTe (I0 345) (I0 340 6) (dkTe (I0 345) (I0 340 6) (dkTe (I0 345) (I0 340 6) (I0 340 9)))))) := y323
              have y340 : I329 340 12 = dkTv (I0 345) (I0 340 6) (dkTe (I0 345) (I0 340 6) (dkTe (I0 345) (I0 340 6) (dkTe (I0 345) (I0 340 6) (dkTe (I0 345) (I0 340 6) (dkTe (I0 345) (I0 340 6) (I0 340 9)))))) := by have h := xh329_5; rw [w339] at h; exact h
              have xv329 : v329 = 0 := by have h := xr329; exact h
              refine lv_pop hx hb dX6_readsPerson_96 rfl ?_
              refine lv_aload_n hx hb dX6_readsPerson_97 rfl (lv_at hl 4 rfl) ?_
              refine dk_Vi (As := []) (rest := []) ⟨hx, hb, hml, hown, hts⟩ (fx_X6_isWell_7 l g z I329 (show dkN [(0, 90)] (I329 340 8) from dkN_sub f329_340_8 rfl) hO) (cwV 0 hts gX6_readsPerson_X6_isWell rfl rfl rfl (by decide +kernel) ⟨Nat.le_of_ble_eq_true rfl, Nat.le_of_ble_eq_true rfl⟩) (dk_at340 hW) rfl hK hT hW hS rfl hl.1 rfl (Nat.le_of_ble_eq_true rfl) dX6_readsPerson_98 ⟨Nat.zero_le _, Nat.zero_le _⟩ (fun v341 I341 H341 L341 hp341 hW hS => ?_)
              obtain ⟨hF341, hO, hc341⟩ := hp341
              have hF := dkF_call hF hF341 rfl
              have eI341 : I329 = I341 := (dkF_nil hF341).symm
              subst eI341
              obtain ⟨dv341, f341_340_8, x341_0, xr341, -⟩ := hc341
              have w342 : I329 340 8 = dkTe (I0 345) (I0 340 6) (dkTe (I0 345) (I0 340 6) (dkTe (I0 345) (I0 340 6) (dkTe (I0 345) (I0 340 6) (dkTe (I0 345) (I0 340 6) (I0 340 9))))) := y333
              have q343 : (0 : Int) + 0 ≤ (dkTe (I0 345) (I0 340 6) (dkTe (I0 345) (I0 340 6) (dkTe (I0 345) (I0 340 6) (dkTe (I0 345) (I0 340 6) (dkTe (I0 345) (I0 340 6) (I0 340 9)))))).toInt := by have h := x341_0; rw [w342] at h; exact h
              have xv341 : v341 = 0 := by have h := xr341; exact h
              refine lv_if_eq (tgt := 149) hx hb dX6_readsPerson_101 (by decide) (fun c344 => ?_) (fun c344 => ?_)
              ·
                have i0 : (0 : Int32).toInt = 0 := rfl
                have i1 : (1 : Int32).toInt = 1 := rfl
                have i2 : (2 : Int32).toInt = 2 := rfl
                have i3 : (3 : Int32).toInt = 3 := rfl
                have i9 : (9 : Int32).toInt = 9 := rfl
                have i30 : (30 : Int32).toInt = 30 := rfl
                have i44 : (44 : Int32).toInt = 44 := rfl
                have i59 : (59 : Int32).toInt = 59 := rfl
                have i109 : (109 : Int32).toInt = 109 := rfl
                have i116 : (116 : Int32).toInt = 116 := rfl
                have e345 : dkMb (I0 345) (I0 340 6) (I0 347 0) (I0 340 9) = (1, dkTe (I0 345) (I0 340 6) (dkTe (I0 345) (I0 340 6) (dkTe (I0 345) (I0 340 6) (dkTe (I0 345) (I0 340 6) (dkTe (I0 345) (I0 340 6) (I0 340 9)))))) := ((dkTh_p (dkK_0 (T := (I0 345)) (n := (I0 340 6)) (a := I0 340 9) (lo := 0) (hi := ((I0 347 0) - (1 : Int32))) q115 (by omega) (by omega))).trans ((dkTh_p (dkK_c (T := (I0 345)) (n := (I0 340 6)) (a := dkTe (I0 345) (I0 340 6) (I0 340 9)) q213)).trans ((dkTh_p (dkK_0 (T := (I0 345)) (n := (I0 340 6)) (a := dkTe (I0 345) (I0 340 6) (dkTe (I0 345) (I0 340 6) (I0 340 9))) (lo := 0) (hi := 9) q218 (by omega) (by omega))).trans ((dkTh_p (dkK_c (T := (I0 345)) (n := (I0 340 6)) (a := dkTe (I0 345) (I0 340 6) (dkTe (I0 345) (I0 340 6) (dkTe (I0 345) (I0 340 6) (I0 340 9)))) q309)).trans ((dkTh_p (dkK_0 (T := (I0 345)) (n := (I0 340 6)) (a := dkTe (I0 345) (I0 340 6) (dkTe (I0 345) (I0 340 6) (dkTe (I0 345) (I0 340 6) (dkTe (I0 345) (I0 340 6) (I0 340 9))))) (lo := 0) (hi := 2) q314 (by omega) (by omega))).trans (dkK_sn (T := (I0 345)) (n := (I0 340 6)) (a := dkTe (I0 345) (I0 340 6) (dkTe (I0 345) (I0 340 6) (dkTe (I0 345) (I0 340 6) (dkTe (I0 345) (I0 340 6) (dkTe (I0 345) (I0 340 6) (I0 340 9)))))) q326))))))
                exact W.vret hx hb hr (fun t ht hW9 => ⟨⟨I329, rfl, ⟨hF, hO, Or.inr (Or.inl ⟨(show dkN [(1, 2)] (I329 340 7) from dkN_sub (by rw [hF341 340 7 rfl]; exact f329_340_7) rfl), (show dkN [(0, 90)] (I329 340 8) from dkN_sub f341_340_8 rfl), (show dkN [(3, 9)] (I329 347 0) from dkN_sub (by rw [hF341 347 0 rfl]; exact (by rw [hF329 347 0 rfl]; exact (by rw [hF228 347 0 rfl]; exact (by rw [hF129 347 0 rfl]; exact (by rw [hF63 347 0 rfl]; exact (by rw [hF45 347 0 rfl]; exact np1)))))) rfl), (show dkN [(0, 4)] (I329 347 4) from dkN_sub (by rw [hF341 347 4 rfl]; exact (by rw [hF329 347 4 rfl]; exact (by rw [hF228 347 4 rfl]; exact (by rw [hF129 347 4 rfl]; exact (by rw [hF63 347 4 rfl]; exact (by rw [hF45 347 4 rfl]; exact f44)))))) rfl), (by omega), (dkE_k e345 (by decide)), (((show I329 340 7 = 1 from ((hF341 340 7 rfl).trans y331))).trans (dkP_1 e345).symm), (((show I329 340 8 = dkTe (I0 345) (I0 340 6) (dkTe (I0 345) (I0 340 6) (dkTe (I0 345) (I0 340 6) (dkTe (I0 345) (I0 340 6) (dkTe (I0 345) (I0 340 6) (I0 340 9))))) from ((hF341 340 8 rfl).trans y333))).trans (dkP_2 e345).symm), (show I329 347 0 = I0 347 0 from ((hF341 347 0 rfl).trans ((hF329 347 0 rfl).trans ((hF228 347 0 rfl).trans ((hF129 347 0 rfl).trans ((hF63 347 0 rfl).trans ((hF45 347 0 rfl).trans rfl))))))), (show I329 347 4 = I0 347 4 from ((hF341 347 4 rfl).trans ((hF329 347 4 rfl).trans ((hF228 347 4 rfl).trans ((hF129 347 4 rfl).trans ((hF63 347 4 rfl).trans ((hF45 347 4 rfl).trans rfl))))))), (show I329 347 5 = I0 347 5 from ((hF341 347 5 rfl).trans ((hF329 347 5 rfl).trans ((hF228 347 5 rfl).trans ((hF129 347 5 rfl).trans ((hF63 347 5 rfl).trans ((hF45 347 5 rfl).trans rfl))))))), trivial⟩)⟩, dkW_eq ht hW⟩, hS.F ht⟩) hS.2.2 dX6_readsPerson_149
              ·
                exact absurd ((xv341).trans (rfl).symm) c344
            ·
              have q346 : (dkTk (I0 345) (I0 340 6) (dkTe (I0 345) (I0 340 6) (dkTe (I0 345) (I0 340 6) (dkTe (I0 345) (I0 340 6) (dkTe (I0 345) (I0 340 6) (dkTe (I0 345) (I0 340 6) (I0 340 9))))))).toInt = (4 : Int) := by first | (rw [← xv324]; exact (congrArg Int32.toInt c325)) | (subst xv324; exact (congrArg Int32.toInt c325))
              have d347 : dkN [(4, 4)] v324 := dkN_eq1 dv324 (dkN_lit (x := 4) (4) rfl) (congrArg Int32.toInt c325) rfl
              have f348 : dkN [(4, 4)] (I228 340 11) := by rw [← ev324]; exact d347
              refine lv_iconst (v := 1) hx hb dX6_readsPerson_87 (by decide) ?_
              refine lv_goto (tgt := 92) hx hb dX6_readsPerson_88 (by decide) ?_
              refine lv_iconst (v := 1) hx hb dX6_readsPerson_92 (by decide) ?_
              refine dk_Vi (As := [.int 1, .int 1]) (rest := []) ⟨hx, hb, hml, hown, hts⟩ (fx_X6_takes_38 l g z I228 1 1 (dkN_lit (x := 1) (1) rfl) (dkN_lit (x := 1) (1) rfl) (show dkN [(-1, -1)] (I228 340 8) from dkN_sub f228_340_8 rfl) hO) (cwV 2 hts gX6_readsPerson_X6_takes rfl rfl rfl (by decide +kernel) ⟨Nat.le_of_ble_eq_true rfl, Nat.le_of_ble_eq_true rfl⟩) (dk_at340 hW) rfl hK hT hW hS rfl hl.1 rfl (Nat.le_of_ble_eq_true rfl) dX6_readsPerson_93 ⟨Nat.zero_le _, Nat.zero_le _⟩ (fun v349 I349 H349 L349 hp349 hW hS => ?_)
              obtain ⟨hF349, hO, hc349⟩ := hp349
              have hF := dkF_call hF hF349 rfl
              obtain ⟨_, f349_340_11, f349_340_8, x349_0, x349_1, xr349, xh349_0, xh349_1, xh349_2, xh349_3, xh349_4, xh349_5, -⟩ := hc349
              have w350 : I228 340 8 = I0 340 8 := y319
              have w351 : I228 340 7 = I0 340 7 := y318
              have y352 : I349 340 7 = I0 340 7 := by have h := xh349_0; rw [w351] at h; exact h
              have y353 : I349 340 8 = I0 340 8 := by have h := xh349_1; rw [w350] at h; exact h
              have w354 : I228 345 = I0 345 := ((funext fun j => hF228 345 j (dkNin_k rfl dkNin_nil)).trans ((funext fun j => hF129 345 j (dkNin_k rfl dkNin_nil)).trans ((funext fun j => hF63 345 j (dkNin_k rfl dkNin_nil)).trans ((funext fun j => hF45 345 j (dkNin_k rfl dkNin_nil)).trans rfl))))
              have w355 : I228 340 6 = I0 340 6 := ((hF228 340 6 rfl).trans ((hF129 340 6 rfl).trans ((hF63 340 6 rfl).trans ((hF45 340 6 rfl).trans rfl))))
              have w356 : I228 340 9 = dkTe (I0 345) (I0 340 6) (dkTe (I0 345) (I0 340 6) (dkTe (I0 345) (I0 340 6) (dkTe (I0 345) (I0 340 6) (dkTe (I0 345) (I0 340 6) (dkTe (I0 345) (I0 340 6) (I0 340 9)))))) := y320
              have y357 : I349 340 9 = dkTe (I0 345) (I0 340 6) (dkTe (I0 345) (I0 340 6) (dkTe (I0 345) (I0 340 6) (dkTe (I0 345) (I0 340 6) (dkTe (I0 345) (I0 340 6) (dkTe (I0 345) (I0 340 6) (dkTe (I0 345) (I0 340 6) (I0 340 9))))))) := by have h := xh349_2; rw [w354, w355, w356] at h; exact h
              have y358 : I349 340 10 = dkTe (I0 345) (I0 340 6) (dkTe (I0 345) (I0 340 6) (dkTe (I0 345) (I0 340 6) (dkTe (I0 345) (I0 340 6) (dkTe (I0 345) (I0 340 6) (dkTe (I0 345) (I0 340 6) (I0 340 9)))))) := by have h := xh349_3; rw [w356] at h; exact h
              have y359 : I349 340 11 = dkTk (I0 345) (I0 340 6) (dkTe (I0 345) (I0 340 6) (dkTe (I0 345) (I0 340 6) (dkTe (I0 345) (I0 340 6) (dkTe (I0 345) (I0 340 6) (dkTe (I0 345) (I0 340 6) (dkTe (I0 345) (I0 340 6) (I0 340 9))))))) := by have h := xh349_4; rw [w354, w355, w356] at h; exact h
              have y360 : I349 340 12 = dkTv (I0 345) (I0 340 6) (dkTe (I0 345) (I0 340 6) (dkTe (I0 345) (I0 340 6) (dkTe (I0 345) (I0 340 6) (dkTe (I0 345) (I0 340 6) (dkTe (I0 345) (I0 340 6) (dkTe (I0 345) (I0 340 6) (I0 340 9))))))) := by have h := xh349_5; rw [w354, w355, w356] at h; exact h
              have w361 : I228 340 12 = dkTv (I0 345) (I0 340 6) (dkTe (I0 345) (I0 340 6) (dkTe (I0 345) (I0 340 6) (dkTe (I0 345) (I0 340 6) (dkTe (I0 345) (I0 340 6) (dkTe (I0 345) (I0 340 6) (I0 340 9)))))) := y323
              have xv349 : v349 = dkTv (I0 345) (I0 340 6) (dkTe (I0 345) (I0 340 6) (dkTe (I0 345) (I0 340 6) (dkTe (I0 345) (I0 340 6) (dkTe (I0 345) (I0 340 6) (dkTe (I0 345) (I0 340 6) (I0 340 9)))))) := by have h := xr349; rw [w361] at h; exact h
              refine lv_pop hx hb dX6_readsPerson_96 rfl ?_
              refine lv_aload_n hx hb dX6_readsPerson_97 rfl (lv_at hl 4 rfl) ?_
              refine dk_Vi (As := []) (rest := []) ⟨hx, hb, hml, hown, hts⟩ (fx_X6_isWell_6 l g z I349 (show dkN [(-1, -1)] (I349 340 8) from dkN_sub f349_340_8 rfl) hO) (cwV 0 hts gX6_readsPerson_X6_isWell rfl rfl rfl (by decide +kernel) ⟨Nat.le_of_ble_eq_true rfl, Nat.le_of_ble_eq_true rfl⟩) (dk_at340 hW) rfl hK hT hW hS rfl hl.1 rfl (Nat.le_of_ble_eq_true rfl) dX6_readsPerson_98 ⟨Nat.zero_le _, Nat.zero_le _⟩ (fun v362 I362 H362 L362 hp362 hW hS => ?_)
              obtain ⟨hF362, hO, hc362⟩ := hp362
              have hF := dkF_call hF hF362 rfl
              have eI362 : I349 = I362 := (dkF_nil hF362).symm
              subst eI362
              obtain ⟨dv362, f362_340_8, x362_0, xr362, -⟩ := hc362
              have w363 : I349 340 8 = I0 340 8 := y353
              have xv362 : v362 = 1 := by have h := xr362; exact h
              refine lv_if_eq (tgt := 149) hx hb dX6_readsPerson_101 (by decide) (fun c364 => ?_) (fun c364 => ?_)
              ·
                exact (dkN_nil (show dkN [] v362 from dkN_eq1 dv362 (dkN_lit (x := 0) (0) rfl) (congrArg Int32.toInt c364) rfl)).elim
              ·
                refine lv_aload_n hx hb dX6_readsPerson_104 rfl (lv_at hl 4 rfl) ?_
                refine dk_get (k := 340) hx hb hts iX6_readsPerson_6 hown hK (dk_at340 hW) rfl 14 (by decide) (hts (.fieldLink RX6 28 "DogKingsModel" "draft" "[I") (List.mem_of_getElem? (i := 1) rfl)) rfl dX6_readsPerson_105 ?_
                refine lv_iload_n hx hb dX6_readsPerson_108 rfl (lv_at hl 3 rfl) ?_
                refine lv_iload_n hx hb dX6_readsPerson_109 rfl (lv_at hl 2 rfl) ?_
                refine dk_ist (k := 347) hx hb hK hW (fun _ => rfl) (by decide) hS (dkN_in (n := 54) dv58 rfl) dX6_readsPerson_110 (fun I365 H365 L365 eI365 hW hS => ?_)
                have hO := dkO_set hO eI365 (by rw [dkB_w (k := 347) (B := [(-2147483648, 2147483647)]) (by decide) dv58 rfl]; exact dkN_top _)
                have hF := dkF_set hF eI365 (dkIn_v dv58 rfl)
                refine lv_aload_n hx hb dX6_readsPerson_111 rfl (lv_at hl 4 rfl) ?_
                refine dk_get (k := 340) hx hb hts iX6_readsPerson_6 hown hK (dk_at340 hW) rfl 14 (by decide) (hts (.fieldLink RX6 28 "DogKingsModel" "draft" "[I") (List.mem_of_getElem? (i := 1) rfl)) rfl dX6_readsPerson_112 ?_
                refine lv_iload_n hx hb dX6_readsPerson_115 rfl (lv_at hl 3 rfl) ?_
                refine lv_iconst (v := 1) hx hb dX6_readsPerson_116 (by decide) ?_
                refine lv_iadd hx hb dX6_readsPerson_117 ?_
                refine lv_topi (fun v366 ev366 => ?_)
                have dv366 : dkN [(7, 31)] v366 := by rw [ev366]; exact dkN_add dv58 (dkN_lit (x := 1) (1) rfl) rfl
                have xv366 : v366 = ((6 : Int32) + ((6 : Int32) * (I0 347 4))) + (1 : Int32) := by rw [ev366, xv58]
                have q367 : (((6 : Int32) + ((6 : Int32) * (I0 347 4))) + (1 : Int32)).toInt = ((6 : Int32) + ((6 : Int32) * (I0 347 4))).toInt + (1 : Int) := by first | (rw [← xv366, ← xv58]; exact (by rw [ev366]; exact dk_addE dv58 (dkN_lit (x := 1) (1) rfl) rfl)) | (subst xv366 xv58; exact (by rw [ev366]; exact dk_addE dv58 (dkN_lit (x := 1) (1) rfl) rfl))
                refine lv_iload_n hx hb dX6_readsPerson_118 rfl (lv_at hl 1 rfl) ?_
                refine dk_ist (k := 347) hx hb hK hW (fun _ => rfl) (by decide) hS (dkN_in (n := 54) dv366 rfl) dX6_readsPerson_119 (fun I368 H368 L368 eI368 hW hS => ?_)
                have hO := dkO_set hO eI368 (by rw [dkB_w (k := 347) (B := [(-2147483648, 2147483647)]) (by decide) dv366 rfl]; exact dkN_top _)
                have hF := dkF_set hF eI368 (dkIn_v dv366 rfl)
                refine lv_aload_n hx hb dX6_readsPerson_120 rfl (lv_at hl 4 rfl) ?_
                refine dk_get (k := 340) hx hb hts iX6_readsPerson_6 hown hK (dk_at340 hW) rfl 14 (by decide) (hts (.fieldLink RX6 28 "DogKingsModel" "draft" "[I") (List.mem_of_getElem? (i := 1) rfl)) rfl dX6_readsPerson_121 ?_
                refine lv_iload_n hx hb dX6_readsPerson_124 rfl (lv_at hl 3 rfl) ?_
                refine lv_iconst (v := 2) hx hb dX6_readsPerson_125 (by decide) ?_
                refine lv_iadd hx hb dX6_readsPerson_126 ?_
                refine lv_topi (fun v369 ev369 => ?_)
                have dv369 : dkN [(8, 32)] v369 := by rw [ev369]; exact dkN_add dv58 (dkN_lit (x := 2) (2) rfl) rfl
                have xv369 : v369 = ((6 : Int32) + ((6 : Int32) * (I0 347 4))) + (2 : Int32) := by rw [ev369, xv58]
                have q370 : (((6 : Int32) + ((6 : Int32) * (I0 347 4))) + (2 : Int32)).toInt = ((6 : Int32) + ((6 : Int32) * (I0 347 4))).toInt + (2 : Int) := by first | (rw [← xv369, ← xv58]; exact (by rw [ev369]; exact dk_addE dv58 (dkN_lit (x := 2) (2) rfl) rfl)) | (subst xv369 xv58; exact (by rw [ev369]; exact dk_addE dv58 (dkN_lit (x := 2) (2) rfl) rfl))
                refine lv_iload hx hb dX6_readsPerson_127 (lv_at hl 0 rfl) ?_
                refine dk_ist (k := 347) hx hb hK hW (fun _ => rfl) (by decide) hS (dkN_in (n := 54) dv369 rfl) dX6_readsPerson_129 (fun I371 H371 L371 eI371 hW hS => ?_)
                have hO := dkO_set hO eI371 (by rw [dkB_w (k := 347) (B := [(-2147483648, 2147483647)]) (by decide) dv369 rfl]; exact dkN_top _)
                have hF := dkF_set hF eI371 (dkIn_v dv369 rfl)
                refine lv_aload_n hx hb dX6_readsPerson_130 rfl (lv_at hl 4 rfl) ?_
                refine dk_get (k := 340) hx hb hts iX6_readsPerson_6 hown hK (dk_at340 hW) rfl 14 (by decide) (hts (.fieldLink RX6 28 "DogKingsModel" "draft" "[I") (List.mem_of_getElem? (i := 1) rfl)) rfl dX6_readsPerson_131 ?_
                refine lv_iload_n hx hb dX6_readsPerson_134 rfl (lv_at hl 3 rfl) ?_
                refine lv_iconst (v := 4) hx hb dX6_readsPerson_135 (by decide) ?_
                refine lv_iadd hx hb dX6_readsPerson_136 ?_
                refine lv_topi (fun v372 ev372 => ?_)
                have dv372 : dkN [(10, 34)] v372 := by rw [ev372]; exact dkN_add dv58 (dkN_lit (x := 4) (4) rfl) rfl
                have xv372 : v372 = ((6 : Int32) + ((6 : Int32) * (I0 347 4))) + (4 : Int32) := by rw [ev372, xv58]
                have q373 : (((6 : Int32) + ((6 : Int32) * (I0 347 4))) + (4 : Int32)).toInt = ((6 : Int32) + ((6 : Int32) * (I0 347 4))).toInt + (4 : Int) := by first | (rw [← xv372, ← xv58]; exact (by rw [ev372]; exact dk_addE dv58 (dkN_lit (x := 4) (4) rfl) rfl)) | (subst xv372 xv58; exact (by rw [ev372]; exact dk_addE dv58 (dkN_lit (x := 4) (4) rfl) rfl))
                refine lv_iload_n hx hb dX6_readsPerson_137 rfl (lv_at hl 2 rfl) ?_
                refine dk_ist (k := 347) hx hb hK hW (fun _ => rfl) (by decide) hS (dkN_in (n := 54) dv372 rfl) dX6_readsPerson_138 (fun I374 H374 L374 eI374 hW hS => ?_)
                have hO := dkO_set hO eI374 (by rw [dkB_w (k := 347) (B := [(-2147483648, 2147483647)]) (by decide) dv372 rfl]; exact dkN_top _)
                have hF := dkF_set hF eI374 (dkIn_v dv372 rfl)
                refine lv_aload_n hx hb dX6_readsPerson_139 rfl (lv_at hl 4 rfl) ?_
                refine dk_get (k := 340) hx hb hts iX6_readsPerson_6 hown hK (dk_at340 hW) rfl 14 (by decide) (hts (.fieldLink RX6 28 "DogKingsModel" "draft" "[I") (List.mem_of_getElem? (i := 1) rfl)) rfl dX6_readsPerson_140 ?_
                refine lv_iconst (v := 4) hx hb dX6_readsPerson_143 (by decide) ?_
                refine lv_dup2_11 hx hb dX6_readsPerson_144 rfl rfl ?_
                refine dk_ild (k := 347) hx hb hK (dk_at347 hW) (dkN_in (n := 54) (dkN_lit (x := 4) (4) rfl) rfl) dX6_readsPerson_145 ?_
                refine lv_topi (fun v375 ev375 => ?_)
                have ev375 : v375 = I374 347 4 := ev375
                have dv375 : dkN [(0, 4)] v375 := by rw [ev375]; exact (show dkN [(0, 4)] (I374 347 4) from (by rw [eI374, dkU_sn (dkN_njx dv372 rfl)]; exact (by rw [eI371, dkU_sn (dkN_njx dv369 rfl)]; exact (by rw [eI368, dkU_sn (dkN_njx dv366 rfl)]; exact (by rw [eI365, dkU_sn (dkN_njx dv58 rfl)]; exact (by rw [hF362 347 4 rfl]; exact (by rw [hF349 347 4 rfl]; exact (by rw [hF228 347 4 rfl]; exact (by rw [hF129 347 4 rfl]; exact (by rw [hF63 347 4 rfl]; exact (by rw [hF45 347 4 rfl]; exact f44)))))))))))
                have xv375 : v375 = I0 347 4 := ev375.trans ((by rw [eI374, dkU_sn (dkN_njx dv372 rfl)] : I374 347 4 = _).trans ((by rw [eI371, dkU_sn (dkN_njx dv369 rfl)] : I371 347 4 = _).trans ((by rw [eI368, dkU_sn (dkN_njx dv366 rfl)] : I368 347 4 = _).trans ((by rw [eI365, dkU_sn (dkN_njx dv58 rfl)] : I365 347 4 = _).trans ((hF362 347 4 rfl).trans ((hF349 347 4 rfl).trans ((hF228 347 4 rfl).trans ((hF129 347 4 rfl).trans ((hF63 347 4 rfl).trans ((hF45 347 4 rfl).trans rfl))))))))))
                refine lv_iconst (v := 1) hx hb dX6_readsPerson_146 (by decide) ?_
                refine lv_iadd hx hb dX6_readsPerson_147 ?_
                refine lv_topi (fun v376 ev376 => ?_)
                have dv376 : dkN [(1, 5)] v376 := by rw [ev376]; exact dkN_add dv375 (dkN_lit (x := 1) (1) rfl) rfl
                have xv376 : v376 = (I0 347 4) + (1 : Int32) := by rw [ev376, xv375]
                have q377 : ((I0 347 4) + (1 : Int32)).toInt = (I0 347 4).toInt + (1 : Int) := by first | (rw [← xv376, ← xv375]; exact (by rw [ev376]; exact dk_addE dv375 (dkN_lit (x := 1) (1) rfl) rfl)) | (subst xv376 xv375; exact (by rw [ev376]; exact dk_addE dv375 (dkN_lit (x := 1) (1) rfl) rfl))
                refine dk_ist (k := 347) hx hb hK hW (fun _ => rfl) (by decide) hS (dkN_in (n := 54) (dkN_lit (x := 4) (4) rfl) rfl) dX6_readsPerson_148 (fun I378 H378 L378 eI378 hW hS => ?_)
                have eI378 : I378 = dkU I374 347 4 v376 := eI378
                have hO := dkO_set hO eI378 (dkN_sub dv376 rfl)
                have hF := dkF_set hF eI378 rfl
                have i0 : (0 : Int32).toInt = 0 := rfl
                have i1 : (1 : Int32).toInt = 1 := rfl
                have i2 : (2 : Int32).toInt = 2 := rfl
                have i3 : (3 : Int32).toInt = 3 := rfl
                have i9 : (9 : Int32).toInt = 9 := rfl
                have i30 : (30 : Int32).toInt = 30 := rfl
                have i44 : (44 : Int32).toInt = 44 := rfl
                have i59 : (59 : Int32).toInt = 59 := rfl
                have i109 : (109 : Int32).toInt = 109 := rfl
                have i116 : (116 : Int32).toInt = 116 := rfl
                have e379 : dkMb (I0 345) (I0 340 6) (I0 347 0) (I0 340 9) = (0, dkTe (I0 345) (I0 340 6) (dkTe (I0 345) (I0 340 6) (dkTe (I0 345) (I0 340 6) (dkTe (I0 345) (I0 340 6) (dkTe (I0 345) (I0 340 6) (dkTe (I0 345) (I0 340 6) (I0 340 9))))))) := ((dkTh_p (dkK_0 (T := (I0 345)) (n := (I0 340 6)) (a := I0 340 9) (lo := 0) (hi := ((I0 347 0) - (1 : Int32))) q115 (by omega) (by omega))).trans ((dkTh_p (dkK_c (T := (I0 345)) (n := (I0 340 6)) (a := dkTe (I0 345) (I0 340 6) (I0 340 9)) q213)).trans ((dkTh_p (dkK_0 (T := (I0 345)) (n := (I0 340 6)) (a := dkTe (I0 345) (I0 340 6) (dkTe (I0 345) (I0 340 6) (I0 340 9))) (lo := 0) (hi := 9) q218 (by omega) (by omega))).trans ((dkTh_p (dkK_c (T := (I0 345)) (n := (I0 340 6)) (a := dkTe (I0 345) (I0 340 6) (dkTe (I0 345) (I0 340 6) (dkTe (I0 345) (I0 340 6) (I0 340 9)))) q309)).trans ((dkTh_p (dkK_0 (T := (I0 345)) (n := (I0 340 6)) (a := dkTe (I0 345) (I0 340 6) (dkTe (I0 345) (I0 340 6) (dkTe (I0 345) (I0 340 6) (dkTe (I0 345) (I0 340 6) (I0 340 9))))) (lo := 0) (hi := 2) q314 (by omega) (by omega))).trans (dkK_s (T := (I0 345)) (n := (I0 340 6)) (a := dkTe (I0 345) (I0 340 6) (dkTe (I0 345) (I0 340 6) (dkTe (I0 345) (I0 340 6) (dkTe (I0 345) (I0 340 6) (dkTe (I0 345) (I0 340 6) (I0 340 9)))))) q346))))))
                exact W.vret hx hb hr (fun t ht hW9 => ⟨⟨I378, rfl, ⟨hF, hO, Or.inr (Or.inr (⟨(show dkN [(0, 5)] (I378 340 11) from dkN_sub (by rw [eI378, dkU_n (by decide)]; exact (by rw [eI374, dkU_n (by decide)]; exact (by rw [eI371, dkU_n (by decide)]; exact (by rw [eI368, dkU_n (by decide)]; exact (by rw [eI365, dkU_n (by decide)]; exact (by rw [hF362 340 11 rfl]; exact f349_340_11)))))) rfl), (show dkN [(-1, -1)] (I378 340 8) from dkN_sub (by rw [eI378, dkU_n (by decide)]; exact (by rw [eI374, dkU_n (by decide)]; exact (by rw [eI371, dkU_n (by decide)]; exact (by rw [eI368, dkU_n (by decide)]; exact (by rw [eI365, dkU_n (by decide)]; exact f362_340_8))))) rfl), (show dkN [(3, 9)] (I378 347 0) from dkN_sub (by rw [eI378, dkU_sn (by decide)]; exact (by rw [eI374, dkU_sn (dkN_njx dv372 rfl)]; exact (by rw [eI371, dkU_sn (dkN_njx dv369 rfl)]; exact (by rw [eI368, dkU_sn (dkN_njx dv366 rfl)]; exact (by rw [eI365, dkU_sn (dkN_njx dv58 rfl)]; exact (by rw [hF362 347 0 rfl]; exact (by rw [hF349 347 0 rfl]; exact (by rw [hF228 347 0 rfl]; exact (by rw [hF129 347 0 rfl]; exact (by rw [hF63 347 0 rfl]; exact (by rw [hF45 347 0 rfl]; exact np1))))))))))) rfl), (show dkN [(1, 5)] (I378 347 4) from dkN_sub (by rw [eI378, dkU_ss]; exact dv376) rfl), (by omega), (dkP_1 e379), (show I378 340 7 = I0 340 7 from ((by rw [eI378, dkU_n (by decide)] : I378 340 7 = _).trans ((by rw [eI374, dkU_n (by decide)] : I374 340 7 = _).trans ((by rw [eI371, dkU_n (by decide)] : I371 340 7 = _).trans ((by rw [eI368, dkU_n (by decide)] : I368 340 7 = _).trans ((by rw [eI365, dkU_n (by decide)] : I365 340 7 = _).trans ((hF362 340 7 rfl).trans y352))))))), (show I378 340 8 = I0 340 8 from ((by rw [eI378, dkU_n (by decide)] : I378 340 8 = _).trans ((by rw [eI374, dkU_n (by decide)] : I374 340 8 = _).trans ((by rw [eI371, dkU_n (by decide)] : I371 340 8 = _).trans ((by rw [eI368, dkU_n (by decide)] : I368 340 8 = _).trans ((by rw [eI365, dkU_n (by decide)] : I365 340 8 = _).trans ((hF362 340 8 rfl).trans y353))))))), (((show I378 340 9 = dkTe (I0 345) (I0 340 6) (dkTe (I0 345) (I0 340 6) (dkTe (I0 345) (I0 340 6) (dkTe (I0 345) (I0 340 6) (dkTe (I0 345) (I0 340 6) (dkTe (I0 345) (I0 340 6) (dkTe (I0 345) (I0 340 6) (I0 340 9))))))) from ((by rw [eI378, dkU_n (by decide)] : I378 340 9 = _).trans ((by rw [eI374, dkU_n (by decide)] : I374 340 9 = _).trans ((by rw [eI371, dkU_n (by decide)] : I371 340 9 = _).trans ((by rw [eI368, dkU_n (by decide)] : I368 340 9 = _).trans ((by rw [eI365, dkU_n (by decide)] : I365 340 9 = _).trans ((hF362 340 9 rfl).trans y357)))))))).trans (congrArg (dkTe (I0 345) (I0 340 6)) (dkP_2 e379).symm)), (((show I378 340 10 = dkTe (I0 345) (I0 340 6) (dkTe (I0 345) (I0 340 6) (dkTe (I0 345) (I0 340 6) (dkTe (I0 345) (I0 340 6) (dkTe (I0 345) (I0 340 6) (dkTe (I0 345) (I0 340 6) (I0 340 9)))))) from ((by rw [eI378, dkU_n (by decide)] : I378 340 10 = _).trans ((by rw [eI374, dkU_n (by decide)] : I374 340 10 = _).trans ((by rw [eI371, dkU_n (by decide)] : I371 340 10 = _).trans ((by rw [eI368, dkU_n (by decide)] : I368 340 10 = _).trans ((by rw [eI365, dkU_n (by decide)] : I365 340 10 = _).trans ((hF362 340 10 rfl).trans y358)))))))).trans (dkP_2 e379).symm), (((show I378 340 11 = dkTk (I0 345) (I0 340 6) (dkTe (I0 345) (I0 340 6) (dkTe (I0 345) (I0 340 6) (dkTe (I0 345) (I0 340 6) (dkTe (I0 345) (I0 340 6) (dkTe (I0 345) (I0 340 6) (dkTe (I0 345) (I0 340 6) (I0 340 9))))))) from ((by rw [eI378, dkU_n (by decide)] : I378 340 11 = _).trans ((by rw [eI374, dkU_n (by decide)] : I374 340 11 = _).trans ((by rw [eI371, dkU_n (by decide)] : I371 340 11 = _).trans ((by rw [eI368, dkU_n (by decide)] : I368 340 11 = _).trans ((by rw [eI365, dkU_n (by decide)] : I365 340 11 = _).trans ((hF362 340 11 rfl).trans y359)))))))).trans (congrArg (dkTk (I0 345) (I0 340 6)) (dkP_2 e379).symm)), (((show I378 340 12 = dkTv (I0 345) (I0 340 6) (dkTe (I0 345) (I0 340 6) (dkTe (I0 345) (I0 340 6) (dkTe (I0 345) (I0 340 6) (dkTe (I0 345) (I0 340 6) (dkTe (I0 345) (I0 340 6) (dkTe (I0 345) (I0 340 6) (I0 340 9))))))) from ((by rw [eI378, dkU_n (by decide)] : I378 340 12 = _).trans ((by rw [eI374, dkU_n (by decide)] : I374 340 12 = _).trans ((by rw [eI371, dkU_n (by decide)] : I371 340 12 = _).trans ((by rw [eI368, dkU_n (by decide)] : I368 340 12 = _).trans ((by rw [eI365, dkU_n (by decide)] : I365 340 12 = _).trans ((hF362 340 12 rfl).trans y360)))))))).trans (congrArg (dkTv (I0 345) (I0 340 6)) (dkP_2 e379).symm)), (show I378 347 0 = I0 347 0 from ((by rw [eI378, dkU_sn (by decide)] : I378 347 0 = _).trans ((by rw [eI374, dkU_sn (dkN_njx dv372 rfl)] : I374 347 0 = _).trans ((by rw [eI371, dkU_sn (dkN_njx dv369 rfl)] : I371 347 0 = _).trans ((by rw [eI368, dkU_sn (dkN_njx dv366 rfl)] : I368 347 0 = _).trans ((by rw [eI365, dkU_sn (dkN_njx dv58 rfl)] : I365 347 0 = _).trans ((hF362 347 0 rfl).trans ((hF349 347 0 rfl).trans ((hF228 347 0 rfl).trans ((hF129 347 0 rfl).trans ((hF63 347 0 rfl).trans ((hF45 347 0 rfl).trans rfl)))))))))))), (show I378 347 5 = I0 347 5 from ((by rw [eI378, dkU_sn (by decide)] : I378 347 5 = _).trans ((by rw [eI374, dkU_sn (dkN_njx dv372 rfl)] : I374 347 5 = _).trans ((by rw [eI371, dkU_sn (dkN_njx dv369 rfl)] : I371 347 5 = _).trans ((by rw [eI368, dkU_sn (dkN_njx dv366 rfl)] : I368 347 5 = _).trans ((by rw [eI365, dkU_sn (dkN_njx dv58 rfl)] : I365 347 5 = _).trans ((hF362 347 5 rfl).trans ((hF349 347 5 rfl).trans ((hF228 347 5 rfl).trans ((hF129 347 5 rfl).trans ((hF63 347 5 rfl).trans ((hF45 347 5 rfl).trans rfl)))))))))))), (show I378 347 4 = (I0 347 4) + (1 : Int32) from (by rw [eI378, dkU_ss, xv376])), dk_incEq (by rw [eI378, dkU_ss, ev376] : I378 347 4 = v375 + 1) (ev375.trans ((by rw [eI374, dkU_sn (dkN_njx dv372 rfl)] : I374 347 4 = _).trans ((by rw [eI371, dkU_sn (dkN_njx dv369 rfl)] : I371 347 4 = _).trans ((by rw [eI368, dkU_sn (dkN_njx dv366 rfl)] : I368 347 4 = _).trans ((by rw [eI365, dkU_sn (dkN_njx dv58 rfl)] : I365 347 4 = _).trans ((hF362 347 4 rfl).trans ((hF349 347 4 rfl).trans ((hF228 347 4 rfl).trans ((hF129 347 4 rfl).trans ((hF63 347 4 rfl).trans ((hF45 347 4 rfl).trans rfl))))))))))), trivial⟩))⟩, dkW_eq ht hW⟩, hS.F ht⟩) hS.2.2 dX6_readsPerson_149
          ·
            obtain ⟨dv228, f228_340_11, f228_340_7, f228_340_8, x228_0, x228_1, x228_2, xr228, xh228_0, xh228_1, xh228_2, xh228_3, xh228_4, xh228_5, -⟩ := hc228
            have w380 : I129 340 11 = dkTk (I0 345) (I0 340 6) (dkTe (I0 345) (I0 340 6) (dkTe (I0 345) (I0 340 6) (dkTe (I0 345) (I0 340 6) (I0 340 9)))) := y226
            have q381 : (dkTk (I0 345) (I0 340 6) (dkTe (I0 345) (I0 340 6) (dkTe (I0 345) (I0 340 6) (dkTe (I0 345) (I0 340 6) (I0 340 9))))).toInt = (3 : Int) := by have h := x228_0; rw [w380] at h; exact h
            have w382 : I129 340 8 = I0 340 8 := y223
            have w383 : I129 345 = I0 345 := ((funext fun j => hF129 345 j (dkNin_k rfl dkNin_nil)).trans ((funext fun j => hF63 345 j (dkNin_k rfl dkNin_nil)).trans ((funext fun j => hF45 345 j (dkNin_k rfl dkNin_nil)).trans rfl)))
            have w384 : I129 340 6 = I0 340 6 := ((hF129 340 6 rfl).trans ((hF63 340 6 rfl).trans ((hF45 340 6 rfl).trans rfl)))
            have w385 : I129 340 9 = dkTe (I0 345) (I0 340 6) (dkTe (I0 345) (I0 340 6) (dkTe (I0 345) (I0 340 6) (dkTe (I0 345) (I0 340 6) (I0 340 9)))) := y224
            have q386 : (dkTk (I0 345) (I0 340 6) (dkTe (I0 345) (I0 340 6) (dkTe (I0 345) (I0 340 6) (dkTe (I0 345) (I0 340 6) (dkTe (I0 345) (I0 340 6) (I0 340 9)))))).toInt ≠ (2 : Int) := by have h := x228_2; rw [w383, w384, w385] at h; exact h
            have y387 : I228 340 7 = 1 := by have h := xh228_0; exact h
            have y388 : I228 340 8 = dkTe (I0 345) (I0 340 6) (dkTe (I0 345) (I0 340 6) (dkTe (I0 345) (I0 340 6) (dkTe (I0 345) (I0 340 6) (I0 340 9)))) := by have h := xh228_1; rw [w385] at h; exact h
            have y389 : I228 340 9 = dkTe (I0 345) (I0 340 6) (dkTe (I0 345) (I0 340 6) (dkTe (I0 345) (I0 340 6) (dkTe (I0 345) (I0 340 6) (dkTe (I0 345) (I0 340 6) (I0 340 9))))) := by have h := xh228_2; rw [w383, w384, w385] at h; exact h
            have y390 : I228 340 10 = dkTe (I0 345) (I0 340 6) (dkTe (I0 345) (I0 340 6) (dkTe (I0 345) (I0 340 6) (dkTe (I0 345) (I0 340 6) (I0 340 9)))) := by have h := xh228_3; rw [w385] at h; exact h
            have y391 : I228 340 11 = dkTk (I0 345) (I0 340 6) (dkTe (I0 345) (I0 340 6) (dkTe (I0 345) (I0 340 6) (dkTe (I0 345) (I0 340 6) (dkTe (I0 345) (I0 340 6) (I0 340 9))))) := by have h := xh228_4; rw [w383, w384, w385] at h; exact h
            have y392 : I228 340 12 = dkTv (I0 345) (I0 340 6) (dkTe (I0 345) (I0 340 6) (dkTe (I0 345) (I0 340 6) (dkTe (I0 345) (I0 340 6) (dkTe (I0 345) (I0 340 6) (I0 340 9))))) := by have h := xh228_5; rw [w383, w384, w385] at h; exact h
            have xv228 : v228 = 0 := by have h := xr228; exact h
            refine lv_istore (lv' := [(4, .int v228), (3, .int v129), (2, .int v63), (1, .int v58), (0, .ref (z + 340))]) hx hb dX6_readsPerson_76 hl (by decide) rfl (fun ls hl => ?_)
            refine lv_aload_n hx hb dX6_readsPerson_78 rfl (lv_at hl 4 rfl) ?_
            refine lv_aload_n hx hb dX6_readsPerson_79 rfl (lv_at hl 4 rfl) ?_
            refine dk_get (k := 340) hx hb hts iX6_readsPerson_6 hown hK (dk_at340 hW) rfl 11 (by decide) (hts (.fieldLink RX6 98 "DogKingsModel" "token" "I") (List.mem_of_getElem? (i := 2) rfl)) rfl dX6_readsPerson_80 ?_
            refine lv_topi (fun v393 ev393 => ?_)
            have dv393 : dkN [(-2147483648, 1), (3, 2147483647)] v393 := by rw [ev393]; exact f228_340_11
            have xv393 : v393 = dkTk (I0 345) (I0 340 6) (dkTe (I0 345) (I0 340 6) (dkTe (I0 345) (I0 340 6) (dkTe (I0 345) (I0 340 6) (dkTe (I0 345) (I0 340 6) (I0 340 9))))) := ev393.trans y391
            refine lv_iconst (v := 4) hx hb dX6_readsPerson_83 (by decide) ?_
            refine lv_icmp_ne (tgt := 91) hx hb dX6_readsPerson_84 (by decide) (fun c394 => ?_) (fun c394 => ?_)
            ·
              have q395 : (dkTk (I0 345) (I0 340 6) (dkTe (I0 345) (I0 340 6) (dkTe (I0 345) (I0 340 6) (dkTe (I0 345) (I0 340 6) (dkTe (I0 345) (I0 340 6) (I0 340 9)))))).toInt ≠ (4 : Int) := by first | (rw [← xv393]; exact (dk_ne c394)) | (subst xv393; exact (dk_ne c394))
              have d396 : dkN [(-2147483648, 1), (3, 3), (5, 2147483647)] v393 := dkN_ne1 (4) dv393 (dkN_lit (x := 4) (4) rfl) (dk_ne c394) rfl
              have f397 : dkN [(-2147483648, 1), (3, 3), (5, 2147483647)] (I228 340 11) := by rw [← ev393]; exact d396
              refine lv_iconst (v := 0) hx hb dX6_readsPerson_91 (by decide) ?_
              refine lv_iconst (v := 1) hx hb dX6_readsPerson_92 (by decide) ?_
              refine dk_Vi (As := [.int 0, .int 1]) (rest := []) ⟨hx, hb, hml, hown, hts⟩ (h_X6_takes_0 l g z I228 0 1 (show dkN [(0, 90)] (I228 340 8) from dkN_sub f228_340_8 rfl) hO) (cwV 2 hts gX6_readsPerson_X6_takes rfl rfl rfl (by decide +kernel) ⟨Nat.le_of_ble_eq_true rfl, Nat.le_of_ble_eq_true rfl⟩) (dk_at340 hW) rfl hK hT hW hS rfl hl.1 rfl (Nat.le_of_ble_eq_true rfl) dX6_readsPerson_93 ⟨Nat.zero_le _, Nat.zero_le _⟩ (fun v398 I398 H398 L398 hp398 hW hS => ?_)
              obtain ⟨hF398, hO, hc398⟩ := hp398
              have hF := dkF_call hF hF398 rfl
              have eI398 : I228 = I398 := (dkF_nil hF398).symm
              subst eI398
              obtain ⟨dv398, xr398, -⟩ := hc398
              have xv398 : v398 = 0 := by have h := xr398; exact h
              refine lv_pop hx hb dX6_readsPerson_96 rfl ?_
              refine lv_aload_n hx hb dX6_readsPerson_97 rfl (lv_at hl 4 rfl) ?_
              refine dk_Vi (As := []) (rest := []) ⟨hx, hb, hml, hown, hts⟩ (fx_X6_isWell_7 l g z I228 (show dkN [(0, 90)] (I228 340 8) from dkN_sub (by rw [hF398 340 8 rfl]; exact f228_340_8) rfl) hO) (cwV 0 hts gX6_readsPerson_X6_isWell rfl rfl rfl (by decide +kernel) ⟨Nat.le_of_ble_eq_true rfl, Nat.le_of_ble_eq_true rfl⟩) (dk_at340 hW) rfl hK hT hW hS rfl hl.1 rfl (Nat.le_of_ble_eq_true rfl) dX6_readsPerson_98 ⟨Nat.zero_le _, Nat.zero_le _⟩ (fun v399 I399 H399 L399 hp399 hW hS => ?_)
              obtain ⟨hF399, hO, hc399⟩ := hp399
              have hF := dkF_call hF hF399 rfl
              have eI399 : I228 = I399 := (dkF_nil hF399).symm
              subst eI399
              obtain ⟨dv399, f399_340_8, x399_0, xr399, -⟩ := hc399
              have w400 : I228 340 8 = dkTe (I0 345) (I0 340 6) (dkTe (I0 345) (I0 340 6) (dkTe (I0 345) (I0 340 6) (dkTe (I0 345) (I0 340 6) (I0 340 9)))) := ((hF398 340 8 rfl).trans y388)
              have q401 : (0 : Int) + 0 ≤ (dkTe (I0 345) (I0 340 6) (dkTe (I0 345) (I0 340 6) (dkTe (I0 345) (I0 340 6) (dkTe (I0 345) (I0 340 6) (I0 340 9))))).toInt := by have h := x399_0; rw [w400] at h; exact h
              have xv399 : v399 = 0 := by have h := xr399; exact h
              refine lv_if_eq (tgt := 149) hx hb dX6_readsPerson_101 (by decide) (fun c402 => ?_) (fun c402 => ?_)
              ·
                have i0 : (0 : Int32).toInt = 0 := rfl
                have i1 : (1 : Int32).toInt = 1 := rfl
                have i2 : (2 : Int32).toInt = 2 := rfl
                have i3 : (3 : Int32).toInt = 3 := rfl
                have i9 : (9 : Int32).toInt = 9 := rfl
                have i30 : (30 : Int32).toInt = 30 := rfl
                have i44 : (44 : Int32).toInt = 44 := rfl
                have i59 : (59 : Int32).toInt = 59 := rfl
                have i109 : (109 : Int32).toInt = 109 := rfl
                have i116 : (116 : Int32).toInt = 116 := rfl
                have e403 : dkMb (I0 345) (I0 340 6) (I0 347 0) (I0 340 9) = (1, dkTe (I0 345) (I0 340 6) (dkTe (I0 345) (I0 340 6) (dkTe (I0 345) (I0 340 6) (dkTe (I0 345) (I0 340 6) (I0 340 9))))) := ((dkTh_p (dkK_0 (T := (I0 345)) (n := (I0 340 6)) (a := I0 340 9) (lo := 0) (hi := ((I0 347 0) - (1 : Int32))) q115 (by omega) (by omega))).trans ((dkTh_p (dkK_c (T := (I0 345)) (n := (I0 340 6)) (a := dkTe (I0 345) (I0 340 6) (I0 340 9)) q213)).trans ((dkTh_p (dkK_0 (T := (I0 345)) (n := (I0 340 6)) (a := dkTe (I0 345) (I0 340 6) (dkTe (I0 345) (I0 340 6) (I0 340 9))) (lo := 0) (hi := 9) q218 (by omega) (by omega))).trans ((dkTh_p (dkK_c (T := (I0 345)) (n := (I0 340 6)) (a := dkTe (I0 345) (I0 340 6) (dkTe (I0 345) (I0 340 6) (dkTe (I0 345) (I0 340 6) (I0 340 9)))) q381)).trans (dkTh_q (dkK_1 (T := (I0 345)) (n := (I0 340 6)) (a := dkTe (I0 345) (I0 340 6) (dkTe (I0 345) (I0 340 6) (dkTe (I0 345) (I0 340 6) (dkTe (I0 345) (I0 340 6) (I0 340 9))))) (lo := 0) (hi := 2) q386) (by decide))))))
                exact W.vret hx hb hr (fun t ht hW9 => ⟨⟨I228, rfl, ⟨hF, hO, Or.inr (Or.inl ⟨(show dkN [(1, 2)] (I228 340 7) from dkN_sub (by rw [hF399 340 7 rfl]; exact (by rw [hF398 340 7 rfl]; exact f228_340_7)) rfl), (show dkN [(0, 90)] (I228 340 8) from dkN_sub f399_340_8 rfl), (show dkN [(3, 9)] (I228 347 0) from dkN_sub (by rw [hF399 347 0 rfl]; exact (by rw [hF398 347 0 rfl]; exact (by rw [hF228 347 0 rfl]; exact (by rw [hF129 347 0 rfl]; exact (by rw [hF63 347 0 rfl]; exact (by rw [hF45 347 0 rfl]; exact np1)))))) rfl), (show dkN [(0, 4)] (I228 347 4) from dkN_sub (by rw [hF399 347 4 rfl]; exact (by rw [hF398 347 4 rfl]; exact (by rw [hF228 347 4 rfl]; exact (by rw [hF129 347 4 rfl]; exact (by rw [hF63 347 4 rfl]; exact (by rw [hF45 347 4 rfl]; exact f44)))))) rfl), (by omega), (dkE_k e403 (by decide)), (((show I228 340 7 = 1 from ((hF399 340 7 rfl).trans ((hF398 340 7 rfl).trans y387)))).trans (dkP_1 e403).symm), (((show I228 340 8 = dkTe (I0 345) (I0 340 6) (dkTe (I0 345) (I0 340 6) (dkTe (I0 345) (I0 340 6) (dkTe (I0 345) (I0 340 6) (I0 340 9)))) from ((hF399 340 8 rfl).trans ((hF398 340 8 rfl).trans y388)))).trans (dkP_2 e403).symm), (show I228 347 0 = I0 347 0 from ((hF399 347 0 rfl).trans ((hF398 347 0 rfl).trans ((hF228 347 0 rfl).trans ((hF129 347 0 rfl).trans ((hF63 347 0 rfl).trans ((hF45 347 0 rfl).trans rfl))))))), (show I228 347 4 = I0 347 4 from ((hF399 347 4 rfl).trans ((hF398 347 4 rfl).trans ((hF228 347 4 rfl).trans ((hF129 347 4 rfl).trans ((hF63 347 4 rfl).trans ((hF45 347 4 rfl).trans rfl))))))), (show I228 347 5 = I0 347 5 from ((hF399 347 5 rfl).trans ((hF398 347 5 rfl).trans ((hF228 347 5 rfl).trans ((hF129 347 5 rfl).trans ((hF63 347 5 rfl).trans ((hF45 347 5 rfl).trans rfl))))))), trivial⟩)⟩, dkW_eq ht hW⟩, hS.F ht⟩) hS.2.2 dX6_readsPerson_149
              ·
                exact absurd ((xv399).trans (rfl).symm) c402
            ·
              have q404 : (dkTk (I0 345) (I0 340 6) (dkTe (I0 345) (I0 340 6) (dkTe (I0 345) (I0 340 6) (dkTe (I0 345) (I0 340 6) (dkTe (I0 345) (I0 340 6) (I0 340 9)))))).toInt = (4 : Int) := by first | (rw [← xv393]; exact (congrArg Int32.toInt c394)) | (subst xv393; exact (congrArg Int32.toInt c394))
              have d405 : dkN [(4, 4)] v393 := dkN_eq1 dv393 (dkN_lit (x := 4) (4) rfl) (congrArg Int32.toInt c394) rfl
              have f406 : dkN [(4, 4)] (I228 340 11) := by rw [← ev393]; exact d405
              refine lv_iconst (v := 1) hx hb dX6_readsPerson_87 (by decide) ?_
              refine lv_goto (tgt := 92) hx hb dX6_readsPerson_88 (by decide) ?_
              refine lv_iconst (v := 1) hx hb dX6_readsPerson_92 (by decide) ?_
              refine dk_Vi (As := [.int 1, .int 1]) (rest := []) ⟨hx, hb, hml, hown, hts⟩ (h_X6_takes_0 l g z I228 1 1 (show dkN [(0, 90)] (I228 340 8) from dkN_sub f228_340_8 rfl) hO) (cwV 2 hts gX6_readsPerson_X6_takes rfl rfl rfl (by decide +kernel) ⟨Nat.le_of_ble_eq_true rfl, Nat.le_of_ble_eq_true rfl⟩) (dk_at340 hW) rfl hK hT hW hS rfl hl.1 rfl (Nat.le_of_ble_eq_true rfl) dX6_readsPerson_93 ⟨Nat.zero_le _, Nat.zero_le _⟩ (fun v407 I407 H407 L407 hp407 hW hS => ?_)
              obtain ⟨hF407, hO, hc407⟩ := hp407
              have hF := dkF_call hF hF407 rfl
              have eI407 : I228 = I407 := (dkF_nil hF407).symm
              subst eI407
              obtain ⟨dv407, xr407, -⟩ := hc407
              have xv407 : v407 = 0 := by have h := xr407; exact h
              refine lv_pop hx hb dX6_readsPerson_96 rfl ?_
              refine lv_aload_n hx hb dX6_readsPerson_97 rfl (lv_at hl 4 rfl) ?_
              refine dk_Vi (As := []) (rest := []) ⟨hx, hb, hml, hown, hts⟩ (fx_X6_isWell_7 l g z I228 (show dkN [(0, 90)] (I228 340 8) from dkN_sub (by rw [hF407 340 8 rfl]; exact f228_340_8) rfl) hO) (cwV 0 hts gX6_readsPerson_X6_isWell rfl rfl rfl (by decide +kernel) ⟨Nat.le_of_ble_eq_true rfl, Nat.le_of_ble_eq_true rfl⟩) (dk_at340 hW) rfl hK hT hW hS rfl hl.1 rfl (Nat.le_of_ble_eq_true rfl) dX6_readsPerson_98 ⟨Nat.zero_le _, Nat.zero_le _⟩ (fun v408 I408 H408 L408 hp408 hW hS => ?_)
              obtain ⟨hF408, hO, hc408⟩ := hp408
              have hF := dkF_call hF hF408 rfl
              have eI408 : I228 = I408 := (dkF_nil hF408).symm
              subst eI408
              obtain ⟨dv408, f408_340_8, x408_0, xr408, -⟩ := hc408
              have w409 : I228 340 8 = dkTe (I0 345) (I0 340 6) (dkTe (I0 345) (I0 340 6) (dkTe (I0 345) (I0 340 6) (dkTe (I0 345) (I0 340 6) (I0 340 9)))) := ((hF407 340 8 rfl).trans y388)
              have q410 : (0 : Int) + 0 ≤ (dkTe (I0 345) (I0 340 6) (dkTe (I0 345) (I0 340 6) (dkTe (I0 345) (I0 340 6) (dkTe (I0 345) (I0 340 6) (I0 340 9))))).toInt := by have h := x408_0; rw [w409] at h; exact h
              have xv408 : v408 = 0 := by have h := xr408; exact h
              refine lv_if_eq (tgt := 149) hx hb dX6_readsPerson_101 (by decide) (fun c411 => ?_) (fun c411 => ?_)
              ·
                have i0 : (0 : Int32).toInt = 0 := rfl
                have i1 : (1 : Int32).toInt = 1 := rfl
                have i2 : (2 : Int32).toInt = 2 := rfl
                have i3 : (3 : Int32).toInt = 3 := rfl
                have i9 : (9 : Int32).toInt = 9 := rfl
                have i30 : (30 : Int32).toInt = 30 := rfl
                have i44 : (44 : Int32).toInt = 44 := rfl
                have i59 : (59 : Int32).toInt = 59 := rfl
                have i109 : (109 : Int32).toInt = 109 := rfl
                have i116 : (116 : Int32).toInt = 116 := rfl
                have e412 : dkMb (I0 345) (I0 340 6) (I0 347 0) (I0 340 9) = (1, dkTe (I0 345) (I0 340 6) (dkTe (I0 345) (I0 340 6) (dkTe (I0 345) (I0 340 6) (dkTe (I0 345) (I0 340 6) (I0 340 9))))) := ((dkTh_p (dkK_0 (T := (I0 345)) (n := (I0 340 6)) (a := I0 340 9) (lo := 0) (hi := ((I0 347 0) - (1 : Int32))) q115 (by omega) (by omega))).trans ((dkTh_p (dkK_c (T := (I0 345)) (n := (I0 340 6)) (a := dkTe (I0 345) (I0 340 6) (I0 340 9)) q213)).trans ((dkTh_p (dkK_0 (T := (I0 345)) (n := (I0 340 6)) (a := dkTe (I0 345) (I0 340 6) (dkTe (I0 345) (I0 340 6) (I0 340 9))) (lo := 0) (hi := 9) q218 (by omega) (by omega))).trans ((dkTh_p (dkK_c (T := (I0 345)) (n := (I0 340 6)) (a := dkTe (I0 345) (I0 340 6) (dkTe (I0 345) (I0 340 6) (dkTe (I0 345) (I0 340 6) (I0 340 9)))) q381)).trans (dkTh_q (dkK_1 (T := (I0 345)) (n := (I0 340 6)) (a := dkTe (I0 345) (I0 340 6) (dkTe (I0 345) (I0 340 6) (dkTe (I0 345) (I0 340 6) (dkTe (I0 345) (I0 340 6) (I0 340 9))))) (lo := 0) (hi := 2) q386) (by decide))))))
                exact W.vret hx hb hr (fun t ht hW9 => ⟨⟨I228, rfl, ⟨hF, hO, Or.inr (Or.inl ⟨(show dkN [(1, 2)] (I228 340 7) from dkN_sub (by rw [hF408 340 7 rfl]; exact (by rw [hF407 340 7 rfl]; exact f228_340_7)) rfl), (show dkN [(0, 90)] (I228 340 8) from dkN_sub f408_340_8 rfl), (show dkN [(3, 9)] (I228 347 0) from dkN_sub (by rw [hF408 347 0 rfl]; exact (by rw [hF407 347 0 rfl]; exact (by rw [hF228 347 0 rfl]; exact (by rw [hF129 347 0 rfl]; exact (by rw [hF63 347 0 rfl]; exact (by rw [hF45 347 0 rfl]; exact np1)))))) rfl), (show dkN [(0, 4)] (I228 347 4) from dkN_sub (by rw [hF408 347 4 rfl]; exact (by rw [hF407 347 4 rfl]; exact (by rw [hF228 347 4 rfl]; exact (by rw [hF129 347 4 rfl]; exact (by rw [hF63 347 4 rfl]; exact (by rw [hF45 347 4 rfl]; exact f44)))))) rfl), (by omega), (dkE_k e412 (by decide)), (((show I228 340 7 = 1 from ((hF408 340 7 rfl).trans ((hF407 340 7 rfl).trans y387)))).trans (dkP_1 e412).symm), (((show I228 340 8 = dkTe (I0 345) (I0 340 6) (dkTe (I0 345) (I0 340 6) (dkTe (I0 345) (I0 340 6) (dkTe (I0 345) (I0 340 6) (I0 340 9)))) from ((hF408 340 8 rfl).trans ((hF407 340 8 rfl).trans y388)))).trans (dkP_2 e412).symm), (show I228 347 0 = I0 347 0 from ((hF408 347 0 rfl).trans ((hF407 347 0 rfl).trans ((hF228 347 0 rfl).trans ((hF129 347 0 rfl).trans ((hF63 347 0 rfl).trans ((hF45 347 0 rfl).trans rfl))))))), (show I228 347 4 = I0 347 4 from ((hF408 347 4 rfl).trans ((hF407 347 4 rfl).trans ((hF228 347 4 rfl).trans ((hF129 347 4 rfl).trans ((hF63 347 4 rfl).trans ((hF45 347 4 rfl).trans rfl))))))), (show I228 347 5 = I0 347 5 from ((hF408 347 5 rfl).trans ((hF407 347 5 rfl).trans ((hF228 347 5 rfl).trans ((hF129 347 5 rfl).trans ((hF63 347 5 rfl).trans ((hF45 347 5 rfl).trans rfl))))))), trivial⟩)⟩, dkW_eq ht hW⟩, hS.F ht⟩) hS.2.2 dX6_readsPerson_149
              ·
                exact absurd ((xv408).trans (rfl).symm) c411
        ·
          obtain ⟨dv129, f129_340_11, f129_340_7, f129_340_8, x129_0, x129_1, x129_2, xr129, xh129_0, xh129_1, xh129_2, xh129_3, xh129_4, xh129_5, -⟩ := hc129
          have w413 : I63 340 11 = dkTk (I0 345) (I0 340 6) (dkTe (I0 345) (I0 340 6) (I0 340 9)) := y127
          have q414 : (dkTk (I0 345) (I0 340 6) (dkTe (I0 345) (I0 340 6) (I0 340 9))).toInt = (3 : Int) := by have h := x129_0; rw [w413] at h; exact h
          have w415 : I63 340 8 = I0 340 8 := y121
          have w416 : I63 345 = I0 345 := ((funext fun j => hF63 345 j (dkNin_k rfl dkNin_nil)).trans ((funext fun j => hF45 345 j (dkNin_k rfl dkNin_nil)).trans rfl))
          have w417 : I63 340 6 = I0 340 6 := ((hF63 340 6 rfl).trans ((hF45 340 6 rfl).trans rfl))
          have w418 : I63 340 9 = dkTe (I0 345) (I0 340 6) (dkTe (I0 345) (I0 340 6) (I0 340 9)) := y125
          have q419 : (dkTk (I0 345) (I0 340 6) (dkTe (I0 345) (I0 340 6) (dkTe (I0 345) (I0 340 6) (I0 340 9)))).toInt ≠ (2 : Int) := by have h := x129_2; rw [w416, w417, w418] at h; exact h
          have y420 : I129 340 7 = 1 := by have h := xh129_0; exact h
          have y421 : I129 340 8 = dkTe (I0 345) (I0 340 6) (dkTe (I0 345) (I0 340 6) (I0 340 9)) := by have h := xh129_1; rw [w418] at h; exact h
          have y422 : I129 340 9 = dkTe (I0 345) (I0 340 6) (dkTe (I0 345) (I0 340 6) (dkTe (I0 345) (I0 340 6) (I0 340 9))) := by have h := xh129_2; rw [w416, w417, w418] at h; exact h
          have y423 : I129 340 10 = dkTe (I0 345) (I0 340 6) (dkTe (I0 345) (I0 340 6) (I0 340 9)) := by have h := xh129_3; rw [w418] at h; exact h
          have y424 : I129 340 11 = dkTk (I0 345) (I0 340 6) (dkTe (I0 345) (I0 340 6) (dkTe (I0 345) (I0 340 6) (I0 340 9))) := by have h := xh129_4; rw [w416, w417, w418] at h; exact h
          have y425 : I129 340 12 = dkTv (I0 345) (I0 340 6) (dkTe (I0 345) (I0 340 6) (dkTe (I0 345) (I0 340 6) (I0 340 9))) := by have h := xh129_5; rw [w416, w417, w418] at h; exact h
          have xv129 : v129 = 0 := by have h := xr129; exact h
          refine lv_istore_n (lv' := [(3, .int v129), (2, .int v63), (1, .int v58), (0, .ref (z + 340))]) hx hb dX6_readsPerson_69 rfl hl (by decide) rfl (fun ls hl => ?_)
          refine lv_aload_n hx hb dX6_readsPerson_70 rfl (lv_at hl 3 rfl) ?_
          refine lv_iconst (v := 0) hx hb dX6_readsPerson_71 (by decide) ?_
          refine lv_iconst (v := 2) hx hb dX6_readsPerson_72 (by decide) ?_
          refine dk_Vi (As := [.int 0, .int 2]) (rest := []) ⟨hx, hb, hml, hown, hts⟩ (h_X6_follows_0 l g z I129 0 2 (show dkN [(0, 90)] (I129 340 8) from dkN_sub f129_340_8 rfl) hO) (cwV 2 hts gX6_readsPerson_X6_follows rfl rfl rfl (by decide +kernel) ⟨Nat.le_of_ble_eq_true rfl, Nat.le_of_ble_eq_true rfl⟩) (dk_at340 hW) rfl hK hT hW hS rfl hl.1 rfl (Nat.le_of_ble_eq_true rfl) dX6_readsPerson_73 ⟨Nat.zero_le _, Nat.zero_le _⟩ (fun v426 I426 H426 L426 hp426 hW hS => ?_)
          obtain ⟨hF426, hO, hc426⟩ := hp426
          have hF := dkF_call hF hF426 rfl
          have eI426 : I129 = I426 := (dkF_nil hF426).symm
          subst eI426
          obtain ⟨dv426, xr426, -⟩ := hc426
          have xv426 : v426 = 0 := by have h := xr426; exact h
          refine lv_istore (lv' := [(4, .int v426), (3, .int v129), (2, .int v63), (1, .int v58), (0, .ref (z + 340))]) hx hb dX6_readsPerson_76 hl (by decide) rfl (fun ls hl => ?_)
          refine lv_aload_n hx hb dX6_readsPerson_78 rfl (lv_at hl 4 rfl) ?_
          refine lv_aload_n hx hb dX6_readsPerson_79 rfl (lv_at hl 4 rfl) ?_
          refine dk_get (k := 340) hx hb hts iX6_readsPerson_6 hown hK (dk_at340 hW) rfl 11 (by decide) (hts (.fieldLink RX6 98 "DogKingsModel" "token" "I") (List.mem_of_getElem? (i := 2) rfl)) rfl dX6_readsPerson_80 ?_
          refine lv_topi (fun v427 ev427 => ?_)
          have dv427 : dkN [(-2147483648, 1), (3, 2147483647)] v427 := by rw [ev427]; exact (by rw [hF426 340 11 rfl]; exact f129_340_11)
          have xv427 : v427 = dkTk (I0 345) (I0 340 6) (dkTe (I0 345) (I0 340 6) (dkTe (I0 345) (I0 340 6) (I0 340 9))) := ev427.trans ((hF426 340 11 rfl).trans y424)
          refine lv_iconst (v := 4) hx hb dX6_readsPerson_83 (by decide) ?_
          refine lv_icmp_ne (tgt := 91) hx hb dX6_readsPerson_84 (by decide) (fun c428 => ?_) (fun c428 => ?_)
          ·
            have q429 : (dkTk (I0 345) (I0 340 6) (dkTe (I0 345) (I0 340 6) (dkTe (I0 345) (I0 340 6) (I0 340 9)))).toInt ≠ (4 : Int) := by first | (rw [← xv427]; exact (dk_ne c428)) | (subst xv427; exact (dk_ne c428))
            have d430 : dkN [(-2147483648, 1), (3, 3), (5, 2147483647)] v427 := dkN_ne1 (4) dv427 (dkN_lit (x := 4) (4) rfl) (dk_ne c428) rfl
            have f431 : dkN [(-2147483648, 1), (3, 3), (5, 2147483647)] (I129 340 11) := by rw [← ev427]; exact d430
            refine lv_iconst (v := 0) hx hb dX6_readsPerson_91 (by decide) ?_
            refine lv_iconst (v := 1) hx hb dX6_readsPerson_92 (by decide) ?_
            refine dk_Vi (As := [.int 0, .int 1]) (rest := []) ⟨hx, hb, hml, hown, hts⟩ (h_X6_takes_0 l g z I129 0 1 (show dkN [(0, 90)] (I129 340 8) from dkN_sub (by rw [hF426 340 8 rfl]; exact f129_340_8) rfl) hO) (cwV 2 hts gX6_readsPerson_X6_takes rfl rfl rfl (by decide +kernel) ⟨Nat.le_of_ble_eq_true rfl, Nat.le_of_ble_eq_true rfl⟩) (dk_at340 hW) rfl hK hT hW hS rfl hl.1 rfl (Nat.le_of_ble_eq_true rfl) dX6_readsPerson_93 ⟨Nat.zero_le _, Nat.zero_le _⟩ (fun v432 I432 H432 L432 hp432 hW hS => ?_)
            obtain ⟨hF432, hO, hc432⟩ := hp432
            have hF := dkF_call hF hF432 rfl
            have eI432 : I129 = I432 := (dkF_nil hF432).symm
            subst eI432
            obtain ⟨dv432, xr432, -⟩ := hc432
            have xv432 : v432 = 0 := by have h := xr432; exact h
            refine lv_pop hx hb dX6_readsPerson_96 rfl ?_
            refine lv_aload_n hx hb dX6_readsPerson_97 rfl (lv_at hl 4 rfl) ?_
            refine dk_Vi (As := []) (rest := []) ⟨hx, hb, hml, hown, hts⟩ (fx_X6_isWell_7 l g z I129 (show dkN [(0, 90)] (I129 340 8) from dkN_sub (by rw [hF432 340 8 rfl]; exact (by rw [hF426 340 8 rfl]; exact f129_340_8)) rfl) hO) (cwV 0 hts gX6_readsPerson_X6_isWell rfl rfl rfl (by decide +kernel) ⟨Nat.le_of_ble_eq_true rfl, Nat.le_of_ble_eq_true rfl⟩) (dk_at340 hW) rfl hK hT hW hS rfl hl.1 rfl (Nat.le_of_ble_eq_true rfl) dX6_readsPerson_98 ⟨Nat.zero_le _, Nat.zero_le _⟩ (fun v433 I433 H433 L433 hp433 hW hS => ?_)
            obtain ⟨hF433, hO, hc433⟩ := hp433
            have hF := dkF_call hF hF433 rfl
            have eI433 : I129 = I433 := (dkF_nil hF433).symm
            subst eI433
            obtain ⟨dv433, f433_340_8, x433_0, xr433, -⟩ := hc433
            have w434 : I129 340 8 = dkTe (I0 345) (I0 340 6) (dkTe (I0 345) (I0 340 6) (I0 340 9)) := ((hF432 340 8 rfl).trans ((hF426 340 8 rfl).trans y421))
            have q435 : (0 : Int) + 0 ≤ (dkTe (I0 345) (I0 340 6) (dkTe (I0 345) (I0 340 6) (I0 340 9))).toInt := by have h := x433_0; rw [w434] at h; exact h
            have xv433 : v433 = 0 := by have h := xr433; exact h
            refine lv_if_eq (tgt := 149) hx hb dX6_readsPerson_101 (by decide) (fun c436 => ?_) (fun c436 => ?_)
            ·
              have i0 : (0 : Int32).toInt = 0 := rfl
              have i1 : (1 : Int32).toInt = 1 := rfl
              have i2 : (2 : Int32).toInt = 2 := rfl
              have i3 : (3 : Int32).toInt = 3 := rfl
              have i9 : (9 : Int32).toInt = 9 := rfl
              have i30 : (30 : Int32).toInt = 30 := rfl
              have i44 : (44 : Int32).toInt = 44 := rfl
              have i59 : (59 : Int32).toInt = 59 := rfl
              have i109 : (109 : Int32).toInt = 109 := rfl
              have i116 : (116 : Int32).toInt = 116 := rfl
              have e437 : dkMb (I0 345) (I0 340 6) (I0 347 0) (I0 340 9) = (1, dkTe (I0 345) (I0 340 6) (dkTe (I0 345) (I0 340 6) (I0 340 9))) := ((dkTh_p (dkK_0 (T := (I0 345)) (n := (I0 340 6)) (a := I0 340 9) (lo := 0) (hi := ((I0 347 0) - (1 : Int32))) q115 (by omega) (by omega))).trans ((dkTh_p (dkK_c (T := (I0 345)) (n := (I0 340 6)) (a := dkTe (I0 345) (I0 340 6) (I0 340 9)) q414)).trans (dkTh_q (dkK_1 (T := (I0 345)) (n := (I0 340 6)) (a := dkTe (I0 345) (I0 340 6) (dkTe (I0 345) (I0 340 6) (I0 340 9))) (lo := 0) (hi := 9) q419) (by decide))))
              exact W.vret hx hb hr (fun t ht hW9 => ⟨⟨I129, rfl, ⟨hF, hO, Or.inr (Or.inl ⟨(show dkN [(1, 2)] (I129 340 7) from dkN_sub (by rw [hF433 340 7 rfl]; exact (by rw [hF432 340 7 rfl]; exact (by rw [hF426 340 7 rfl]; exact f129_340_7))) rfl), (show dkN [(0, 90)] (I129 340 8) from dkN_sub f433_340_8 rfl), (show dkN [(3, 9)] (I129 347 0) from dkN_sub (by rw [hF433 347 0 rfl]; exact (by rw [hF432 347 0 rfl]; exact (by rw [hF426 347 0 rfl]; exact (by rw [hF129 347 0 rfl]; exact (by rw [hF63 347 0 rfl]; exact (by rw [hF45 347 0 rfl]; exact np1)))))) rfl), (show dkN [(0, 4)] (I129 347 4) from dkN_sub (by rw [hF433 347 4 rfl]; exact (by rw [hF432 347 4 rfl]; exact (by rw [hF426 347 4 rfl]; exact (by rw [hF129 347 4 rfl]; exact (by rw [hF63 347 4 rfl]; exact (by rw [hF45 347 4 rfl]; exact f44)))))) rfl), (by omega), (dkE_k e437 (by decide)), (((show I129 340 7 = 1 from ((hF433 340 7 rfl).trans ((hF432 340 7 rfl).trans ((hF426 340 7 rfl).trans y420))))).trans (dkP_1 e437).symm), (((show I129 340 8 = dkTe (I0 345) (I0 340 6) (dkTe (I0 345) (I0 340 6) (I0 340 9)) from ((hF433 340 8 rfl).trans ((hF432 340 8 rfl).trans ((hF426 340 8 rfl).trans y421))))).trans (dkP_2 e437).symm), (show I129 347 0 = I0 347 0 from ((hF433 347 0 rfl).trans ((hF432 347 0 rfl).trans ((hF426 347 0 rfl).trans ((hF129 347 0 rfl).trans ((hF63 347 0 rfl).trans ((hF45 347 0 rfl).trans rfl))))))), (show I129 347 4 = I0 347 4 from ((hF433 347 4 rfl).trans ((hF432 347 4 rfl).trans ((hF426 347 4 rfl).trans ((hF129 347 4 rfl).trans ((hF63 347 4 rfl).trans ((hF45 347 4 rfl).trans rfl))))))), (show I129 347 5 = I0 347 5 from ((hF433 347 5 rfl).trans ((hF432 347 5 rfl).trans ((hF426 347 5 rfl).trans ((hF129 347 5 rfl).trans ((hF63 347 5 rfl).trans ((hF45 347 5 rfl).trans rfl))))))), trivial⟩)⟩, dkW_eq ht hW⟩, hS.F ht⟩) hS.2.2 dX6_readsPerson_149
            ·
              exact absurd ((xv433).trans (rfl).symm) c436
          ·
            have q438 : (dkTk (I0 345) (I0 340 6) (dkTe (I0 345) (I0 340 6) (dkTe (I0 345) (I0 340 6) (I0 340 9)))).toInt = (4 : Int) := by first | (rw [← xv427]; exact (congrArg Int32.toInt c428)) | (subst xv427; exact (congrArg Int32.toInt c428))
            have d439 : dkN [(4, 4)] v427 := dkN_eq1 dv427 (dkN_lit (x := 4) (4) rfl) (congrArg Int32.toInt c428) rfl
            have f440 : dkN [(4, 4)] (I129 340 11) := by rw [← ev427]; exact d439
            refine lv_iconst (v := 1) hx hb dX6_readsPerson_87 (by decide) ?_
            refine lv_goto (tgt := 92) hx hb dX6_readsPerson_88 (by decide) ?_
            refine lv_iconst (v := 1) hx hb dX6_readsPerson_92 (by decide) ?_
            refine dk_Vi (As := [.int 1, .int 1]) (rest := []) ⟨hx, hb, hml, hown, hts⟩ (h_X6_takes_0 l g z I129 1 1 (show dkN [(0, 90)] (I129 340 8) from dkN_sub (by rw [hF426 340 8 rfl]; exact f129_340_8) rfl) hO) (cwV 2 hts gX6_readsPerson_X6_takes rfl rfl rfl (by decide +kernel) ⟨Nat.le_of_ble_eq_true rfl, Nat.le_of_ble_eq_true rfl⟩) (dk_at340 hW) rfl hK hT hW hS rfl hl.1 rfl (Nat.le_of_ble_eq_true rfl) dX6_readsPerson_93 ⟨Nat.zero_le _, Nat.zero_le _⟩ (fun v441 I441 H441 L441 hp441 hW hS => ?_)
            obtain ⟨hF441, hO, hc441⟩ := hp441
            have hF := dkF_call hF hF441 rfl
            have eI441 : I129 = I441 := (dkF_nil hF441).symm
            subst eI441
            obtain ⟨dv441, xr441, -⟩ := hc441
            have xv441 : v441 = 0 := by have h := xr441; exact h
            refine lv_pop hx hb dX6_readsPerson_96 rfl ?_
            refine lv_aload_n hx hb dX6_readsPerson_97 rfl (lv_at hl 4 rfl) ?_
            refine dk_Vi (As := []) (rest := []) ⟨hx, hb, hml, hown, hts⟩ (fx_X6_isWell_7 l g z I129 (show dkN [(0, 90)] (I129 340 8) from dkN_sub (by rw [hF441 340 8 rfl]; exact (by rw [hF426 340 8 rfl]; exact f129_340_8)) rfl) hO) (cwV 0 hts gX6_readsPerson_X6_isWell rfl rfl rfl (by decide +kernel) ⟨Nat.le_of_ble_eq_true rfl, Nat.le_of_ble_eq_true rfl⟩) (dk_at340 hW) rfl hK hT hW hS rfl hl.1 rfl (Nat.le_of_ble_eq_true rfl) dX6_readsPerson_98 ⟨Nat.zero_le _, Nat.zero_le _⟩ (fun v442 I442 H442 L442 hp442 hW hS => ?_)
            obtain ⟨hF442, hO, hc442⟩ := hp442
            have hF := dkF_call hF hF442 rfl
            have eI442 : I129 = I442 := (dkF_nil hF442).symm
            subst eI442
            obtain ⟨dv442, f442_340_8, x442_0, xr442, -⟩ := hc442
            have w443 : I129 340 8 = dkTe (I0 345) (I0 340 6) (dkTe (I0 345) (I0 340 6) (I0 340 9)) := ((hF441 340 8 rfl).trans ((hF426 340 8 rfl).trans y421))
            have q444 : (0 : Int) + 0 ≤ (dkTe (I0 345) (I0 340 6) (dkTe (I0 345) (I0 340 6) (I0 340 9))).toInt := by have h := x442_0; rw [w443] at h; exact h
            have xv442 : v442 = 0 := by have h := xr442; exact h
            refine lv_if_eq (tgt := 149) hx hb dX6_readsPerson_101 (by decide) (fun c445 => ?_) (fun c445 => ?_)
            ·
              have i0 : (0 : Int32).toInt = 0 := rfl
              have i1 : (1 : Int32).toInt = 1 := rfl
              have i2 : (2 : Int32).toInt = 2 := rfl
              have i3 : (3 : Int32).toInt = 3 := rfl
              have i9 : (9 : Int32).toInt = 9 := rfl
              have i30 : (30 : Int32).toInt = 30 := rfl
              have i44 : (44 : Int32).toInt = 44 := rfl
              have i59 : (59 : Int32).toInt = 59 := rfl
              have i109 : (109 : Int32).toInt = 109 := rfl
              have i116 : (116 : Int32).toInt = 116 := rfl
              have e446 : dkMb (I0 345) (I0 340 6) (I0 347 0) (I0 340 9) = (1, dkTe (I0 345) (I0 340 6) (dkTe (I0 345) (I0 340 6) (I0 340 9))) := ((dkTh_p (dkK_0 (T := (I0 345)) (n := (I0 340 6)) (a := I0 340 9) (lo := 0) (hi := ((I0 347 0) - (1 : Int32))) q115 (by omega) (by omega))).trans ((dkTh_p (dkK_c (T := (I0 345)) (n := (I0 340 6)) (a := dkTe (I0 345) (I0 340 6) (I0 340 9)) q414)).trans (dkTh_q (dkK_1 (T := (I0 345)) (n := (I0 340 6)) (a := dkTe (I0 345) (I0 340 6) (dkTe (I0 345) (I0 340 6) (I0 340 9))) (lo := 0) (hi := 9) q419) (by decide))))
              exact W.vret hx hb hr (fun t ht hW9 => ⟨⟨I129, rfl, ⟨hF, hO, Or.inr (Or.inl ⟨(show dkN [(1, 2)] (I129 340 7) from dkN_sub (by rw [hF442 340 7 rfl]; exact (by rw [hF441 340 7 rfl]; exact (by rw [hF426 340 7 rfl]; exact f129_340_7))) rfl), (show dkN [(0, 90)] (I129 340 8) from dkN_sub f442_340_8 rfl), (show dkN [(3, 9)] (I129 347 0) from dkN_sub (by rw [hF442 347 0 rfl]; exact (by rw [hF441 347 0 rfl]; exact (by rw [hF426 347 0 rfl]; exact (by rw [hF129 347 0 rfl]; exact (by rw [hF63 347 0 rfl]; exact (by rw [hF45 347 0 rfl]; exact np1)))))) rfl), (show dkN [(0, 4)] (I129 347 4) from dkN_sub (by rw [hF442 347 4 rfl]; exact (by rw [hF441 347 4 rfl]; exact (by rw [hF426 347 4 rfl]; exact (by rw [hF129 347 4 rfl]; exact (by rw [hF63 347 4 rfl]; exact (by rw [hF45 347 4 rfl]; exact f44)))))) rfl), (by omega), (dkE_k e446 (by decide)), (((show I129 340 7 = 1 from ((hF442 340 7 rfl).trans ((hF441 340 7 rfl).trans ((hF426 340 7 rfl).trans y420))))).trans (dkP_1 e446).symm), (((show I129 340 8 = dkTe (I0 345) (I0 340 6) (dkTe (I0 345) (I0 340 6) (I0 340 9)) from ((hF442 340 8 rfl).trans ((hF441 340 8 rfl).trans ((hF426 340 8 rfl).trans y421))))).trans (dkP_2 e446).symm), (show I129 347 0 = I0 347 0 from ((hF442 347 0 rfl).trans ((hF441 347 0 rfl).trans ((hF426 347 0 rfl).trans ((hF129 347 0 rfl).trans ((hF63 347 0 rfl).trans ((hF45 347 0 rfl).trans rfl))))))), (show I129 347 4 = I0 347 4 from ((hF442 347 4 rfl).trans ((hF441 347 4 rfl).trans ((hF426 347 4 rfl).trans ((hF129 347 4 rfl).trans ((hF63 347 4 rfl).trans ((hF45 347 4 rfl).trans rfl))))))), (show I129 347 5 = I0 347 5 from ((hF442 347 5 rfl).trans ((hF441 347 5 rfl).trans ((hF426 347 5 rfl).trans ((hF129 347 5 rfl).trans ((hF63 347 5 rfl).trans ((hF45 347 5 rfl).trans rfl))))))), trivial⟩)⟩, dkW_eq ht hW⟩, hS.F ht⟩) hS.2.2 dX6_readsPerson_149
            ·
              exact absurd ((xv442).trans (rfl).symm) c445
      ·
        obtain ⟨dv63, f63_340_11, f63_340_7, f63_340_8, x63_0, x63_1, xr63, xh63_0, xh63_1, xh63_2, xh63_3, xh63_4, xh63_5, -⟩ := hc63
        have w447 : I45 340 8 = I0 340 8 := y48
        have w448 : I45 340 11 = dkTk (I0 345) (I0 340 6) (I0 340 9) := y51
        have q449 : (dkTk (I0 345) (I0 340 6) (I0 340 9)).toInt ≠ (2 : Int) := by have h := x63_1; rw [w448] at h; exact h
        have y450 : I63 340 7 = 1 := by have h := xh63_0; exact h
        have w451 : I45 340 10 = I0 340 9 := y50
        have y452 : I63 340 8 = I0 340 9 := by have h := xh63_1; rw [w451] at h; exact h
        have w453 : I45 340 9 = dkTe (I0 345) (I0 340 6) (I0 340 9) := y49
        have y454 : I63 340 9 = dkTe (I0 345) (I0 340 6) (I0 340 9) := by have h := xh63_2; rw [w453] at h; exact h
        have y455 : I63 340 10 = I0 340 9 := by have h := xh63_3; rw [w451] at h; exact h
        have y456 : I63 340 11 = dkTk (I0 345) (I0 340 6) (I0 340 9) := by have h := xh63_4; rw [w448] at h; exact h
        have w457 : I45 340 12 = dkTv (I0 345) (I0 340 6) (I0 340 9) := y52
        have y458 : I63 340 12 = dkTv (I0 345) (I0 340 6) (I0 340 9) := by have h := xh63_5; rw [w457] at h; exact h
        have xv63 : v63 = 0 := by have h := xr63; exact h
        refine lv_istore_n (lv' := [(2, .int v63), (1, .int v58), (0, .ref (z + 340))]) hx hb dX6_readsPerson_61 rfl hl (by decide) rfl (fun ls hl => ?_)
        refine lv_aload_n hx hb dX6_readsPerson_62 rfl (lv_at hl 2 rfl) ?_
        refine lv_iconst (v := 0) hx hb dX6_readsPerson_63 (by decide) ?_
        refine lv_bipush (v := 9) hx hb dX6_readsPerson_64 (by decide) ?_
        refine dk_Vi (As := [.int 0, .int 9]) (rest := []) ⟨hx, hb, hml, hown, hts⟩ (h_X6_follows_0 l g z I63 0 9 (show dkN [(0, 90)] (I63 340 8) from dkN_sub f63_340_8 rfl) hO) (cwV 2 hts gX6_readsPerson_X6_follows rfl rfl rfl (by decide +kernel) ⟨Nat.le_of_ble_eq_true rfl, Nat.le_of_ble_eq_true rfl⟩) (dk_at340 hW) rfl hK hT hW hS rfl hl.1 rfl (Nat.le_of_ble_eq_true rfl) dX6_readsPerson_66 ⟨Nat.zero_le _, Nat.zero_le _⟩ (fun v459 I459 H459 L459 hp459 hW hS => ?_)
        obtain ⟨hF459, hO, hc459⟩ := hp459
        have hF := dkF_call hF hF459 rfl
        have eI459 : I63 = I459 := (dkF_nil hF459).symm
        subst eI459
        obtain ⟨dv459, xr459, -⟩ := hc459
        have xv459 : v459 = 0 := by have h := xr459; exact h
        refine lv_istore_n (lv' := [(3, .int v459), (2, .int v63), (1, .int v58), (0, .ref (z + 340))]) hx hb dX6_readsPerson_69 rfl hl (by decide) rfl (fun ls hl => ?_)
        refine lv_aload_n hx hb dX6_readsPerson_70 rfl (lv_at hl 3 rfl) ?_
        refine lv_iconst (v := 0) hx hb dX6_readsPerson_71 (by decide) ?_
        refine lv_iconst (v := 2) hx hb dX6_readsPerson_72 (by decide) ?_
        refine dk_Vi (As := [.int 0, .int 2]) (rest := []) ⟨hx, hb, hml, hown, hts⟩ (h_X6_follows_0 l g z I63 0 2 (show dkN [(0, 90)] (I63 340 8) from dkN_sub (by rw [hF459 340 8 rfl]; exact f63_340_8) rfl) hO) (cwV 2 hts gX6_readsPerson_X6_follows rfl rfl rfl (by decide +kernel) ⟨Nat.le_of_ble_eq_true rfl, Nat.le_of_ble_eq_true rfl⟩) (dk_at340 hW) rfl hK hT hW hS rfl hl.1 rfl (Nat.le_of_ble_eq_true rfl) dX6_readsPerson_73 ⟨Nat.zero_le _, Nat.zero_le _⟩ (fun v460 I460 H460 L460 hp460 hW hS => ?_)
        obtain ⟨hF460, hO, hc460⟩ := hp460
        have hF := dkF_call hF hF460 rfl
        have eI460 : I63 = I460 := (dkF_nil hF460).symm
        subst eI460
        obtain ⟨dv460, xr460, -⟩ := hc460
        have xv460 : v460 = 0 := by have h := xr460; exact h
        refine lv_istore (lv' := [(4, .int v460), (3, .int v459), (2, .int v63), (1, .int v58), (0, .ref (z + 340))]) hx hb dX6_readsPerson_76 hl (by decide) rfl (fun ls hl => ?_)
        refine lv_aload_n hx hb dX6_readsPerson_78 rfl (lv_at hl 4 rfl) ?_
        refine lv_aload_n hx hb dX6_readsPerson_79 rfl (lv_at hl 4 rfl) ?_
        refine dk_get (k := 340) hx hb hts iX6_readsPerson_6 hown hK (dk_at340 hW) rfl 11 (by decide) (hts (.fieldLink RX6 98 "DogKingsModel" "token" "I") (List.mem_of_getElem? (i := 2) rfl)) rfl dX6_readsPerson_80 ?_
        refine lv_topi (fun v461 ev461 => ?_)
        have dv461 : dkN [(-2147483648, 1), (3, 2147483647)] v461 := by rw [ev461]; exact (by rw [hF460 340 11 rfl]; exact (by rw [hF459 340 11 rfl]; exact f63_340_11))
        have xv461 : v461 = dkTk (I0 345) (I0 340 6) (I0 340 9) := ev461.trans ((hF460 340 11 rfl).trans ((hF459 340 11 rfl).trans y456))
        refine lv_iconst (v := 4) hx hb dX6_readsPerson_83 (by decide) ?_
        refine lv_icmp_ne (tgt := 91) hx hb dX6_readsPerson_84 (by decide) (fun c462 => ?_) (fun c462 => ?_)
        ·
          have q463 : (dkTk (I0 345) (I0 340 6) (I0 340 9)).toInt ≠ (4 : Int) := by first | (rw [← xv461]; exact (dk_ne c462)) | (subst xv461; exact (dk_ne c462))
          have d464 : dkN [(-2147483648, 1), (3, 3), (5, 2147483647)] v461 := dkN_ne1 (4) dv461 (dkN_lit (x := 4) (4) rfl) (dk_ne c462) rfl
          have f465 : dkN [(-2147483648, 1), (3, 3), (5, 2147483647)] (I63 340 11) := by rw [← ev461]; exact d464
          refine lv_iconst (v := 0) hx hb dX6_readsPerson_91 (by decide) ?_
          refine lv_iconst (v := 1) hx hb dX6_readsPerson_92 (by decide) ?_
          refine dk_Vi (As := [.int 0, .int 1]) (rest := []) ⟨hx, hb, hml, hown, hts⟩ (h_X6_takes_0 l g z I63 0 1 (show dkN [(0, 90)] (I63 340 8) from dkN_sub (by rw [hF460 340 8 rfl]; exact (by rw [hF459 340 8 rfl]; exact f63_340_8)) rfl) hO) (cwV 2 hts gX6_readsPerson_X6_takes rfl rfl rfl (by decide +kernel) ⟨Nat.le_of_ble_eq_true rfl, Nat.le_of_ble_eq_true rfl⟩) (dk_at340 hW) rfl hK hT hW hS rfl hl.1 rfl (Nat.le_of_ble_eq_true rfl) dX6_readsPerson_93 ⟨Nat.zero_le _, Nat.zero_le _⟩ (fun v466 I466 H466 L466 hp466 hW hS => ?_)
          obtain ⟨hF466, hO, hc466⟩ := hp466
          have hF := dkF_call hF hF466 rfl
          have eI466 : I63 = I466 := (dkF_nil hF466).symm
          subst eI466
          obtain ⟨dv466, xr466, -⟩ := hc466
          have xv466 : v466 = 0 := by have h := xr466; exact h
          refine lv_pop hx hb dX6_readsPerson_96 rfl ?_
          refine lv_aload_n hx hb dX6_readsPerson_97 rfl (lv_at hl 4 rfl) ?_
          refine dk_Vi (As := []) (rest := []) ⟨hx, hb, hml, hown, hts⟩ (fx_X6_isWell_7 l g z I63 (show dkN [(0, 90)] (I63 340 8) from dkN_sub (by rw [hF466 340 8 rfl]; exact (by rw [hF460 340 8 rfl]; exact (by rw [hF459 340 8 rfl]; exact f63_340_8))) rfl) hO) (cwV 0 hts gX6_readsPerson_X6_isWell rfl rfl rfl (by decide +kernel) ⟨Nat.le_of_ble_eq_true rfl, Nat.le_of_ble_eq_true rfl⟩) (dk_at340 hW) rfl hK hT hW hS rfl hl.1 rfl (Nat.le_of_ble_eq_true rfl) dX6_readsPerson_98 ⟨Nat.zero_le _, Nat.zero_le _⟩ (fun v467 I467 H467 L467 hp467 hW hS => ?_)
          obtain ⟨hF467, hO, hc467⟩ := hp467
          have hF := dkF_call hF hF467 rfl
          have eI467 : I63 = I467 := (dkF_nil hF467).symm
          subst eI467
          obtain ⟨dv467, f467_340_8, x467_0, xr467, -⟩ := hc467
          have w468 : I63 340 8 = I0 340 9 := ((hF466 340 8 rfl).trans ((hF460 340 8 rfl).trans ((hF459 340 8 rfl).trans y452)))
          have q469 : (0 : Int) + 0 ≤ (I0 340 9).toInt := by have h := x467_0; rw [w468] at h; exact h
          have xv467 : v467 = 0 := by have h := xr467; exact h
          refine lv_if_eq (tgt := 149) hx hb dX6_readsPerson_101 (by decide) (fun c470 => ?_) (fun c470 => ?_)
          ·
            have i0 : (0 : Int32).toInt = 0 := rfl
            have i1 : (1 : Int32).toInt = 1 := rfl
            have i2 : (2 : Int32).toInt = 2 := rfl
            have i3 : (3 : Int32).toInt = 3 := rfl
            have i9 : (9 : Int32).toInt = 9 := rfl
            have i30 : (30 : Int32).toInt = 30 := rfl
            have i44 : (44 : Int32).toInt = 44 := rfl
            have i59 : (59 : Int32).toInt = 59 := rfl
            have i109 : (109 : Int32).toInt = 109 := rfl
            have i116 : (116 : Int32).toInt = 116 := rfl
            have e471 : dkMb (I0 345) (I0 340 6) (I0 347 0) (I0 340 9) = (1, I0 340 9) := (dkTh_q (dkK_1 (T := (I0 345)) (n := (I0 340 6)) (a := I0 340 9) (lo := 0) (hi := ((I0 347 0) - (1 : Int32))) q449) (by decide))
            exact W.vret hx hb hr (fun t ht hW9 => ⟨⟨I63, rfl, ⟨hF, hO, Or.inr (Or.inl ⟨(show dkN [(1, 2)] (I63 340 7) from dkN_sub (by rw [hF467 340 7 rfl]; exact (by rw [hF466 340 7 rfl]; exact (by rw [hF460 340 7 rfl]; exact (by rw [hF459 340 7 rfl]; exact f63_340_7)))) rfl), (show dkN [(0, 90)] (I63 340 8) from dkN_sub f467_340_8 rfl), (show dkN [(3, 9)] (I63 347 0) from dkN_sub (by rw [hF467 347 0 rfl]; exact (by rw [hF466 347 0 rfl]; exact (by rw [hF460 347 0 rfl]; exact (by rw [hF459 347 0 rfl]; exact (by rw [hF63 347 0 rfl]; exact (by rw [hF45 347 0 rfl]; exact np1)))))) rfl), (show dkN [(0, 4)] (I63 347 4) from dkN_sub (by rw [hF467 347 4 rfl]; exact (by rw [hF466 347 4 rfl]; exact (by rw [hF460 347 4 rfl]; exact (by rw [hF459 347 4 rfl]; exact (by rw [hF63 347 4 rfl]; exact (by rw [hF45 347 4 rfl]; exact f44)))))) rfl), (by omega), (dkE_k e471 (by decide)), (((show I63 340 7 = 1 from ((hF467 340 7 rfl).trans ((hF466 340 7 rfl).trans ((hF460 340 7 rfl).trans ((hF459 340 7 rfl).trans y450)))))).trans (dkP_1 e471).symm), (((show I63 340 8 = I0 340 9 from ((hF467 340 8 rfl).trans ((hF466 340 8 rfl).trans ((hF460 340 8 rfl).trans ((hF459 340 8 rfl).trans y452)))))).trans (dkP_2 e471).symm), (show I63 347 0 = I0 347 0 from ((hF467 347 0 rfl).trans ((hF466 347 0 rfl).trans ((hF460 347 0 rfl).trans ((hF459 347 0 rfl).trans ((hF63 347 0 rfl).trans ((hF45 347 0 rfl).trans rfl))))))), (show I63 347 4 = I0 347 4 from ((hF467 347 4 rfl).trans ((hF466 347 4 rfl).trans ((hF460 347 4 rfl).trans ((hF459 347 4 rfl).trans ((hF63 347 4 rfl).trans ((hF45 347 4 rfl).trans rfl))))))), (show I63 347 5 = I0 347 5 from ((hF467 347 5 rfl).trans ((hF466 347 5 rfl).trans ((hF460 347 5 rfl).trans ((hF459 347 5 rfl).trans ((hF63 347 5 rfl).trans ((hF45 347 5 rfl).trans rfl))))))), trivial⟩)⟩, dkW_eq ht hW⟩, hS.F ht⟩) hS.2.2 dX6_readsPerson_149
          ·
            exact absurd ((xv467).trans (rfl).symm) c470
        ·
          have q472 : (dkTk (I0 345) (I0 340 6) (I0 340 9)).toInt = (4 : Int) := by first | (rw [← xv461]; exact (congrArg Int32.toInt c462)) | (subst xv461; exact (congrArg Int32.toInt c462))
          have d473 : dkN [(4, 4)] v461 := dkN_eq1 dv461 (dkN_lit (x := 4) (4) rfl) (congrArg Int32.toInt c462) rfl
          have f474 : dkN [(4, 4)] (I63 340 11) := by rw [← ev461]; exact d473
          refine lv_iconst (v := 1) hx hb dX6_readsPerson_87 (by decide) ?_
          refine lv_goto (tgt := 92) hx hb dX6_readsPerson_88 (by decide) ?_
          refine lv_iconst (v := 1) hx hb dX6_readsPerson_92 (by decide) ?_
          refine dk_Vi (As := [.int 1, .int 1]) (rest := []) ⟨hx, hb, hml, hown, hts⟩ (h_X6_takes_0 l g z I63 1 1 (show dkN [(0, 90)] (I63 340 8) from dkN_sub (by rw [hF460 340 8 rfl]; exact (by rw [hF459 340 8 rfl]; exact f63_340_8)) rfl) hO) (cwV 2 hts gX6_readsPerson_X6_takes rfl rfl rfl (by decide +kernel) ⟨Nat.le_of_ble_eq_true rfl, Nat.le_of_ble_eq_true rfl⟩) (dk_at340 hW) rfl hK hT hW hS rfl hl.1 rfl (Nat.le_of_ble_eq_true rfl) dX6_readsPerson_93 ⟨Nat.zero_le _, Nat.zero_le _⟩ (fun v475 I475 H475 L475 hp475 hW hS => ?_)
          obtain ⟨hF475, hO, hc475⟩ := hp475
          have hF := dkF_call hF hF475 rfl
          have eI475 : I63 = I475 := (dkF_nil hF475).symm
          subst eI475
          obtain ⟨dv475, xr475, -⟩ := hc475
          have xv475 : v475 = 0 := by have h := xr475; exact h
          refine lv_pop hx hb dX6_readsPerson_96 rfl ?_
          refine lv_aload_n hx hb dX6_readsPerson_97 rfl (lv_at hl 4 rfl) ?_
          refine dk_Vi (As := []) (rest := []) ⟨hx, hb, hml, hown, hts⟩ (fx_X6_isWell_7 l g z I63 (show dkN [(0, 90)] (I63 340 8) from dkN_sub (by rw [hF475 340 8 rfl]; exact (by rw [hF460 340 8 rfl]; exact (by rw [hF459 340 8 rfl]; exact f63_340_8))) rfl) hO) (cwV 0 hts gX6_readsPerson_X6_isWell rfl rfl rfl (by decide +kernel) ⟨Nat.le_of_ble_eq_true rfl, Nat.le_of_ble_eq_true rfl⟩) (dk_at340 hW) rfl hK hT hW hS rfl hl.1 rfl (Nat.le_of_ble_eq_true rfl) dX6_readsPerson_98 ⟨Nat.zero_le _, Nat.zero_le _⟩ (fun v476 I476 H476 L476 hp476 hW hS => ?_)
          obtain ⟨hF476, hO, hc476⟩ := hp476
          have hF := dkF_call hF hF476 rfl
          have eI476 : I63 = I476 := (dkF_nil hF476).symm
          subst eI476
          obtain ⟨dv476, f476_340_8, x476_0, xr476, -⟩ := hc476
          have w477 : I63 340 8 = I0 340 9 := ((hF475 340 8 rfl).trans ((hF460 340 8 rfl).trans ((hF459 340 8 rfl).trans y452)))
          have q478 : (0 : Int) + 0 ≤ (I0 340 9).toInt := by have h := x476_0; rw [w477] at h; exact h
          have xv476 : v476 = 0 := by have h := xr476; exact h
          refine lv_if_eq (tgt := 149) hx hb dX6_readsPerson_101 (by decide) (fun c479 => ?_) (fun c479 => ?_)
          ·
            have i0 : (0 : Int32).toInt = 0 := rfl
            have i1 : (1 : Int32).toInt = 1 := rfl
            have i2 : (2 : Int32).toInt = 2 := rfl
            have i3 : (3 : Int32).toInt = 3 := rfl
            have i9 : (9 : Int32).toInt = 9 := rfl
            have i30 : (30 : Int32).toInt = 30 := rfl
            have i44 : (44 : Int32).toInt = 44 := rfl
            have i59 : (59 : Int32).toInt = 59 := rfl
            have i109 : (109 : Int32).toInt = 109 := rfl
            have i116 : (116 : Int32).toInt = 116 := rfl
            have e480 : dkMb (I0 345) (I0 340 6) (I0 347 0) (I0 340 9) = (1, I0 340 9) := (dkTh_q (dkK_1 (T := (I0 345)) (n := (I0 340 6)) (a := I0 340 9) (lo := 0) (hi := ((I0 347 0) - (1 : Int32))) q449) (by decide))
            exact W.vret hx hb hr (fun t ht hW9 => ⟨⟨I63, rfl, ⟨hF, hO, Or.inr (Or.inl ⟨(show dkN [(1, 2)] (I63 340 7) from dkN_sub (by rw [hF476 340 7 rfl]; exact (by rw [hF475 340 7 rfl]; exact (by rw [hF460 340 7 rfl]; exact (by rw [hF459 340 7 rfl]; exact f63_340_7)))) rfl), (show dkN [(0, 90)] (I63 340 8) from dkN_sub f476_340_8 rfl), (show dkN [(3, 9)] (I63 347 0) from dkN_sub (by rw [hF476 347 0 rfl]; exact (by rw [hF475 347 0 rfl]; exact (by rw [hF460 347 0 rfl]; exact (by rw [hF459 347 0 rfl]; exact (by rw [hF63 347 0 rfl]; exact (by rw [hF45 347 0 rfl]; exact np1)))))) rfl), (show dkN [(0, 4)] (I63 347 4) from dkN_sub (by rw [hF476 347 4 rfl]; exact (by rw [hF475 347 4 rfl]; exact (by rw [hF460 347 4 rfl]; exact (by rw [hF459 347 4 rfl]; exact (by rw [hF63 347 4 rfl]; exact (by rw [hF45 347 4 rfl]; exact f44)))))) rfl), (by omega), (dkE_k e480 (by decide)), (((show I63 340 7 = 1 from ((hF476 340 7 rfl).trans ((hF475 340 7 rfl).trans ((hF460 340 7 rfl).trans ((hF459 340 7 rfl).trans y450)))))).trans (dkP_1 e480).symm), (((show I63 340 8 = I0 340 9 from ((hF476 340 8 rfl).trans ((hF475 340 8 rfl).trans ((hF460 340 8 rfl).trans ((hF459 340 8 rfl).trans y452)))))).trans (dkP_2 e480).symm), (show I63 347 0 = I0 347 0 from ((hF476 347 0 rfl).trans ((hF475 347 0 rfl).trans ((hF460 347 0 rfl).trans ((hF459 347 0 rfl).trans ((hF63 347 0 rfl).trans ((hF45 347 0 rfl).trans rfl))))))), (show I63 347 4 = I0 347 4 from ((hF476 347 4 rfl).trans ((hF475 347 4 rfl).trans ((hF460 347 4 rfl).trans ((hF459 347 4 rfl).trans ((hF63 347 4 rfl).trans ((hF45 347 4 rfl).trans rfl))))))), (show I63 347 5 = I0 347 5 from ((hF476 347 5 rfl).trans ((hF475 347 5 rfl).trans ((hF460 347 5 rfl).trans ((hF459 347 5 rfl).trans ((hF63 347 5 rfl).trans ((hF45 347 5 rfl).trans rfl))))))), trivial⟩)⟩, dkW_eq ht hW⟩, hS.F ht⟩) hS.2.2 dX6_readsPerson_149
          ·
            exact absurd ((xv476).trans (rfl).symm) c479
