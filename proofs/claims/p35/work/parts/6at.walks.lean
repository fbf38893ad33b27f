set_option maxHeartbeats 4000000 in
set_option maxRecDepth 100000 in
theorem fx_X0_takeBack_1 (l : Launch) (g : dkG) (z : Nat) (I0 : dkI)  (hO : dkOk I0) (hP : dkQQ I0) : Met l yX0_takeBack wsX0_takeBack (dkR 1) (dkPc g z [.ref (z + 59), .ref (z + 25)] I0) (dkQi g z (fun r I1 => dkF [(25, 25, 0, 4), (25, 25, 11, 11), (25, 25, 15, 17), (26, 26, 0, 4), (27, 27, 0, 4), (28, 28, 0, 4), (29, 29, 0, 4), (30, 30, 0, 4), (31, 31, 0, 4), (32, 32, 0, 5), (33, 33, 0, 5), (34, 34, 0, 5), (59, 59, 1, 2)] I0 I1 ∧ dkOk I1 ∧ dkQQ I1 ∧ ((dkN [(0, 23)] r ∧ dkN [(0, 23)] (I1 59 2) ∧ I1 25 0 = I0 25 0 ∧ I1 25 4 = I0 25 4 ∧ I1 25 11 = I0 25 11 ∧ (∀ j : Nat, j < Int32.toNatClampNeg (I0 25 11) → I1 32 j = I0 32 j) ∧ True)))) 0 0 (dkA z) := by
  refine Met.ofW (cc := cX0_takeBack) (maxL := 2) (ret := (some .int)) (by decide) rfl ?_
  intro p e s m args below meth c s₁ B hml hv
  obtain ⟨ha, hW, hK, hT⟩ := hv
  have hx := B.exec
  have hb := B.bytes
  have hr := B.returns
  have hts := atoms_spec (ws := wsX0_takeBack) B.pre
  have hown : s.vm.findClass RX0 = some m.cls := findClass_of_methodNamed B.named
  have hlocks := B.notSynchronized
  have hS : va_S (dkA z) s.heap s.heap [] := va_S.rf
  have hF : dkF [(25, 25, 0, 4), (25, 25, 11, 11), (25, 25, 15, 17), (26, 26, 0, 4), (27, 27, 0, 4), (28, 28, 0, 4), (29, 29, 0, 4), (30, 30, 0, 4), (31, 31, 0, 4), (32, 32, 0, 5), (33, 33, 0, 5), (34, 34, 0, 5), (59, 59, 1, 2)] I0 I0 := dkF_rf _ _
  have hl := lv_entry ([.ref (z + 59), .ref (z + 25)]) (n := 2) (Nat.le_of_ble_eq_true rfl)
  have hgo : entryFrame m args 2 = entryFrame m ([.ref (z + 59), .ref (z + 25)] : List Value).toArray 2 := by rw [ha]
  rw [hgo, lg_entry_eq]
  generalize (lg_sl ([.ref (z + 59), .ref (z + 25)]) ++ List.replicate (2 - (lg_sl ([.ref (z + 59), .ref (z + 25)])).length) Slot.unset).toArray = ls at hl ⊢
  have hl : lv_has ls 2 [(0, .ref (z + 59)), (1, .ref (z + 25))] := hl
  refine lv_aload_n hx hb dX0_takeBack_0 rfl (lv_at hl 0 rfl) ?_
  refine dk_get (k := 59) hx hb hts iX0_takeBack_0 hown hK (dk_at59 hW) rfl 2 (by decide) (hts (.fieldLink RX0 24 "DogKings$Acts" "kept" "I") (List.mem_of_getElem? (i := 1) rfl)) rfl dX0_takeBack_1 ?_
  refine lv_topi (fun v1 ev1 => ?_)
  have dv1 : dkN [(0, 24)] v1 := by rw [ev1]; exact (hO 59 2)
  have xv1 : v1 = I0 59 2 := ev1.trans rfl
  refine lv_if_le (tgt := 46) hx hb dX0_takeBack_4 (by decide) (fun c2 => ?_) (fun c2 => ?_)
  ·
    have q3 : (I0 59 2).toInt + 0 ≤ (0 : Int) := by first | (rw [← xv1]; exact (dkc_le c2)) | (subst xv1; exact (dkc_le c2))
    have d4 : dkN [(0, 0)] v1 := dkN_le1 0 dv1 (dkN_lit (x := 0) (0) rfl) (dkc_le c2) rfl
    have f5 : dkN [(0, 0)] (I0 59 2) := by rw [← ev1]; exact d4
    refine lv_aload_n hx hb dX0_takeBack_46 rfl (lv_at hl 0 rfl) ?_
    refine dk_get (k := 59) hx hb hts iX0_takeBack_0 hown hK (dk_at59 hW) rfl 2 (by decide) (hts (.fieldLink RX0 24 "DogKings$Acts" "kept" "I") (List.mem_of_getElem? (i := 1) rfl)) rfl dX0_takeBack_47 ?_
    refine lv_topi (fun v6 ev6 => ?_)
    have dv6 : dkN [(0, 0)] v6 := by rw [ev6]; exact f5
    have xv6 : v6 = I0 59 2 := ev6.trans rfl
    exact W.iret (v := v6) hx hb hr (fun t ht hW9 => ⟨⟨v6, I0, rfl, ⟨hF, hO, hP, ⟨dkN_sub dv6 rfl, (show dkN [(0, 23)] (I0 59 2) from dkN_sub f5 rfl), rfl, rfl, rfl, (fun j _ => congrFun rfl j), trivial⟩⟩, dkW_eq ht hW⟩, hS.F ht⟩) hS.2.2 dX0_takeBack_50
  ·
    have q7 : (0 : Int) + 1 ≤ (I0 59 2).toInt := by first | (rw [← xv1]; exact (dkc_nle c2)) | (subst xv1; exact (dkc_nle c2))
    have d8 : dkN [(1, 24)] v1 := dkN_le2 1 (dkN_lit (x := 0) (0) rfl) dv1 (dkc_nle c2) rfl
    have f9 : dkN [(1, 24)] (I0 59 2) := by rw [← ev1]; exact d8
    refine lv_aload_n hx hb dX0_takeBack_7 rfl (lv_at hl 0 rfl) ?_
    refine lv_aload_n hx hb dX0_takeBack_8 rfl (lv_at hl 0 rfl) ?_
    refine dk_get (k := 59) hx hb hts iX0_takeBack_0 hown hK (dk_at59 hW) rfl 1 (by decide) (hts (.fieldLink RX0 16 "DogKings$Acts" "next" "I") (List.mem_of_getElem? (i := 2) rfl)) rfl dX0_takeBack_9 ?_
    refine lv_topi (fun v10 ev10 => ?_)
    have dv10 : dkN [(0, 23)] v10 := by rw [ev10]; exact (hO 59 1)
    have xv10 : v10 = I0 59 1 := ev10.trans rfl
    refine lv_bipush (v := 24) hx hb dX0_takeBack_12 (by decide) ?_
    refine lv_iadd hx hb dX0_takeBack_14 ?_
    refine lv_topi (fun v11 ev11 => ?_)
    have dv11 : dkN [(24, 47)] v11 := by rw [ev11]; exact dkN_add dv10 (dkN_lit (x := 24) (24) rfl) rfl
    have xv11 : v11 = (I0 59 1) + (24 : Int32) := by rw [ev11, xv10]
    have q12 : ((I0 59 1) + (24 : Int32)).toInt = (I0 59 1).toInt + (24 : Int) := by first | (rw [← xv11, ← xv10]; exact (by rw [ev11]; exact dk_addE dv10 (dkN_lit (x := 24) (24) rfl) rfl)) | (subst xv11 xv10; exact (by rw [ev11]; exact dk_addE dv10 (dkN_lit (x := 24) (24) rfl) rfl))
    refine lv_iconst (v := 1) hx hb dX0_takeBack_15 (by decide) ?_
    refine lv_isub hx hb dX0_takeBack_16 ?_
    refine lv_topi (fun v13 ev13 => ?_)
    have dv13 : dkN [(23, 46)] v13 := by rw [ev13]; exact dkN_subt dv11 (dkN_lit (x := 1) (1) rfl) rfl
    have xv13 : v13 = ((I0 59 1) + (24 : Int32)) - (1 : Int32) := by rw [ev13, xv11]
    have q14 : (((I0 59 1) + (24 : Int32)) - (1 : Int32)).toInt = ((I0 59 1) + (24 : Int32)).toInt - (1 : Int) := by first | (rw [← xv13, ← xv11]; exact (by rw [ev13]; exact dk_subE dv11 (dkN_lit (x := 1) (1) rfl) rfl)) | (subst xv13 xv11; exact (by rw [ev13]; exact dk_subE dv11 (dkN_lit (x := 1) (1) rfl) rfl))
    refine lv_bipush (v := 24) hx hb dX0_takeBack_17 (by decide) ?_
    refine lv_irem hx hb dX0_takeBack_19 (dkN_ne0 (dkN_lit (x := 24) (24) rfl) rfl) ?_
    refine lv_topi (fun v15 ev15 => ?_)
    have dv15 : dkN [(0, 23)] v15 := by rw [ev15]; exact dkN_rem 24 (by decide) dv13 (dkN_lit (x := 24) (24) rfl) rfl
    have xv15 : v15 = (((I0 59 1) + (24 : Int32)) - (1 : Int32)) - (((I0 59 1) + (24 : Int32)) - (1 : Int32)) / (24 : Int32) * (24 : Int32) := by rw [ev15, xv13]
    refine dk_put (k := 59) hx hb hts iX0_takeBack_0 tyX0 tyX0_ok nmX0 hown hK hW (dk_at59 hW) hS rfl 1 (by decide) (hts (.fieldLink RX0 16 "DogKings$Acts" "next" "I") (List.mem_of_getElem? (i := 2) rfl)) rfl rfl (Nat.le_of_ble_eq_true rfl) rfl dX0_takeBack_20 (fun I16 H16 L16 eI16 hW hS => ?_)
    have eI16 : I16 = dkU I0 59 1 v15 := eI16
    have hO := dkO_set hO eI16 (dkN_sub dv15 rfl)
    have hF := dkF_set hF eI16 rfl
    refine lv_aload_n hx hb dX0_takeBack_23 rfl (lv_at hl 0 rfl) ?_
    refine lv_dup hx hb dX0_takeBack_24 rfl ?_
    refine dk_get (k := 59) hx hb hts iX0_takeBack_0 hown hK (dk_at59 hW) rfl 2 (by decide) (hts (.fieldLink RX0 24 "DogKings$Acts" "kept" "I") (List.mem_of_getElem? (i := 1) rfl)) rfl dX0_takeBack_25 ?_
    refine lv_topi (fun v17 ev17 => ?_)
    have dv17 : dkN [(1, 24)] v17 := by rw [ev17]; exact (by rw [eI16, dkU_sn (by decide)]; exact f9)
    have xv17 : v17 = I0 59 2 := ev17.trans ((by rw [eI16, dkU_sn (by decide)] : I16 59 2 = _).trans rfl)
    refine lv_iconst (v := 1) hx hb dX0_takeBack_28 (by decide) ?_
    refine lv_isub hx hb dX0_takeBack_29 ?_
    refine lv_topi (fun v18 ev18 => ?_)
    have dv18 : dkN [(0, 23)] v18 := by rw [ev18]; exact dkN_subt dv17 (dkN_lit (x := 1) (1) rfl) rfl
    have xv18 : v18 = (I0 59 2) - (1 : Int32) := by rw [ev18, xv17]
    have q19 : ((I0 59 2) - (1 : Int32)).toInt = (I0 59 2).toInt - (1 : Int) := by first | (rw [← xv18, ← xv17]; exact (by rw [ev18]; exact dk_subE dv17 (dkN_lit (x := 1) (1) rfl) rfl)) | (subst xv18 xv17; exact (by rw [ev18]; exact dk_subE dv17 (dkN_lit (x := 1) (1) rfl) rfl))
    refine dk_put (k := 59) hx hb hts iX0_takeBack_0 tyX0 tyX0_ok nmX0 hown hK hW (dk_at59 hW) hS rfl 2 (by decide) (hts (.fieldLink RX0 24 "DogKings$Acts" "kept" "I") (List.mem_of_getElem? (i := 1) rfl)) rfl rfl (Nat.le_of_ble_eq_true rfl) rfl dX0_takeBack_30 (fun I20 H20 L20 eI20 hW hS => ?_)
    have eI20 : I20 = dkU I16 59 2 v18 := eI20
    have hO := dkO_set hO eI20 (dkN_sub dv18 rfl)
    have hF := dkF_set hF eI20 rfl
    refine lv_aload_n hx hb dX0_takeBack_33 rfl (lv_at hl 1 rfl) ?_
    refine lv_aload_n hx hb dX0_takeBack_34 rfl (lv_at hl 0 rfl) ?_
    refine dk_get (k := 59) hx hb hts iX0_takeBack_0 hown hK (dk_at59 hW) rfl 0 (by decide) (hts (.fieldLink RX0 11 "DogKings$Acts" "before" "[LDogKings$Town;") (List.mem_of_getElem? (i := 3) rfl)) rfl dX0_takeBack_35 ?_
    refine lv_aload_n hx hb dX0_takeBack_38 rfl (lv_at hl 0 rfl) ?_
    refine dk_get (k := 59) hx hb hts iX0_takeBack_0 hown hK (dk_at59 hW) rfl 1 (by decide) (hts (.fieldLink RX0 16 "DogKings$Acts" "next" "I") (List.mem_of_getElem? (i := 2) rfl)) rfl dX0_takeBack_39 ?_
    refine lv_topi (fun v21 ev21 => ?_)
    have dv21 : dkN [(0, 23)] v21 := by rw [ev21]; exact (hO 59 1)
    have xv21 : v21 = (((I0 59 1) + (24 : Int32)) - (1 : Int32)) - (((I0 59 1) + (24 : Int32)) - (1 : Int32)) / (24 : Int32) * (24 : Int32) := ev21.trans ((by rw [eI20, dkU_sn (by decide)] : I20 59 1 = _).trans (by rw [eI16, dkU_ss, xv15]))
    obtain ⟨tf22, htf22, etf22, hlotf22, hhitf22⟩ := dk_townAt60 (z := z) (dkN_in (n := 24) dv21 rfl)
    refine dk_tld (r := z + tf22) hx hb hK (dk_at60 hW) (dkN_in (n := 24) dv21 rfl) etf22 dX0_takeBack_42 ?_
    refine dk_Vv (As := [.ref (z + tf22)]) (rest := []) ⟨hx, hb, hml, hown, hts⟩ (fx_X4_become_1 l g z I20 (25) (by unfold dkT; omega) tf22 htf22 (by omega) hO) (cwV 1 hts gX0_takeBack_X4_become rfl rfl rfl (by decide +kernel) ⟨Nat.le_of_ble_eq_true rfl, Nat.le_of_ble_eq_true rfl⟩) (dk_at25 hW) rfl hK hT hW hS rfl hl.1 rfl (Nat.le_of_ble_eq_true rfl) dX0_takeBack_43 ⟨Nat.zero_le _, Nat.zero_le _⟩ (fun I23 H23 L23 hp23 hW hS => ?_)
    obtain ⟨hF23, hO, hc23⟩ := hp23
    have hF := dkF_call hF hF23 rfl
    obtain ⟨xh23_0, xh23_1, xh23_2, xp23_0, -⟩ := hc23
    have hb1 := dkN_lo (b := 0) (show dkN [(0, 23)] (I0 59 1) from ‹dkOk I0› 59 1) rfl
    have hb2 := dkN_hi (b := 23) (show dkN [(0, 23)] (I0 59 1) from ‹dkOk I0› 59 1) rfl
    have hqq := dkQQ_back ‹dkQQ I0› eI16 (by have h1 := dk_remN ev15 (by rw [xv13]; omega) rfl; rw [xv13] at h1; have h2 : Int32.toNatClampNeg (I0 59 1) = (I0 59 1).toInt.toNat := rfl; omega) eI20 (by have h2 : Int32.toNatClampNeg (I0 59 2) = (I0 59 2).toInt.toNat := rfl; have h3 : Int32.toNatClampNeg v18 = v18.toInt.toNat := rfl; have h4 := congrArg Int32.toInt xv18; omega) (dk_tIdx (i := v15) (by have h1 := etf22; rw [xv21, ← xv15] at h1; exact h1)) (fun k j h => hF23 k j (dkNin_n (by omega) (dkNin_n (by omega) (dkNin_n (by omega) (dkNin_n (by omega) (dkNin_n (by omega) (dkNin_n (by omega) (dkNin_n (by omega) (dkNin_n (by omega) (dkNin_n (by omega) (dkNin_n (by omega) (dkNin_n (by omega) (dkNin_n (by omega) dkNin_nil))))))))))))) xh23_0 xh23_1 xh23_2 (fun j hj => xp23_0 j hj) (by have h2 : Int32.toNatClampNeg (I0 59 2) = (I0 59 2).toInt.toNat := rfl; have h3 := dkN_hi (b := 24) (show dkN [(0, 24)] (I0 59 2) from ‹dkOk I0› 59 2) rfl; omega)
    have hP := hqq.1
    refine lv_aload_n hx hb dX0_takeBack_46 rfl (lv_at hl 0 rfl) ?_
    refine dk_get (k := 59) hx hb hts iX0_takeBack_0 hown hK (dk_at59 hW) rfl 2 (by decide) (hts (.fieldLink RX0 24 "DogKings$Acts" "kept" "I") (List.mem_of_getElem? (i := 1) rfl)) rfl dX0_takeBack_47 ?_
    refine lv_topi (fun v24 ev24 => ?_)
    have dv24 : dkN [(0, 23)] v24 := by rw [ev24]; exact (by rw [hF23 59 2 rfl]; exact (by rw [eI20, dkU_ss]; exact dv18))
    have xv24 : v24 = (I0 59 2) - (1 : Int32) := ev24.trans ((hF23 59 2 rfl).trans (by rw [eI20, dkU_ss, xv18]))
    exact W.iret (v := v24) hx hb hr (fun t ht hW9 => ⟨⟨v24, I23, rfl, ⟨hF, hO, hP, ⟨dkN_sub dv24 rfl, (show dkN [(0, 23)] (I23 59 2) from dkN_sub (by rw [hF23 59 2 rfl]; exact (by rw [eI20, dkU_ss]; exact dv18)) rfl), hqq.2.1, hqq.2.2.1, hqq.2.2.2.1, (fun j hj => (congrFun rfl j).trans (hqq.2.2.2.2 j hj)), trivial⟩⟩, dkW_eq ht hW⟩, hS.F ht⟩) hS.2.2 dX0_takeBack_50
set_option maxHeartbeats 4000000 in
set_option maxRecDepth 100000 in
theorem fx_X5_undo_1 (l : Launch) (g : dkG) (z : Nat) (I0 : dkI)  (hO : dkOk I0) (hP : dkQQ I0) : Met l yX5_undo wsX5_undo (dkR 2) (dkPc g z [.ref (z + 0)] I0) (dkQi g z (fun r I1 => dkF [(25, 25, 0, 4), (25, 25, 11, 11), (25, 25, 15, 17), (26, 26, 0, 4), (27, 27, 0, 4), (28, 28, 0, 4), (29, 29, 0, 4), (30, 30, 0, 4), (31, 31, 0, 4), (32, 32, 0, 5), (33, 33, 0, 5), (34, 34, 0, 5), (59, 59, 1, 2)] I0 I1 ∧ dkOk I1 ∧ dkQQ I1 ∧ ((dkN [(-1000002, -1000002), (0, 23)] r ∧ dkN [(0, 23)] (I1 59 2) ∧ I1 25 0 = I0 25 0 ∧ I1 25 4 = I0 25 4 ∧ I1 25 11 = I0 25 11 ∧ (∀ j : Nat, j < Int32.toNatClampNeg (I0 25 11) → I1 32 j = I0 32 j) ∧ True)))) 0 0 (dkA z) := by
  refine Met.ofW (cc := cX5_undo) (maxL := 1) (ret := (some .int)) (by decide) rfl ?_
  intro p e s m args below meth c s₁ B hml hv
  obtain ⟨ha, hW, hK, hT⟩ := hv
  have hx := B.exec
  have hb := B.bytes
  have hr := B.returns
  have hts := atoms_spec (ws := wsX5_undo) B.pre
  have hown : s.vm.findClass RX5 = some m.cls := findClass_of_methodNamed B.named
  have hlocks := B.notSynchronized
  have hS : va_S (dkA z) s.heap s.heap [] := va_S.rf
  have hF : dkF [(25, 25, 0, 4), (25, 25, 11, 11), (25, 25, 15, 17), (26, 26, 0, 4), (27, 27, 0, 4), (28, 28, 0, 4), (29, 29, 0, 4), (30, 30, 0, 4), (31, 31, 0, 4), (32, 32, 0, 5), (33, 33, 0, 5), (34, 34, 0, 5), (59, 59, 1, 2)] I0 I0 := dkF_rf _ _
  have hl := lv_entry ([.ref (z + 0)]) (n := 1) (Nat.le_of_ble_eq_true rfl)
  have hgo : entryFrame m args 1 = entryFrame m ([.ref (z + 0)] : List Value).toArray 1 := by rw [ha]
  rw [hgo, lg_entry_eq]
  generalize (lg_sl ([.ref (z + 0)]) ++ List.replicate (1 - (lg_sl ([.ref (z + 0)])).length) Slot.unset).toArray = ls at hl ⊢
  have hl : lv_has ls 1 [(0, .ref (z + 0))] := hl
  refine lv_aload_n hx hb dX5_undo_0 rfl (lv_at hl 0 rfl) ?_
  refine dk_get (k := 0) hx hb hts iX5_undo_5 hown hK (dk_at0 hW) rfl 7 (by decide) (hts (.fieldLink RX5 42 "DogKings" "acts" "LDogKings$Acts;") (List.mem_of_getElem? (i := 1) rfl)) rfl dX5_undo_1 ?_
  refine dk_get (k := 59) hx hb hts iX5_undo_0 hown hK (dk_at59 hW) rfl 2 (by decide) (hts (.fieldLink RX5 158 "DogKings$Acts" "kept" "I") (List.mem_of_getElem? (i := 2) rfl)) rfl dX5_undo_4 ?_
  refine lv_topi (fun v1 ev1 => ?_)
  have dv1 : dkN [(0, 24)] v1 := by rw [ev1]; exact (hO 59 2)
  have xv1 : v1 = I0 59 2 := ev1.trans rfl
  refine lv_if_ne (tgt := 15) hx hb dX5_undo_7 (by decide) (fun c2 => ?_) (fun c2 => ?_)
  ·
    have q3 : (I0 59 2).toInt ≠ (0 : Int) := by first | (rw [← xv1]; exact (dk_ne c2)) | (subst xv1; exact (dk_ne c2))
    have d4 : dkN [(1, 24)] v1 := dkN_ne1 (0) dv1 (dkN_lit (x := 0) (0) rfl) (dk_ne c2) rfl
    have f5 : dkN [(1, 24)] (I0 59 2) := by rw [← ev1]; exact d4
    refine lv_aload_n hx hb dX5_undo_15 rfl (lv_at hl 0 rfl) ?_
    refine dk_get (k := 0) hx hb hts iX5_undo_5 hown hK (dk_at0 hW) rfl 7 (by decide) (hts (.fieldLink RX5 42 "DogKings" "acts" "LDogKings$Acts;") (List.mem_of_getElem? (i := 1) rfl)) rfl dX5_undo_16 ?_
    refine lv_aload_n hx hb dX5_undo_19 rfl (lv_at hl 0 rfl) ?_
    refine dk_get (k := 0) hx hb hts iX5_undo_5 hown hK (dk_at0 hW) rfl 5 (by decide) (hts (.fieldLink RX5 31 "DogKings" "now" "LDogKings$Town;") (List.mem_of_getElem? (i := 4) rfl)) rfl dX5_undo_20 ?_
    refine dk_Vi (As := [.ref (z + 25)]) (rest := []) ⟨hx, hb, hml, hown, hts⟩ (fx_X0_takeBack_1 l g z I0 hO hP) (cwV 1 hts gX5_undo_X0_takeBack rfl rfl rfl (by decide +kernel) ⟨Nat.le_of_ble_eq_true rfl, Nat.le_of_ble_eq_true rfl⟩) (dk_at59 hW) rfl hK hT hW hS rfl hl.1 rfl (Nat.le_of_ble_eq_true rfl) dX5_undo_23 ⟨Nat.zero_le _, Nat.zero_le _⟩ (fun v6 I6 H6 L6 hp6 hW hS => ?_)
    obtain ⟨hF6, hO, hP, hc6⟩ := hp6
    have hF := dkF_call hF hF6 rfl
    obtain ⟨dv6, f6_59_2, xh6_0, xh6_1, xh6_2, xp6_0, -⟩ := hc6
    have y7 : I6 25 0 = I0 25 0 := by have h := xh6_0; exact h
    have y8 : I6 25 4 = I0 25 4 := by have h := xh6_1; exact h
    have y9 : I6 25 11 = I0 25 11 := by have h := xh6_2; exact h
    have yp10 : ∀ j : Nat, j < Int32.toNatClampNeg (I0 25 11) → I6 32 j = I0 32 j := by have h := xp6_0; exact h
    exact W.iret (v := v6) hx hb hr (fun t ht hW9 => ⟨⟨v6, I6, rfl, ⟨hF, hO, hP, ⟨dkN_sub dv6 rfl, (show dkN [(0, 23)] (I6 59 2) from dkN_sub f6_59_2 rfl), y7, y8, y9, (fun j hj => (congrFun rfl j).trans (yp10 j hj)), trivial⟩⟩, dkW_eq ht hW⟩, hS.F ht⟩) hS.2.2 dX5_undo_26
  ·
    have q11 : (I0 59 2).toInt = (0 : Int) := by first | (rw [← xv1]; exact (congrArg Int32.toInt c2)) | (subst xv1; exact (congrArg Int32.toInt c2))
    have d12 : dkN [(0, 0)] v1 := dkN_eq1 dv1 (dkN_lit (x := 0) (0) rfl) (congrArg Int32.toInt c2) rfl
    have f13 : dkN [(0, 0)] (I0 59 2) := by rw [← ev1]; exact d12
    refine lv_ldc (v := (-1000002)) hx hb hown (hts (.constant RX5 129 (-1000002)) (List.mem_of_getElem? (i := 3) rfl)) dX5_undo_10 ?_
    refine lv_goto (tgt := 26) hx hb dX5_undo_12 (by decide) ?_
    exact W.iret (v := (-1000002)) hx hb hr (fun t ht hW9 => ⟨⟨(-1000002), I0, rfl, ⟨hF, hO, hP, ⟨dkN_sub (dkN_lit (x := (-1000002)) (-1000002) rfl) rfl, (show dkN [(0, 23)] (I0 59 2) from dkN_sub f13 rfl), rfl, rfl, rfl, (fun j _ => congrFun rfl j), trivial⟩⟩, dkW_eq ht hW⟩, hS.F ht⟩) hS.2.2 dX5_undo_26
set_option maxHeartbeats 4000000 in
set_option maxRecDepth 100000 in
theorem fx_X6_undo_1 (l : Launch) (g : dkG) (z : Nat) (I0 : dkI)  (hO : dkOk I0) (hP : dkPP I0) : Met l yX6_undo wsX6_undo (dkR 1) (dkPc g z [.ref (z + 340)] I0) (dkQi g z (fun r I1 => dkF [(340, 340, 17, 17), (346, 346, 0, 53)] I0 I1 ∧ dkOk I1 ∧ dkPP I1 ∧ ((dkN [(-1000002, -1000002), (0, 23)] r ∧ dkN [(0, 23)] (I1 340 17) ∧ (∀ j : Nat, j < 54 → dkSt j = true → I1 346 j = I0 346 j) ∧ True)))) 0 0 (dkA z) := by
  refine Met.ofW (cc := cX6_undo) (maxL := 1) (ret := (some .int)) (by decide) rfl ?_
  intro p e s m args below meth c s₁ B hml hv
  obtain ⟨ha, hW, hK, hT⟩ := hv
  have hx := B.exec
  have hb := B.bytes
  have hr := B.returns
  have hts := atoms_spec (ws := wsX6_undo) B.pre
  have hown : s.vm.findClass RX6 = some m.cls := findClass_of_methodNamed B.named
  have hlocks := B.notSynchronized
  have hS : va_S (dkA z) s.heap s.heap [] := va_S.rf
  have hF : dkF [(340, 340, 17, 17), (346, 346, 0, 53)] I0 I0 := dkF_rf _ _
  have hl := lv_entry ([.ref (z + 340)]) (n := 1) (Nat.le_of_ble_eq_true rfl)
  have hgo : entryFrame m args 1 = entryFrame m ([.ref (z + 340)] : List Value).toArray 1 := by rw [ha]
  rw [hgo, lg_entry_eq]
  generalize (lg_sl ([.ref (z + 340)]) ++ List.replicate (1 - (lg_sl ([.ref (z + 340)])).length) Slot.unset).toArray = ls at hl ⊢
  have hl : lv_has ls 1 [(0, .ref (z + 340))] := hl
  refine lv_aload_n hx hb dX6_undo_0 rfl (lv_at hl 0 rfl) ?_
  refine dk_get (k := 340) hx hb hts iX6_undo_6 hown hK (dk_at340 hW) rfl 17 (by decide) (hts (.fieldLink RX6 142 "DogKingsModel" "acts" "I") (List.mem_of_getElem? (i := 1) rfl)) rfl dX6_undo_1 ?_
  refine lv_topi (fun v1 ev1 => ?_)
  have dv1 : dkN [(0, 24)] v1 := by rw [ev1]; exact (hO 340 17)
  have xv1 : v1 = I0 340 17 := ev1.trans rfl
  refine lv_if_ne (tgt := 10) hx hb dX6_undo_4 (by decide) (fun c2 => ?_) (fun c2 => ?_)
  ·
    have q3 : (I0 340 17).toInt ≠ (0 : Int) := by first | (rw [← xv1]; exact (dk_ne c2)) | (subst xv1; exact (dk_ne c2))
    have d4 : dkN [(1, 24)] v1 := dkN_ne1 (0) dv1 (dkN_lit (x := 0) (0) rfl) (dk_ne c2) rfl
    have f5 : dkN [(1, 24)] (I0 340 17) := by rw [← ev1]; exact d4
    refine lv_aload_n hx hb dX6_undo_10 rfl (lv_at hl 0 rfl) ?_
    refine lv_dup hx hb dX6_undo_11 rfl ?_
    refine dk_get (k := 340) hx hb hts iX6_undo_6 hown hK (dk_at340 hW) rfl 17 (by decide) (hts (.fieldLink RX6 142 "DogKingsModel" "acts" "I") (List.mem_of_getElem? (i := 1) rfl)) rfl dX6_undo_12 ?_
    refine lv_topi (fun v6 ev6 => ?_)
    have dv6 : dkN [(1, 24)] v6 := by rw [ev6]; exact f5
    have xv6 : v6 = I0 340 17 := ev6.trans rfl
    refine lv_iconst (v := 1) hx hb dX6_undo_15 (by decide) ?_
    refine lv_isub hx hb dX6_undo_16 ?_
    refine lv_topi (fun v7 ev7 => ?_)
    have dv7 : dkN [(0, 23)] v7 := by rw [ev7]; exact dkN_subt dv6 (dkN_lit (x := 1) (1) rfl) rfl
    have xv7 : v7 = (I0 340 17) - (1 : Int32) := by rw [ev7, xv6]
    have q8 : ((I0 340 17) - (1 : Int32)).toInt = (I0 340 17).toInt - (1 : Int) := by first | (rw [← xv7, ← xv6]; exact (by rw [ev7]; exact dk_subE dv6 (dkN_lit (x := 1) (1) rfl) rfl)) | (subst xv7 xv6; exact (by rw [ev7]; exact dk_subE dv6 (dkN_lit (x := 1) (1) rfl) rfl))
    refine dk_put (k := 340) hx hb hts iX6_undo_6 tyX6 tyX6_ok nmX6 hown hK hW (dk_at340 hW) hS rfl 17 (by decide) (hts (.fieldLink RX6 142 "DogKingsModel" "acts" "I") (List.mem_of_getElem? (i := 1) rfl)) rfl rfl (Nat.le_of_ble_eq_true rfl) rfl dX6_undo_17 (fun I9 H9 L9 eI9 hW hS => ?_)
    have eI9 : I9 = dkU I0 340 17 v7 := eI9
    have hO := dkO_set hO eI9 (dkN_sub dv7 rfl)
    have hF := dkF_set hF eI9 rfl
    refine lv_aload_n hx hb dX6_undo_20 rfl (lv_at hl 0 rfl) ?_
    refine dk_get (k := 340) hx hb hts iX6_undo_6 hown hK (dk_at340 hW) rfl 16 (by decide) (hts (.fieldLink RX6 34 "DogKingsModel" "past" "[I") (List.mem_of_getElem? (i := 3) rfl)) rfl dX6_undo_21 ?_
    refine lv_bipush (v := 54) hx hb dX6_undo_24 (by decide) ?_
    refine lv_aload_n hx hb dX6_undo_26 rfl (lv_at hl 0 rfl) ?_
    refine dk_get (k := 340) hx hb hts iX6_undo_6 hown hK (dk_at340 hW) rfl 17 (by decide) (hts (.fieldLink RX6 142 "DogKingsModel" "acts" "I") (List.mem_of_getElem? (i := 1) rfl)) rfl dX6_undo_27 ?_
    refine lv_topi (fun v10 ev10 => ?_)
    have dv10 : dkN [(0, 23)] v10 := by rw [ev10]; exact (by rw [eI9, dkU_ss]; exact dv7)
    have xv10 : v10 = (I0 340 17) - (1 : Int32) := ev10.trans (by rw [eI9, dkU_ss, xv7])
    refine lv_imul hx hb dX6_undo_30 ?_
    refine lv_topi (fun v11 ev11 => ?_)
    have dv11 : dkN [(0, 1242)] v11 := by rw [ev11]; exact dkN_mulL 54 (by decide) (dkN_lit (x := 54) (54) rfl) dv10 rfl
    have xv11 : v11 = (54 : Int32) * ((I0 340 17) - (1 : Int32)) := by rw [ev11, xv10]
    have q12 : ((54 : Int32) * ((I0 340 17) - (1 : Int32))).toInt = (54 : Int) * ((I0 340 17) - (1 : Int32)).toInt := by first | (rw [← xv11, ← xv10]; exact (by rw [ev11]; exact dk_mulE 54 (x := 54) rfl dv10 (by decide) rfl)) | (subst xv11 xv10; exact (by rw [ev11]; exact dk_mulE 54 (x := 54) rfl dv10 (by decide) rfl))
    refine lv_aload_n hx hb dX6_undo_31 rfl (lv_at hl 0 rfl) ?_
    refine dk_get (k := 340) hx hb hts iX6_undo_6 hown hK (dk_at340 hW) rfl 13 (by decide) (hts (.fieldLink RX6 25 "DogKingsModel" "now" "[I") (List.mem_of_getElem? (i := 4) rfl)) rfl dX6_undo_32 ?_
    refine lv_iconst (v := 0) hx hb dX6_undo_35 (by decide) ?_
    refine dk_Sv (As := [.ref (z + 349), .int v11, .ref (z + 346), .int 0]) (rest := []) ⟨hx, hb, hml, hown, hts⟩ (c_X6_copies l g z I9 (kf := 349) (kt := 346) (nf := 1296) (nt := 54) v11 0 (A := v11.toNatClampNeg) (B := 0) rfl rfl (dk_cl54 dv11 rfl) (by decide) (by decide) (by decide) (by decide) (by decide) (fun _ => rfl) (fun _ => rfl)) (va_cwS 4 hts gX6_undo_X6_copies rfl rfl rfl (by decide +kernel) ⟨Nat.le_of_ble_eq_true rfl, Nat.le_of_ble_eq_true rfl⟩) hK hT hW hS rfl hl.1 rfl (Nat.le_of_ble_eq_true rfl) dX6_undo_36 ⟨Nat.zero_le _, Nat.zero_le _⟩ (fun I13 H13 L13 eI13 hW hS => ?_)
    have eI13 : I13 = dkCp I9 349 346 v11.toNatClampNeg 0 := eI13
    have hO := dkO_cp hO eI13 (by decide) (by decide) (dkZ_mul ev11 dv10 rfl) (by decide)
    have hF := dkF_cp (lo := 0) (hi := 0) hF eI13 ⟨by decide, by decide⟩ rfl
    have hpn := dkPP_undoN hP dv6 ev6 ev7 eI9 ev10 ev11 eI13 rfl
    have hP := dkPP_undo hP dv6 ev6 ev7 eI9 ev10 ev11 eI13 rfl
    refine lv_aload_n hx hb dX6_undo_39 rfl (lv_at hl 0 rfl) ?_
    refine dk_get (k := 340) hx hb hts iX6_undo_6 hown hK (dk_at340 hW) rfl 17 (by decide) (hts (.fieldLink RX6 142 "DogKingsModel" "acts" "I") (List.mem_of_getElem? (i := 1) rfl)) rfl dX6_undo_40 ?_
    refine lv_topi (fun v14 ev14 => ?_)
    have dv14 : dkN [(0, 23)] v14 := by rw [ev14]; exact (by rw [(dkCp_n eI13 (by decide))]; exact (by rw [eI9, dkU_ss]; exact dv7))
    have xv14 : v14 = (I0 340 17) - (1 : Int32) := ev14.trans ((dkCp_n eI13 (by decide)).trans (by rw [eI9, dkU_ss, xv7]))
    exact W.iret (v := v14) hx hb hr (fun t ht hW9 => ⟨⟨v14, I13, rfl, ⟨hF, hO, hP, ⟨dkN_sub dv14 rfl, (show dkN [(0, 23)] (I13 340 17) from dkN_sub (by rw [(dkCp_n eI13 (by decide))]; exact (by rw [eI9, dkU_ss]; exact dv7)) rfl), (fun j hj hs => (congrFun rfl j).trans (hpn j hj hs)), trivial⟩⟩, dkW_eq ht hW⟩, hS.F ht⟩) hS.2.2 dX6_undo_43
  ·
    have q15 : (I0 340 17).toInt = (0 : Int) := by first | (rw [← xv1]; exact (congrArg Int32.toInt c2)) | (subst xv1; exact (congrArg Int32.toInt c2))
    have d16 : dkN [(0, 0)] v1 := dkN_eq1 dv1 (dkN_lit (x := 0) (0) rfl) (congrArg Int32.toInt c2) rfl
    have f17 : dkN [(0, 0)] (I0 340 17) := by rw [← ev1]; exact d16
    refine lv_ldc (v := (-1000002)) hx hb hown (hts (.constant RX6 185 (-1000002)) (List.mem_of_getElem? (i := 2) rfl)) dX6_undo_7 ?_
    exact W.iret (v := (-1000002)) hx hb hr (fun t ht hW9 => ⟨⟨(-1000002), I0, rfl, ⟨hF, hO, hP, ⟨dkN_sub (dkN_lit (x := (-1000002)) (-1000002) rfl) rfl, (show dkN [(0, 23)] (I0 340 17) from dkN_sub f17 rfl), (fun j _ _ => congrFun rfl j), trivial⟩⟩, dkW_eq ht hW⟩, hS.F ht⟩) hS.2.2 dX6_undo_9
set_option maxHeartbeats 4000000 in
set_option maxRecDepth 100000 in
theorem fx_X5_isUpTo_9 (l : Launch) (g : dkG) (z : Nat) (I0 : dkI) (p0 : Int32) (p1 : Int32) (dp0 : dkN [(-2147483648, -1)] p0) (dp1 : dkN [(1, 1)] p1)  (hO : dkOk I0) : Met l yX5_isUpTo wsX5_isUpTo (dkR 0) (dkPc g z [.int p0, .int p1] I0) (dkQi g z (fun r I1 => dkF [] I0 I1 ∧ dkOk I1 ∧ ((dkN [(0, 0)] r ∧ p0.toInt + 1 ≤ (0 : Int) ∧ r = 0 ∧ True)))) 0 0 (dkA z) := by
  refine Met.ofW (cc := cX5_isUpTo) (maxL := 2) (ret := (some .boolean)) (by decide) rfl ?_
  intro p e s m args below meth c s₁ B hml hv
  obtain ⟨ha, hW, hK, hT⟩ := hv
  have hx := B.exec
  have hb := B.bytes
  have hr := B.returns
  have hts := atoms_spec (ws := wsX5_isUpTo) B.pre
  have hown : s.vm.findClass RX5 = some m.cls := findClass_of_methodNamed B.named
  have hlocks := B.notSynchronized
  have hS : va_S (dkA z) s.heap s.heap [] := va_S.rf
  have hF : dkF [] I0 I0 := dkF_rf _ _
  have hl := lv_entry ([.int p0, .int p1]) (n := 2) (Nat.le_of_ble_eq_true rfl)
  have hgo : entryFrame m args 2 = entryFrame m ([.int p0, .int p1] : List Value).toArray 2 := by rw [ha]
  rw [hgo, lg_entry_eq]
  generalize (lg_sl ([.int p0, .int p1]) ++ List.replicate (2 - (lg_sl ([.int p0, .int p1])).length) Slot.unset).toArray = ls at hl ⊢
  have hl : lv_has ls 2 [(0, .int p0), (1, .int p1)] := hl
  refine lv_iload_n hx hb dX5_isUpTo_0 rfl (lv_at hl 0 rfl) ?_
  refine lv_if_lt (tgt := 13) hx hb dX5_isUpTo_1 (by decide) (fun c1 => ?_) (fun c1 => ?_)
  ·
    have q2 : p0.toInt + 1 ≤ (0 : Int) := (dkc_lt c1)
    refine lv_iconst (v := 0) hx hb dX5_isUpTo_13 (by decide) ?_
    exact W.zret (v := 0) (ty := .boolean) hx hb hr rfl (fun t ht hW9 => ⟨⟨0, I0, rfl, ⟨hF, hO, ⟨dkN_sub (dkN_lit (x := 0) (0) rfl) rfl, q2, rfl, trivial⟩⟩, dkW_eq ht hW⟩, hS.F ht⟩) hS.2.2 dX5_isUpTo_14
  ·
    exact (dkN_nil (show dkN [] p0 from dkN_le2 0 (dkN_lit (x := 0) (0) rfl) dp0 (dkc_nlt c1) rfl)).elim
set_option maxHeartbeats 4000000 in
set_option maxRecDepth 100000 in
theorem fx_X5_image_1 (l : Launch) (g : dkG) (z : Nat) (I0 : dkI) (p0 : Int32) (dp0 : dkN [(-2147483648, -1)] p0)  (hO : dkOk I0) : Met l yX5_image wsX5_image (dkR 1) (dkPc g z [.ref (z + 0), .int p0] I0) (dkQi g z (fun r I1 => dkF [] I0 I1 ∧ dkOk I1 ∧ ((dkN [(-1000001, -1000001)] r ∧ p0.toInt + 1 ≤ (0 : Int) ∧ r = (-1000001) ∧ I1 37 0 = I0 37 0 ∧ I1 37 4 = I0 37 4 ∧ I1 37 11 = I0 37 11 ∧ I1 48 0 = I0 48 0 ∧ I1 48 4 = I0 48 4 ∧ I1 48 11 = I0 48 11 ∧ I1 44  = I0 44 ∧ I1 55  = I0 55 ∧ True)))) 0 0 (dkA z) := by
  refine Met.ofW (cc := cX5_image) (maxL := 2) (ret := (some .int)) (by decide) rfl ?_
  intro p e s m args below meth c s₁ B hml hv
  obtain ⟨ha, hW, hK, hT⟩ := hv
  have hx := B.exec
  have hb := B.bytes
  have hr := B.returns
  have hts := atoms_spec (ws := wsX5_image) B.pre
  have hown : s.vm.findClass RX5 = some m.cls := findClass_of_methodNamed B.named
  have hlocks := B.notSynchronized
  have hS : va_S (dkA z) s.heap s.heap [] := va_S.rf
  have hF : dkF [] I0 I0 := dkF_rf _ _
  have hl := lv_entry ([.ref (z + 0), .int p0]) (n := 2) (Nat.le_of_ble_eq_true rfl)
  have hgo : entryFrame m args 2 = entryFrame m ([.ref (z + 0), .int p0] : List Value).toArray 2 := by rw [ha]
  rw [hgo, lg_entry_eq]
  generalize (lg_sl ([.ref (z + 0), .int p0]) ++ List.replicate (2 - (lg_sl ([.ref (z + 0), .int p0])).length) Slot.unset).toArray = ls at hl ⊢
  have hl : lv_has ls 2 [(0, .ref (z + 0)), (1, .int p0)] := hl
  refine lv_iload_n hx hb dX5_image_0 rfl (lv_at hl 1 rfl) ?_
  refine lv_iconst (v := 1) hx hb dX5_image_1 (by decide) ?_
  refine dk_Si (As := [.int p0, .int 1]) (rest := []) ⟨hx, hb, hml, hown, hts⟩ (fx_X5_isUpTo_9 l g z I0 p0 1 dp0 (dkN_lit (x := 1) (1) rfl) hO) (va_cwS 2 hts gX5_image_X5_isUpTo rfl rfl rfl (by decide +kernel) ⟨Nat.le_of_ble_eq_true rfl, Nat.le_of_ble_eq_true rfl⟩) hK hT hW hS rfl hl.1 rfl (Nat.le_of_ble_eq_true rfl) dX5_image_2 ⟨Nat.zero_le _, Nat.zero_le _⟩ (fun v1 I1 H1 L1 hp1 hW hS => ?_)
  obtain ⟨hF1, hO, hc1⟩ := hp1
  have hF := dkF_call hF hF1 rfl
  have eI1 : I0 = I1 := (dkF_nil hF1).symm
  subst eI1
  obtain ⟨dv1, x1_0, xr1, -⟩ := hc1
  have q2 : p0.toInt + 1 ≤ (0 : Int) := x1_0
  have xv1 : v1 = 0 := by have h := xr1; exact h
  refine lv_if_ne (tgt := 11) hx hb dX5_image_5 (by decide) (fun c3 => ?_) (fun c3 => ?_)
  ·
    exact absurd ((xv1).trans (rfl).symm) c3
  ·
    refine lv_ldc (v := (-1000001)) hx hb hown (hts (.constant RX5 70 (-1000001)) (List.mem_of_getElem? (i := 1) rfl)) dX5_image_8 ?_
    exact W.iret (v := (-1000001)) hx hb hr (fun t ht hW9 => ⟨⟨(-1000001), I0, rfl, ⟨hF, hO, ⟨dkN_sub (dkN_lit (x := (-1000001)) (-1000001) rfl) rfl, q2, rfl, rfl, rfl, rfl, rfl, rfl, rfl, rfl, rfl, trivial⟩⟩, dkW_eq ht hW⟩, hS.F ht⟩) hS.2.2 dX5_image_10
set_option maxHeartbeats 4000000 in
set_option maxRecDepth 100000 in
theorem fx_X6_in_33 (l : Launch) (g : dkG) (z : Nat) (I0 : dkI) (p0 : Int32) (p1 : Int32) (p2 : Int32) (dp0 : dkN [(-2147483648, -1)] p0) (dp1 : dkN [(0, 0)] p1) (dp2 : dkN [(1, 1)] p2)  (hO : dkOk I0) : Met l yX6_in wsX6_in (dkR 0) (dkPc g z [.int p0, .int p1, .int p2] I0) (dkQi g z (fun r I1 => dkF [] I0 I1 ∧ dkOk I1 ∧ ((dkN [(0, 0)] r ∧ p0.toInt + 1 ≤ p1.toInt ∧ r = 0 ∧ True)))) 0 0 (dkA z) := by
  refine Met.ofW (cc := cX6_in) (maxL := 3) (ret := (some .boolean)) (by decide) rfl ?_
  intro p e s m args below meth c s₁ B hml hv
  obtain ⟨ha, hW, hK, hT⟩ := hv
  have hx := B.exec
  have hb := B.bytes
  have hr := B.returns
  have hts := atoms_spec (ws := wsX6_in) B.pre
  have hown : s.vm.findClass RX6 = some m.cls := findClass_of_methodNamed B.named
  have hlocks := B.notSynchronized
  have hS : va_S (dkA z) s.heap s.heap [] := va_S.rf
  have hF : dkF [] I0 I0 := dkF_rf _ _
  have hl := lv_entry ([.int p0, .int p1, .int p2]) (n := 3) (Nat.le_of_ble_eq_true rfl)
  have hgo : entryFrame m args 3 = entryFrame m ([.int p0, .int p1, .int p2] : List Value).toArray 3 := by rw [ha]
  rw [hgo, lg_entry_eq]
  generalize (lg_sl ([.int p0, .int p1, .int p2]) ++ List.replicate (3 - (lg_sl ([.int p0, .int p1, .int p2])).length) Slot.unset).toArray = ls at hl ⊢
  have hl : lv_has ls 3 [(0, .int p0), (1, .int p1), (2, .int p2)] := hl
  refine lv_iload_n hx hb dX6_in_0 rfl (lv_at hl 0 rfl) ?_
  refine lv_iload_n hx hb dX6_in_1 rfl (lv_at hl 1 rfl) ?_
  refine lv_icmp_lt (tgt := 14) hx hb dX6_in_2 (by decide) (fun c1 => ?_) (fun c1 => ?_)
  ·
    have q2 : p0.toInt + 1 ≤ p1.toInt := (dkc_lt c1)
    refine lv_iconst (v := 0) hx hb dX6_in_14 (by decide) ?_
    exact W.zret (v := 0) (ty := .boolean) hx hb hr rfl (fun t ht hW9 => ⟨⟨0, I0, rfl, ⟨hF, hO, ⟨dkN_sub (dkN_lit (x := 0) (0) rfl) rfl, q2, rfl, trivial⟩⟩, dkW_eq ht hW⟩, hS.F ht⟩) hS.2.2 dX6_in_15
  ·
    exact (dkN_nil (show dkN [] p0 from dkN_le2 0 dp1 dp0 (dkc_nlt c1) rfl)).elim
set_option maxHeartbeats 4000000 in
set_option maxRecDepth 100000 in
theorem fx_X6_image_1 (l : Launch) (g : dkG) (z : Nat) (I0 : dkI) (p0 : Int32) (dp0 : dkN [(-2147483648, -1)] p0)  (hO : dkOk I0) (hP : dkPP I0) : Met l yX6_image wsX6_image (dkR 1) (dkPc g z [.ref (z + 340), .int p0] I0) (dkQi g z (fun r I1 => dkF [] I0 I1 ∧ dkOk I1 ∧ dkPP I1 ∧ ((dkN [(-1000001, -1000001)] r ∧ p0.toInt + 1 ≤ (0 : Int) ∧ r = (-1000001) ∧ I1 350 0 = I0 350 0 ∧ I1 350 4 = I0 350 4 ∧ I1 350 5 = I0 350 5 ∧ I1 350 36 = I0 350 36 ∧ I1 350 39 = I0 350 39 ∧ I1 350 42 = I0 350 42 ∧ I1 350 45 = I0 350 45 ∧ I1 350 48 = I0 350 48 ∧ I1 350 51 = I0 350 51 ∧ I1 350 54 = I0 350 54 ∧ I1 350 58 = I0 350 58 ∧ I1 350 59 = I0 350 59 ∧ I1 350 90 = I0 350 90 ∧ I1 350 93 = I0 350 93 ∧ I1 350 96 = I0 350 96 ∧ I1 350 99 = I0 350 99 ∧ I1 350 102 = I0 350 102 ∧ I1 350 105 = I0 350 105 ∧ I1 351 0 = I0 351 0 ∧ I1 351 1 = I0 351 1 ∧ I1 350  = I0 350 ∧ True)))) 0 0 (dkA z) := by
  refine Met.ofW (cc := cX6_image) (maxL := 2) (ret := (some .int)) (by decide) rfl ?_
  intro p e s m args below meth c s₁ B hml hv
  obtain ⟨ha, hW, hK, hT⟩ := hv
  have hx := B.exec
  have hb := B.bytes
  have hr := B.returns
  have hts := atoms_spec (ws := wsX6_image) B.pre
  have hown : s.vm.findClass RX6 = some m.cls := findClass_of_methodNamed B.named
  have hlocks := B.notSynchronized
  have hS : va_S (dkA z) s.heap s.heap [] := va_S.rf
  have hF : dkF [] I0 I0 := dkF_rf _ _
  have hl := lv_entry ([.ref (z + 340), .int p0]) (n := 2) (Nat.le_of_ble_eq_true rfl)
  have hgo : entryFrame m args 2 = entryFrame m ([.ref (z + 340), .int p0] : List Value).toArray 2 := by rw [ha]
  rw [hgo, lg_entry_eq]
  generalize (lg_sl ([.ref (z + 340), .int p0]) ++ List.replicate (2 - (lg_sl ([.ref (z + 340), .int p0])).length) Slot.unset).toArray = ls at hl ⊢
  have hl : lv_has ls 2 [(0, .ref (z + 340)), (1, .int p0)] := hl
  refine lv_iload_n hx hb dX6_image_0 rfl (lv_at hl 1 rfl) ?_
  refine lv_iconst (v := 0) hx hb dX6_image_1 (by decide) ?_
  refine lv_iconst (v := 1) hx hb dX6_image_2 (by decide) ?_
  refine dk_Si (As := [.int p0, .int 0, .int 1]) (rest := []) ⟨hx, hb, hml, hown, hts⟩ (fx_X6_in_33 l g z I0 p0 0 1 dp0 (dkN_lit (x := 0) (0) rfl) (dkN_lit (x := 1) (1) rfl) hO) (va_cwS 3 hts gX6_image_X6_in rfl rfl rfl (by decide +kernel) ⟨Nat.le_of_ble_eq_true rfl, Nat.le_of_ble_eq_true rfl⟩) hK hT hW hS rfl hl.1 rfl (Nat.le_of_ble_eq_true rfl) dX6_image_3 ⟨Nat.zero_le _, Nat.zero_le _⟩ (fun v1 I1 H1 L1 hp1 hW hS => ?_)
  obtain ⟨hF1, hO, hc1⟩ := hp1
  have hF := dkF_call hF hF1 rfl
  have hP := dkPP_F hP hF1 rfl
  have eI1 : I0 = I1 := (dkF_nil hF1).symm
  subst eI1
  obtain ⟨dv1, x1_0, xr1, -⟩ := hc1
  have q2 : p0.toInt + 1 ≤ (0 : Int) := x1_0
  have xv1 : v1 = 0 := by have h := xr1; exact h
  refine lv_if_ne (tgt := 12) hx hb dX6_image_6 (by decide) (fun c3 => ?_) (fun c3 => ?_)
  ·
    exact absurd ((xv1).trans (rfl).symm) c3
  ·
    refine lv_ldc (v := (-1000001)) hx hb hown (hts (.constant RX6 64 (-1000001)) (List.mem_of_getElem? (i := 1) rfl)) dX6_image_9 ?_
    exact W.iret (v := (-1000001)) hx hb hr (fun t ht hW9 => ⟨⟨(-1000001), I0, rfl, ⟨hF, hO, hP, ⟨dkN_sub (dkN_lit (x := (-1000001)) (-1000001) rfl) rfl, q2, rfl, rfl, rfl, rfl, rfl, rfl, rfl, rfl, rfl, rfl, rfl, rfl, rfl, rfl, rfl, rfl, rfl, rfl, rfl, rfl, rfl, rfl, trivial⟩⟩, dkW_eq ht hW⟩, hS.F ht⟩) hS.2.2 dX6_image_11
set_option maxHeartbeats 4000000 in
set_option maxRecDepth 100000 in
theorem fx_X5_restore_1 (l : Launch) (g : dkG) (z : Nat) (I0 : dkI) (p0 : Int32) (dp0 : dkN [(-2147483648, -1)] p0)  (hO : dkOk I0) (hP : dkQQ I0) : Met l yX5_restore wsX5_restore (dkR 1) (dkPc g z [.ref (z + 0), .int p0] I0) (dkQi g z (fun r I1 => dkF [] I0 I1 ∧ dkOk I1 ∧ dkQQ I1 ∧ ((dkN [(-1000001, -1000001)] r ∧ p0.toInt + 1 ≤ (0 : Int) ∧ r = (-1000001) ∧ I1 25 0 = I0 25 0 ∧ I1 25 4 = I0 25 4 ∧ I1 25 11 = I0 25 11 ∧ I1 59 2 = I0 59 2 ∧ I1 32  = I0 32 ∧ True)))) 0 0 (dkA z) := by
  refine Met.ofW (cc := cX5_restore) (maxL := 2) (ret := (some .int)) (by decide) rfl ?_
  intro p e s m args below meth c s₁ B hml hv
  obtain ⟨ha, hW, hK, hT⟩ := hv
  have hx := B.exec
  have hb := B.bytes
  have hr := B.returns
  have hts := atoms_spec (ws := wsX5_restore) B.pre
  have hown : s.vm.findClass RX5 = some m.cls := findClass_of_methodNamed B.named
  have hlocks := B.notSynchronized
  have hS : va_S (dkA z) s.heap s.heap [] := va_S.rf
  have hF : dkF [] I0 I0 := dkF_rf _ _
  have hl := lv_entry ([.ref (z + 0), .int p0]) (n := 2) (Nat.le_of_ble_eq_true rfl)
  have hgo : entryFrame m args 2 = entryFrame m ([.ref (z + 0), .int p0] : List Value).toArray 2 := by rw [ha]
  rw [hgo, lg_entry_eq]
  generalize (lg_sl ([.ref (z + 0), .int p0]) ++ List.replicate (2 - (lg_sl ([.ref (z + 0), .int p0])).length) Slot.unset).toArray = ls at hl ⊢
  have hl : lv_has ls 2 [(0, .ref (z + 0)), (1, .int p0)] := hl
  refine lv_iload_n hx hb dX5_restore_0 rfl (lv_at hl 1 rfl) ?_
  refine lv_iconst (v := 1) hx hb dX5_restore_1 (by decide) ?_
  refine dk_Si (As := [.int p0, .int 1]) (rest := []) ⟨hx, hb, hml, hown, hts⟩ (fx_X5_isUpTo_9 l g z I0 p0 1 dp0 (dkN_lit (x := 1) (1) rfl) hO) (va_cwS 2 hts gX5_restore_X5_isUpTo rfl rfl rfl (by decide +kernel) ⟨Nat.le_of_ble_eq_true rfl, Nat.le_of_ble_eq_true rfl⟩) hK hT hW hS rfl hl.1 rfl (Nat.le_of_ble_eq_true rfl) dX5_restore_2 ⟨Nat.zero_le _, Nat.zero_le _⟩ (fun v1 I1 H1 L1 hp1 hW hS => ?_)
  obtain ⟨hF1, hO, hc1⟩ := hp1
  have hF := dkF_call hF hF1 rfl
  have hP := dkQQ_F hP hF1 rfl
  have eI1 : I0 = I1 := (dkF_nil hF1).symm
  subst eI1
  obtain ⟨dv1, x1_0, xr1, -⟩ := hc1
  have q2 : p0.toInt + 1 ≤ (0 : Int) := x1_0
  have xv1 : v1 = 0 := by have h := xr1; exact h
  refine lv_if_ne (tgt := 11) hx hb dX5_restore_5 (by decide) (fun c3 => ?_) (fun c3 => ?_)
  ·
    exact absurd ((xv1).trans (rfl).symm) c3
  ·
    refine lv_ldc (v := (-1000001)) hx hb hown (hts (.constant RX5 70 (-1000001)) (List.mem_of_getElem? (i := 1) rfl)) dX5_restore_8 ?_
    exact W.iret (v := (-1000001)) hx hb hr (fun t ht hW9 => ⟨⟨(-1000001), I0, rfl, ⟨hF, hO, hP, ⟨dkN_sub (dkN_lit (x := (-1000001)) (-1000001) rfl) rfl, q2, rfl, rfl, rfl, rfl, rfl, rfl, trivial⟩⟩, dkW_eq ht hW⟩, hS.F ht⟩) hS.2.2 dX5_restore_10
set_option maxHeartbeats 4000000 in
set_option maxRecDepth 100000 in
theorem fx_X6_restore_1 (l : Launch) (g : dkG) (z : Nat) (I0 : dkI) (p0 : Int32) (dp0 : dkN [(-2147483648, -1)] p0)  (hO : dkOk I0) (hP : dkPP I0) : Met l yX6_restore wsX6_restore (dkR 1) (dkPc g z [.ref (z + 340), .int p0] I0) (dkQi g z (fun r I1 => dkF [] I0 I1 ∧ dkOk I1 ∧ dkPP I1 ∧ ((dkN [(-1000001, -1000001)] r ∧ p0.toInt + 1 ≤ (0 : Int) ∧ r = (-1000001) ∧ I1 346 0 = I0 346 0 ∧ I1 346 4 = I0 346 4 ∧ I1 346 5 = I0 346 5 ∧ I1 346 36 = I0 346 36 ∧ I1 346 39 = I0 346 39 ∧ I1 346 42 = I0 346 42 ∧ I1 346 45 = I0 346 45 ∧ I1 346 48 = I0 346 48 ∧ I1 346 51 = I0 346 51 ∧ I1 340 17 = I0 340 17 ∧ I1 346  = I0 346 ∧ True)))) 0 0 (dkA z) := by
  refine Met.ofW (cc := cX6_restore) (maxL := 2) (ret := (some .int)) (by decide) rfl ?_
  intro p e s m args below meth c s₁ B hml hv
  obtain ⟨ha, hW, hK, hT⟩ := hv
  have hx := B.exec
  have hb := B.bytes
  have hr := B.returns
  have hts := atoms_spec (ws := wsX6_restore) B.pre
  have hown : s.vm.findClass RX6 = some m.cls := findClass_of_methodNamed B.named
  have hlocks := B.notSynchronized
  have hS : va_S (dkA z) s.heap s.heap [] := va_S.rf
  have hF : dkF [] I0 I0 := dkF_rf _ _
  have hl := lv_entry ([.ref (z + 340), .int p0]) (n := 2) (Nat.le_of_ble_eq_true rfl)
  have hgo : entryFrame m args 2 = entryFrame m ([.ref (z + 340), .int p0] : List Value).toArray 2 := by rw [ha]
  rw [hgo, lg_entry_eq]
  generalize (lg_sl ([.ref (z + 340), .int p0]) ++ List.replicate (2 - (lg_sl ([.ref (z + 340), .int p0])).length) Slot.unset).toArray = ls at hl ⊢
  have hl : lv_has ls 2 [(0, .ref (z + 340)), (1, .int p0)] := hl
  refine lv_iload_n hx hb dX6_restore_0 rfl (lv_at hl 1 rfl) ?_
  refine lv_iconst (v := 0) hx hb dX6_restore_1 (by decide) ?_
  refine lv_iconst (v := 1) hx hb dX6_restore_2 (by decide) ?_
  refine dk_Si (As := [.int p0, .int 0, .int 1]) (rest := []) ⟨hx, hb, hml, hown, hts⟩ (fx_X6_in_33 l g z I0 p0 0 1 dp0 (dkN_lit (x := 0) (0) rfl) (dkN_lit (x := 1) (1) rfl) hO) (va_cwS 3 hts gX6_restore_X6_in rfl rfl rfl (by decide +kernel) ⟨Nat.le_of_ble_eq_true rfl, Nat.le_of_ble_eq_true rfl⟩) hK hT hW hS rfl hl.1 rfl (Nat.le_of_ble_eq_true rfl) dX6_restore_3 ⟨Nat.zero_le _, Nat.zero_le _⟩ (fun v1 I1 H1 L1 hp1 hW hS => ?_)
  obtain ⟨hF1, hO, hc1⟩ := hp1
  have hF := dkF_call hF hF1 rfl
  have hP := dkPP_F hP hF1 rfl
  have eI1 : I0 = I1 := (dkF_nil hF1).symm
  subst eI1
  obtain ⟨dv1, x1_0, xr1, -⟩ := hc1
  have q2 : p0.toInt + 1 ≤ (0 : Int) := x1_0
  have xv1 : v1 = 0 := by have h := xr1; exact h
  refine lv_if_ne (tgt := 12) hx hb dX6_restore_6 (by decide) (fun c3 => ?_) (fun c3 => ?_)
  ·
    exact absurd ((xv1).trans (rfl).symm) c3
  ·
    refine lv_ldc (v := (-1000001)) hx hb hown (hts (.constant RX6 64 (-1000001)) (List.mem_of_getElem? (i := 1) rfl)) dX6_restore_9 ?_
    exact W.iret (v := (-1000001)) hx hb hr (fun t ht hW9 => ⟨⟨(-1000001), I0, rfl, ⟨hF, hO, hP, ⟨dkN_sub (dkN_lit (x := (-1000001)) (-1000001) rfl) rfl, q2, rfl, rfl, rfl, rfl, rfl, rfl, rfl, rfl, rfl, rfl, rfl, rfl, trivial⟩⟩, dkW_eq ht hW⟩, hS.F ht⟩) hS.2.2 dX6_restore_11
set_option maxHeartbeats 4000000 in
set_option maxRecDepth 100000 in
theorem fx_X5_isUpTo_10 (l : Launch) (g : dkG) (z : Nat) (I0 : dkI) (p0 : Int32) (p1 : Int32) (dp0 : dkN [(0, 0)] p0) (dp1 : dkN [(1, 1)] p1)  (hO : dkOk I0) : Met l yX5_isUpTo wsX5_isUpTo (dkR 0) (dkPc g z [.int p0, .int p1] I0) (dkQi g z (fun r I1 => dkF [] I0 I1 ∧ dkOk I1 ∧ ((dkN [(1, 1)] r ∧ (0 : Int) + 0 ≤ p0.toInt ∧ p0.toInt + 0 ≤ p1.toInt ∧ r = 1 ∧ True)))) 0 0 (dkA z) := by
  refine Met.ofW (cc := cX5_isUpTo) (maxL := 2) (ret := (some .boolean)) (by decide) rfl ?_
  intro p e s m args below meth c s₁ B hml hv
  obtain ⟨ha, hW, hK, hT⟩ := hv
  have hx := B.exec
  have hb := B.bytes
  have hr := B.returns
  have hts := atoms_spec (ws := wsX5_isUpTo) B.pre
  have hown : s.vm.findClass RX5 = some m.cls := findClass_of_methodNamed B.named
  have hlocks := B.notSynchronized
  have hS : va_S (dkA z) s.heap s.heap [] := va_S.rf
  have hF : dkF [] I0 I0 := dkF_rf _ _
  have hl := lv_entry ([.int p0, .int p1]) (n := 2) (Nat.le_of_ble_eq_true rfl)
  have hgo : entryFrame m args 2 = entryFrame m ([.int p0, .int p1] : List Value).toArray 2 := by rw [ha]
  rw [hgo, lg_entry_eq]
  generalize (lg_sl ([.int p0, .int p1]) ++ List.replicate (2 - (lg_sl ([.int p0, .int p1])).length) Slot.unset).toArray = ls at hl ⊢
  have hl : lv_has ls 2 [(0, .int p0), (1, .int p1)] := hl
  refine lv_iload_n hx hb dX5_isUpTo_0 rfl (lv_at hl 0 rfl) ?_
  refine lv_if_lt (tgt := 13) hx hb dX5_isUpTo_1 (by decide) (fun c1 => ?_) (fun c1 => ?_)
  ·
    exact (dkN_nil (show dkN [] p0 from dkN_le1 1 dp0 (dkN_lit (x := 0) (0) rfl) (dkc_lt c1) rfl)).elim
  ·
    have q2 : (0 : Int) + 0 ≤ p0.toInt := (dkc_nlt c1)
    refine lv_iload_n hx hb dX5_isUpTo_4 rfl (lv_at hl 0 rfl) ?_
    refine lv_iload_n hx hb dX5_isUpTo_5 rfl (lv_at hl 1 rfl) ?_
    refine lv_icmp_gt (tgt := 13) hx hb dX5_isUpTo_6 (by decide) (fun c3 => ?_) (fun c3 => ?_)
    ·
      exact (dkN_nil (show dkN [] p1 from dkN_le1 1 dp1 dp0 (dkc_lt c3) rfl)).elim
    ·
      have q4 : p0.toInt + 0 ≤ p1.toInt := (dkc_nlt c3)
      refine lv_iconst (v := 1) hx hb dX5_isUpTo_9 (by decide) ?_
      refine lv_goto (tgt := 14) hx hb dX5_isUpTo_10 (by decide) ?_
      exact W.zret (v := 1) (ty := .boolean) hx hb hr rfl (fun t ht hW9 => ⟨⟨1, I0, rfl, ⟨hF, hO, ⟨dkN_sub (dkN_lit (x := 1) (1) rfl) rfl, q2, q4, rfl, trivial⟩⟩, dkW_eq ht hW⟩, hS.F ht⟩) hS.2.2 dX5_isUpTo_14
set_option maxHeartbeats 4000000 in
set_option maxRecDepth 100000 in
theorem fx_X4_stands_1 (l : Launch) (g : dkG) (z : Nat) (I0 : dkI) (t0 : Nat) (ht0 : dkT t0)  (hO : dkOk I0) : Met l yX4_stands wsX4_stands (dkR 0) (dkPc g z [.ref (z + t0)] I0) (dkQi g z (fun r I1 => dkF [] I0 I1 ∧ dkOk I1 ∧ ((dkN [(0, 0)] r ∧ dkN [(0, 0)] (I1 t0 0) ∧ (I0 t0 0).toInt + 0 ≤ (0 : Int) ∧ r = 0 ∧ True) ∨ (dkN [(1, 1)] r ∧ dkN [(1, 9)] (I1 t0 0) ∧ (0 : Int) + 1 ≤ (I0 t0 0).toInt ∧ r = 1 ∧ True)))) 0 0 (dkA z) := by
  refine Met.ofW (cc := cX4_stands) (maxL := 1) (ret := (some .boolean)) (by decide) rfl ?_
  intro p e s m args below meth c s₁ B hml hv
  obtain ⟨ha, hW, hK, hT⟩ := hv
  have hx := B.exec
  have hb := B.bytes
  have hr := B.returns
  have hts := atoms_spec (ws := wsX4_stands) B.pre
  have hown : s.vm.findClass RX4 = some m.cls := findClass_of_methodNamed B.named
  have hlocks := B.notSynchronized
  have hS : va_S (dkA z) s.heap s.heap [] := va_S.rf
  have hF : dkF [] I0 I0 := dkF_rf _ _
  have hl := lv_entry ([.ref (z + t0)]) (n := 1) (Nat.le_of_ble_eq_true rfl)
  have hgo : entryFrame m args 1 = entryFrame m ([.ref (z + t0)] : List Value).toArray 1 := by rw [ha]
  rw [hgo, lg_entry_eq]
  generalize (lg_sl ([.ref (z + t0)]) ++ List.replicate (1 - (lg_sl ([.ref (z + t0)])).length) Slot.unset).toArray = ls at hl ⊢
  have hl : lv_has ls 1 [(0, .ref (z + t0))] := hl
  refine lv_aload_n hx hb dX4_stands_0 rfl (lv_at hl 0 rfl) ?_
  refine dk_get (k := t0) hx hb hts iX4_stands_4 hown hK (dk_aT0 ht0 hW) rfl 0 (by decide) (hts (.fieldLink RX4 42 "DogKings$Town" "places" "I") (List.mem_of_getElem? (i := 1) rfl)) rfl dX4_stands_1 ?_
  refine lv_topi (fun v1 ev1 => ?_)
  have dv1 : dkN [(0, 9)] v1 := by rw [ev1]; exact (dkO_at hO ht0 (c := 0) (by decide) 0)
  have xv1 : v1 = I0 t0 0 := ev1.trans rfl
  refine lv_if_le (tgt := 11) hx hb dX4_stands_4 (by decide) (fun c2 => ?_) (fun c2 => ?_)
  ·
    have q3 : (I0 t0 0).toInt + 0 ≤ (0 : Int) := by first | (rw [← xv1]; exact (dkc_le c2)) | (subst xv1; exact (dkc_le c2))
    have d4 : dkN [(0, 0)] v1 := dkN_le1 0 dv1 (dkN_lit (x := 0) (0) rfl) (dkc_le c2) rfl
    have f5 : dkN [(0, 0)] (I0 t0 0) := by rw [← ev1]; exact d4
    refine lv_iconst (v := 0) hx hb dX4_stands_11 (by decide) ?_
    exact W.zret (v := 0) (ty := .boolean) hx hb hr rfl (fun t ht hW9 => ⟨⟨0, I0, rfl, ⟨hF, hO, Or.inl ⟨dkN_sub (dkN_lit (x := 0) (0) rfl) rfl, (show dkN [(0, 0)] (I0 t0 0) from dkN_sub f5 rfl), q3, rfl, trivial⟩⟩, dkW_eq ht hW⟩, hS.F ht⟩) hS.2.2 dX4_stands_12
  ·
    have q6 : (0 : Int) + 1 ≤ (I0 t0 0).toInt := by first | (rw [← xv1]; exact (dkc_nle c2)) | (subst xv1; exact (dkc_nle c2))
    have d7 : dkN [(1, 9)] v1 := dkN_le2 1 (dkN_lit (x := 0) (0) rfl) dv1 (dkc_nle c2) rfl
    have f8 : dkN [(1, 9)] (I0 t0 0) := by rw [← ev1]; exact d7
    refine lv_iconst (v := 1) hx hb dX4_stands_7 (by decide) ?_
    refine lv_goto (tgt := 12) hx hb dX4_stands_8 (by decide) ?_
    exact W.zret (v := 1) (ty := .boolean) hx hb hr rfl (fun t ht hW9 => ⟨⟨1, I0, rfl, ⟨hF, hO, Or.inr (⟨dkN_sub (dkN_lit (x := 1) (1) rfl) rfl, (show dkN [(1, 9)] (I0 t0 0) from dkN_sub f8 rfl), q6, rfl, trivial⟩)⟩, dkW_eq ht hW⟩, hS.F ht⟩) hS.2.2 dX4_stands_12
set_option maxHeartbeats 4000000 in
set_option maxRecDepth 100000 in
theorem fx_X5_image_2 (l : Launch) (g : dkG) (z : Nat) (I0 : dkI) (p0 : Int32) (dp0 : dkN [(0, 0)] p0)  (hO : dkOk I0) : Met l yX5_image wsX5_image (dkR 1) (dkPc g z [.ref (z + 0), .int p0] I0) (dkQi g z (fun r I1 => dkF [(37, 37, 0, 4), (37, 37, 11, 11), (37, 37, 15, 17), (38, 38, 0, 4), (39, 39, 0, 4), (40, 40, 0, 4), (41, 41, 0, 4), (42, 42, 0, 4), (43, 43, 0, 4), (44, 44, 0, 5), (45, 45, 0, 5), (46, 46, 0, 5)] I0 I1 ∧ dkOk I1 ∧ ((dkN [(-1000002, -1000002)] r ∧ dkN [(0, 0)] (I1 25 0) ∧ (I0 25 0).toInt + 0 ≤ (0 : Int) ∧ r = (-1000002) ∧ I1 37 0 = I0 37 0 ∧ I1 37 4 = I0 37 4 ∧ I1 37 11 = I0 37 11 ∧ I1 48 0 = I0 48 0 ∧ I1 48 4 = I0 48 4 ∧ I1 48 11 = I0 48 11 ∧ I1 44  = I0 44 ∧ I1 55  = I0 55 ∧ True) ∨ (dkN [(1, 1)] r ∧ dkN [(1, 9)] (I1 25 0) ∧ (0 : Int) + 1 ≤ (I0 25 0).toInt ∧ r = 1 ∧ I1 37 0 = I0 25 0 ∧ I1 37 4 = I0 25 4 ∧ I1 37 11 = I0 25 11 ∧ I1 48 0 = I0 48 0 ∧ I1 48 4 = I0 48 4 ∧ I1 48 11 = I0 48 11 ∧ I1 55  = I0 55 ∧ (∀ j : Nat, j < Int32.toNatClampNeg (I0 25 11) → I1 44 j = I0 32 j) ∧ True)))) 0 0 (dkA z) := by
  obtain rfl : p0 = 0 := dkN_is dp0 rfl
  refine Met.ofW (cc := cX5_image) (maxL := 2) (ret := (some .int)) (by decide) rfl ?_
  intro p e s m args below meth c s₁ B hml hv
  obtain ⟨ha, hW, hK, hT⟩ := hv
  have hx := B.exec
  have hb := B.bytes
  have hr := B.returns
  have hts := atoms_spec (ws := wsX5_image) B.pre
  have hown : s.vm.findClass RX5 = some m.cls := findClass_of_methodNamed B.named
  have hlocks := B.notSynchronized
  have hS : va_S (dkA z) s.heap s.heap [] := va_S.rf
  have hF : dkF [(37, 37, 0, 4), (37, 37, 11, 11), (37, 37, 15, 17), (38, 38, 0, 4), (39, 39, 0, 4), (40, 40, 0, 4), (41, 41, 0, 4), (42, 42, 0, 4), (43, 43, 0, 4), (44, 44, 0, 5), (45, 45, 0, 5), (46, 46, 0, 5)] I0 I0 := dkF_rf _ _
  have hl := lv_entry ([.ref (z + 0), .int 0]) (n := 2) (Nat.le_of_ble_eq_true rfl)
  have hgo : entryFrame m args 2 = entryFrame m ([.ref (z + 0), .int 0] : List Value).toArray 2 := by rw [ha]
  rw [hgo, lg_entry_eq]
  generalize (lg_sl ([.ref (z + 0), .int 0]) ++ List.replicate (2 - (lg_sl ([.ref (z + 0), .int 0])).length) Slot.unset).toArray = ls at hl ⊢
  have hl : lv_has ls 2 [(0, .ref (z + 0)), (1, .int 0)] := hl
  refine lv_iload_n hx hb dX5_image_0 rfl (lv_at hl 1 rfl) ?_
  refine lv_iconst (v := 1) hx hb dX5_image_1 (by decide) ?_
  refine dk_Si (As := [.int 0, .int 1]) (rest := []) ⟨hx, hb, hml, hown, hts⟩ (fx_X5_isUpTo_10 l g z I0 0 1 (dkN_lit (x := 0) (0) rfl) (dkN_lit (x := 1) (1) rfl) hO) (va_cwS 2 hts gX5_image_X5_isUpTo rfl rfl rfl (by decide +kernel) ⟨Nat.le_of_ble_eq_true rfl, Nat.le_of_ble_eq_true rfl⟩) hK hT hW hS rfl hl.1 rfl (Nat.le_of_ble_eq_true rfl) dX5_image_2 ⟨Nat.zero_le _, Nat.zero_le _⟩ (fun v1 I1 H1 L1 hp1 hW hS => ?_)
  obtain ⟨hF1, hO, hc1⟩ := hp1
  have hF := dkF_call hF hF1 rfl
  have eI1 : I0 = I1 := (dkF_nil hF1).symm
  subst eI1
  obtain ⟨dv1, x1_0, x1_1, xr1, -⟩ := hc1
  have xv1 : v1 = 1 := by have h := xr1; exact h
  refine lv_if_ne (tgt := 11) hx hb dX5_image_5 (by decide) (fun c2 => ?_) (fun c2 => ?_)
  ·
    refine lv_aload_n hx hb dX5_image_11 rfl (lv_at hl 0 rfl) ?_
    refine dk_get (k := 0) hx hb hts iX5_image_5 hown hK (dk_at0 hW) rfl 5 (by decide) (hts (.fieldLink RX5 31 "DogKings" "now" "LDogKings$Town;") (List.mem_of_getElem? (i := 2) rfl)) rfl dX5_image_12 ?_
    refine dk_Vi (As := []) (rest := []) ⟨hx, hb, hml, hown, hts⟩ (fx_X4_stands_1 l g z I0 (25) (by unfold dkT; omega) hO) (cwV 0 hts gX5_image_X4_stands rfl rfl rfl (by decide +kernel) ⟨Nat.le_of_ble_eq_true rfl, Nat.le_of_ble_eq_true rfl⟩) (dk_at25 hW) rfl hK hT hW hS rfl hl.1 rfl (Nat.le_of_ble_eq_true rfl) dX5_image_15 ⟨Nat.zero_le _, Nat.zero_le _⟩ (fun v3 I3 H3 L3 hp3 hW hS => ?_)
    obtain ⟨hF3, hO, hc3⟩ := hp3
    have hF := dkF_call hF hF3 rfl
    have eI3 : I0 = I3 := (dkF_nil hF3).symm
    subst eI3
    rcases hc3 with ⟨dv3, f3_25_0, x3_0, xr3, -⟩ | hc3
    ·
      have q4 : (I0 25 0).toInt + 0 ≤ (0 : Int) := x3_0
      have xv3 : v3 = 0 := by have h := xr3; exact h
      refine lv_if_ne (tgt := 24) hx hb dX5_image_18 (by decide) (fun c5 => ?_) (fun c5 => ?_)
      ·
        exact absurd ((xv3).trans (rfl).symm) c5
      ·
        refine lv_ldc (v := (-1000002)) hx hb hown (hts (.constant RX5 129 (-1000002)) (List.mem_of_getElem? (i := 3) rfl)) dX5_image_21 ?_
        exact W.iret (v := (-1000002)) hx hb hr (fun t ht hW9 => ⟨⟨(-1000002), I0, rfl, ⟨hF, hO, Or.inl ⟨dkN_sub (dkN_lit (x := (-1000002)) (-1000002) rfl) rfl, (show dkN [(0, 0)] (I0 25 0) from dkN_sub f3_25_0 rfl), q4, rfl, rfl, rfl, rfl, rfl, rfl, rfl, rfl, rfl, trivial⟩⟩, dkW_eq ht hW⟩, hS.F ht⟩) hS.2.2 dX5_image_23
    ·
      obtain ⟨dv3, f3_25_0, x3_0, xr3, -⟩ := hc3
      have q6 : (0 : Int) + 1 ≤ (I0 25 0).toInt := x3_0
      have xv3 : v3 = 1 := by have h := xr3; exact h
      refine lv_if_ne (tgt := 24) hx hb dX5_image_18 (by decide) (fun c7 => ?_) (fun c7 => ?_)
      ·
        refine lv_aload_n hx hb dX5_image_24 rfl (lv_at hl 0 rfl) ?_
        refine dk_get (k := 0) hx hb hts iX5_image_5 hown hK (dk_at0 hW) rfl 6 (by decide) (hts (.fieldLink RX5 35 "DogKings" "images" "[LDogKings$Town;") (List.mem_of_getElem? (i := 4) rfl)) rfl dX5_image_25 ?_
        refine lv_iload_n hx hb dX5_image_28 rfl (lv_at hl 1 rfl) ?_
        refine dk_tld (r := z + 37) hx hb hK (dk_at36 hW) (dkN_in (n := 2) (dkN_lit (x := 0) (0) rfl) rfl) (by rw [dkN_cl (dkN_lit (x := 0) (0) rfl)]; rfl) dX5_image_29 ?_
        refine lv_aload_n hx hb dX5_image_30 rfl (lv_at hl 0 rfl) ?_
        refine dk_get (k := 0) hx hb hts iX5_image_5 hown hK (dk_at0 hW) rfl 5 (by decide) (hts (.fieldLink RX5 31 "DogKings" "now" "LDogKings$Town;") (List.mem_of_getElem? (i := 2) rfl)) rfl dX5_image_31 ?_
        refine dk_Vv (As := [.ref (z + 25)]) (rest := []) ⟨hx, hb, hml, hown, hts⟩ (fx_X4_become_1 l g z I0 (37) (by unfold dkT; omega) (25) (by unfold dkT; omega) (by omega) hO) (cwV 1 hts gX5_image_X4_become rfl rfl rfl (by decide +kernel) ⟨Nat.le_of_ble_eq_true rfl, Nat.le_of_ble_eq_true rfl⟩) (dk_at37 hW) rfl hK hT hW hS rfl hl.1 rfl (Nat.le_of_ble_eq_true rfl) dX5_image_34 ⟨Nat.zero_le _, Nat.zero_le _⟩ (fun I8 H8 L8 hp8 hW hS => ?_)
        obtain ⟨hF8, hO, hc8⟩ := hp8
        have hF := dkF_call hF hF8 rfl
        obtain ⟨xh8_0, xh8_1, xh8_2, xp8_0, -⟩ := hc8
        have y9 : I8 37 0 = I0 25 0 := by have h := xh8_0; exact h
        have y10 : I8 37 4 = I0 25 4 := by have h := xh8_1; exact h
        have y11 : I8 37 11 = I0 25 11 := by have h := xh8_2; exact h
        have yp12 : ∀ j : Nat, j < Int32.toNatClampNeg (I0 25 11) → I8 44 j = I0 32 j := by have h := xp8_0; exact h
        refine lv_iconst (v := 1) hx hb dX5_image_37 (by decide) ?_
        exact W.iret (v := 1) hx hb hr (fun t ht hW9 => ⟨⟨1, I8, rfl, ⟨hF, hO, Or.inr (⟨dkN_sub (dkN_lit (x := 1) (1) rfl) rfl, (show dkN [(1, 9)] (I8 25 0) from dkN_sub (by rw [hF8 25 0 rfl]; exact f3_25_0) rfl), q6, rfl, y9, y10, y11, ((hF8 48 0 rfl).trans rfl), ((hF8 48 4 rfl).trans rfl), ((hF8 48 11 rfl).trans rfl), ((funext fun j => hF8 55 j (dkNin_k rfl (dkNin_k rfl (dkNin_k rfl (dkNin_k rfl (dkNin_k rfl (dkNin_k rfl (dkNin_k rfl (dkNin_k rfl (dkNin_k rfl (dkNin_k rfl (dkNin_k rfl (dkNin_k rfl dkNin_nil))))))))))))).trans rfl), (fun j hj => (congrFun rfl j).trans (xp8_0 j hj)), trivial⟩)⟩, dkW_eq ht hW⟩, hS.F ht⟩) hS.2.2 dX5_image_38
      ·
        exact (dkN_nil (show dkN [] v3 from dkN_eq1 dv3 (dkN_lit (x := 0) (0) rfl) (congrArg Int32.toInt c7) rfl)).elim
  ·
    exact (dkN_nil (show dkN [] v1 from dkN_eq1 dv1 (dkN_lit (x := 0) (0) rfl) (congrArg Int32.toInt c2) rfl)).elim
set_option maxHeartbeats 4000000 in
set_option maxRecDepth 100000 in
theorem fx_X6_in_34 (l : Launch) (g : dkG) (z : Nat) (I0 : dkI) (p0 : Int32) (p1 : Int32) (p2 : Int32) (dp0 : dkN [(0, 0)] p0) (dp1 : dkN [(0, 0)] p1) (dp2 : dkN [(1, 1)] p2)  (hO : dkOk I0) : Met l yX6_in wsX6_in (dkR 0) (dkPc g z [.int p0, .int p1, .int p2] I0) (dkQi g z (fun r I1 => dkF [] I0 I1 ∧ dkOk I1 ∧ ((dkN [(1, 1)] r ∧ p1.toInt + 0 ≤ p0.toInt ∧ p0.toInt + 0 ≤ p2.toInt ∧ r = 1 ∧ True)))) 0 0 (dkA z) := by
  refine Met.ofW (cc := cX6_in) (maxL := 3) (ret := (some .boolean)) (by decide) rfl ?_
  intro p e s m args below meth c s₁ B hml hv
  obtain ⟨ha, hW, hK, hT⟩ := hv
  have hx := B.exec
  have hb := B.bytes
  have hr := B.returns
  have hts := atoms_spec (ws := wsX6_in) B.pre
  have hown : s.vm.findClass RX6 = some m.cls := findClass_of_methodNamed B.named
  have hlocks := B.notSynchronized
  have hS : va_S (dkA z) s.heap s.heap [] := va_S.rf
  have hF : dkF [] I0 I0 := dkF_rf _ _
  have hl := lv_entry ([.int p0, .int p1, .int p2]) (n := 3) (Nat.le_of_ble_eq_true rfl)
  have hgo : entryFrame m args 3 = entryFrame m ([.int p0, .int p1, .int p2] : List Value).toArray 3 := by rw [ha]
  rw [hgo, lg_entry_eq]
  generalize (lg_sl ([.int p0, .int p1, .int p2]) ++ List.replicate (3 - (lg_sl ([.int p0, .int p1, .int p2])).length) Slot.unset).toArray = ls at hl ⊢
  have hl : lv_has ls 3 [(0, .int p0), (1, .int p1), (2, .int p2)] := hl
  refine lv_iload_n hx hb dX6_in_0 rfl (lv_at hl 0 rfl) ?_
  refine lv_iload_n hx hb dX6_in_1 rfl (lv_at hl 1 rfl) ?_
  refine lv_icmp_lt (tgt := 14) hx hb dX6_in_2 (by decide) (fun c1 => ?_) (fun c1 => ?_)
  ·
    exact (dkN_nil (show dkN [] p0 from dkN_le1 1 dp0 dp1 (dkc_lt c1) rfl)).elim
  ·
    have q2 : p1.toInt + 0 ≤ p0.toInt := (dkc_nlt c1)
    refine lv_iload_n hx hb dX6_in_5 rfl (lv_at hl 0 rfl) ?_
    refine lv_iload_n hx hb dX6_in_6 rfl (lv_at hl 2 rfl) ?_
    refine lv_icmp_gt (tgt := 14) hx hb dX6_in_7 (by decide) (fun c3 => ?_) (fun c3 => ?_)
    ·
      exact (dkN_nil (show dkN [] p2 from dkN_le1 1 dp2 dp0 (dkc_lt c3) rfl)).elim
    ·
      have q4 : p0.toInt + 0 ≤ p2.toInt := (dkc_nlt c3)
      refine lv_iconst (v := 1) hx hb dX6_in_10 (by decide) ?_
      refine lv_goto (tgt := 15) hx hb dX6_in_11 (by decide) ?_
      exact W.zret (v := 1) (ty := .boolean) hx hb hr rfl (fun t ht hW9 => ⟨⟨1, I0, rfl, ⟨hF, hO, ⟨dkN_sub (dkN_lit (x := 1) (1) rfl) rfl, q2, q4, rfl, trivial⟩⟩, dkW_eq ht hW⟩, hS.F ht⟩) hS.2.2 dX6_in_15
set_option maxHeartbeats 4000000 in
set_option maxRecDepth 100000 in
theorem fx_X6_isTown_2 (l : Launch) (g : dkG) (z : Nat) (I0 : dkI)  (hO : dkOk I0) : Met l yX6_isTown wsX6_isTown (dkR 0) (dkPc g z [.ref (z + 340)] I0) (dkQi g z (fun r I1 => dkF [] I0 I1 ∧ dkOk I1 ∧ ((dkN [(0, 0)] r ∧ dkN [(0, 0)] (I1 346 0) ∧ (I0 346 0).toInt + 0 ≤ (0 : Int) ∧ r = 0 ∧ True) ∨ (dkN [(1, 1)] r ∧ dkN [(1, 9)] (I1 346 0) ∧ (0 : Int) + 1 ≤ (I0 346 0).toInt ∧ r = 1 ∧ True)))) 0 0 (dkA z) := by
  refine Met.ofW (cc := cX6_isTown) (maxL := 1) (ret := (some .boolean)) (by decide) rfl ?_
  intro p e s m args below meth c s₁ B hml hv
  obtain ⟨ha, hW, hK, hT⟩ := hv
  have hx := B.exec
  have hb := B.bytes
  have hr := B.returns
  have hts := atoms_spec (ws := wsX6_isTown) B.pre
  have hown : s.vm.findClass RX6 = some m.cls := findClass_of_methodNamed B.named
  have hlocks := B.notSynchronized
  have hS : va_S (dkA z) s.heap s.heap [] := va_S.rf
  have hF : dkF [] I0 I0 := dkF_rf _ _
  have hl := lv_entry ([.ref (z + 340)]) (n := 1) (Nat.le_of_ble_eq_true rfl)
  have hgo : entryFrame m args 1 = entryFrame m ([.ref (z + 340)] : List Value).toArray 1 := by rw [ha]
  rw [hgo, lg_entry_eq]
  generalize (lg_sl ([.ref (z + 340)]) ++ List.replicate (1 - (lg_sl ([.ref (z + 340)])).length) Slot.unset).toArray = ls at hl ⊢
  have hl : lv_has ls 1 [(0, .ref (z + 340))] := hl
  refine lv_aload_n hx hb dX6_isTown_0 rfl (lv_at hl 0 rfl) ?_
  refine dk_get (k := 340) hx hb hts iX6_isTown_6 hown hK (dk_at340 hW) rfl 13 (by decide) (hts (.fieldLink RX6 25 "DogKingsModel" "now" "[I") (List.mem_of_getElem? (i := 1) rfl)) rfl dX6_isTown_1 ?_
  refine lv_iconst (v := 0) hx hb dX6_isTown_4 (by decide) ?_
  refine dk_ild (k := 346) hx hb hK (dk_at346 hW) (dkN_in (n := 54) (dkN_lit (x := 0) (0) rfl) rfl) dX6_isTown_5 ?_
  refine lv_topi (fun v1 ev1 => ?_)
  have ev1 : v1 = I0 346 0 := ev1
  have dv1 : dkN [(0, 9)] v1 := by rw [ev1]; exact (show dkN [(0, 9)] (I0 346 0) from (hO 346 0))
  have xv1 : v1 = I0 346 0 := ev1.trans rfl
  refine lv_if_le (tgt := 13) hx hb dX6_isTown_6 (by decide) (fun c2 => ?_) (fun c2 => ?_)
  ·
    have q3 : (I0 346 0).toInt + 0 ≤ (0 : Int) := by first | (rw [← xv1]; exact (dkc_le c2)) | (subst xv1; exact (dkc_le c2))
    have d4 : dkN [(0, 0)] v1 := dkN_le1 0 dv1 (dkN_lit (x := 0) (0) rfl) (dkc_le c2) rfl
    have f5 : dkN [(0, 0)] (I0 346 0) := by rw [← ev1]; exact d4
    refine lv_iconst (v := 0) hx hb dX6_isTown_13 (by decide) ?_
    exact W.zret (v := 0) (ty := .boolean) hx hb hr rfl (fun t ht hW9 => ⟨⟨0, I0, rfl, ⟨hF, hO, Or.inl ⟨dkN_sub (dkN_lit (x := 0) (0) rfl) rfl, (show dkN [(0, 0)] (I0 346 0) from dkN_sub f5 rfl), q3, rfl, trivial⟩⟩, dkW_eq ht hW⟩, hS.F ht⟩) hS.2.2 dX6_isTown_14
  ·
    have q6 : (0 : Int) + 1 ≤ (I0 346 0).toInt := by first | (rw [← xv1]; exact (dkc_nle c2)) | (subst xv1; exact (dkc_nle c2))
    have d7 : dkN [(1, 9)] v1 := dkN_le2 1 (dkN_lit (x := 0) (0) rfl) dv1 (dkc_nle c2) rfl
    have f8 : dkN [(1, 9)] (I0 346 0) := by rw [← ev1]; exact d7
    refine lv_iconst (v := 1) hx hb dX6_isTown_9 (by decide) ?_
    refine lv_goto (tgt := 14) hx hb dX6_isTown_10 (by decide) ?_
    exact W.zret (v := 1) (ty := .boolean) hx hb hr rfl (fun t ht hW9 => ⟨⟨1, I0, rfl, ⟨hF, hO, Or.inr (⟨dkN_sub (dkN_lit (x := 1) (1) rfl) rfl, (show dkN [(1, 9)] (I0 346 0) from dkN_sub f8 rfl), q6, rfl, trivial⟩)⟩, dkW_eq ht hW⟩, hS.F ht⟩) hS.2.2 dX6_isTown_14
set_option maxHeartbeats 4000000 in
set_option maxRecDepth 100000 in
theorem fx_X6_image_2 (l : Launch) (g : dkG) (z : Nat) (I0 : dkI) (p0 : Int32) (dp0 : dkN [(0, 0)] p0)  (hO : dkOk I0) (hP : dkPP I0) : Met l yX6_image wsX6_image (dkR 1) (dkPc g z [.ref (z + 340), .int p0] I0) (dkQi g z (fun r I1 => dkF [(350, 350, 0, 53), (351, 351, 0, 0)] I0 I1 ∧ dkOk I1 ∧ dkPP I1 ∧ ((dkN [(-1000002, -1000002)] r ∧ dkN [(0, 0)] (I1 346 0) ∧ (I0 346 0).toInt + 0 ≤ (0 : Int) ∧ r = (-1000002) ∧ I1 350 0 = I0 350 0 ∧ I1 350 4 = I0 350 4 ∧ I1 350 5 = I0 350 5 ∧ I1 350 36 = I0 350 36 ∧ I1 350 39 = I0 350 39 ∧ I1 350 42 = I0 350 42 ∧ I1 350 45 = I0 350 45 ∧ I1 350 48 = I0 350 48 ∧ I1 350 51 = I0 350 51 ∧ I1 350 54 = I0 350 54 ∧ I1 350 58 = I0 350 58 ∧ I1 350 59 = I0 350 59 ∧ I1 350 90 = I0 350 90 ∧ I1 350 93 = I0 350 93 ∧ I1 350 96 = I0 350 96 ∧ I1 350 99 = I0 350 99 ∧ I1 350 102 = I0 350 102 ∧ I1 350 105 = I0 350 105 ∧ I1 351 0 = I0 351 0 ∧ I1 351 1 = I0 351 1 ∧ I1 350  = I0 350 ∧ True) ∨ (dkN [(1, 1)] r ∧ dkN [(1, 9)] (I1 346 0) ∧ dkN [(1, 9)] (I1 350 0) ∧ dkN [(1, 1)] (I1 351 0) ∧ (0 : Int) + 1 ≤ (I0 346 0).toInt ∧ r = 1 ∧ I1 350 0 = I0 346 0 ∧ I1 350 4 = I0 346 4 ∧ I1 350 5 = I0 346 5 ∧ I1 350 36 = I0 346 36 ∧ I1 350 39 = I0 346 39 ∧ I1 350 42 = I0 346 42 ∧ I1 350 45 = I0 346 45 ∧ I1 350 48 = I0 346 48 ∧ I1 350 51 = I0 346 51 ∧ I1 350 54 = I0 350 54 ∧ I1 350 58 = I0 350 58 ∧ I1 350 59 = I0 350 59 ∧ I1 350 90 = I0 350 90 ∧ I1 350 93 = I0 350 93 ∧ I1 350 96 = I0 350 96 ∧ I1 350 99 = I0 350 99 ∧ I1 350 102 = I0 350 102 ∧ I1 350 105 = I0 350 105 ∧ I1 351 0 = 1 ∧ I1 351 1 = I0 351 1 ∧ True)))) 0 0 (dkA z) := by
  obtain rfl : p0 = 0 := dkN_is dp0 rfl
  refine Met.ofW (cc := cX6_image) (maxL := 2) (ret := (some .int)) (by decide) rfl ?_
  intro p e s m args below meth c s₁ B hml hv
  obtain ⟨ha, hW, hK, hT⟩ := hv
  have hx := B.exec
  have hb := B.bytes
  have hr := B.returns
  have hts := atoms_spec (ws := wsX6_image) B.pre
  have hown : s.vm.findClass RX6 = some m.cls := findClass_of_methodNamed B.named
  have hlocks := B.notSynchronized
  have hS : va_S (dkA z) s.heap s.heap [] := va_S.rf
  have hF : dkF [(350, 350, 0, 53), (351, 351, 0, 0)] I0 I0 := dkF_rf _ _
  have hl := lv_entry ([.ref (z + 340), .int 0]) (n := 2) (Nat.le_of_ble_eq_true rfl)
  have hgo : entryFrame m args 2 = entryFrame m ([.ref (z + 340), .int 0] : List Value).toArray 2 := by rw [ha]
  rw [hgo, lg_entry_eq]
  generalize (lg_sl ([.ref (z + 340), .int 0]) ++ List.replicate (2 - (lg_sl ([.ref (z + 340), .int 0])).length) Slot.unset).toArray = ls at hl ⊢
  have hl : lv_has ls 2 [(0, .ref (z + 340)), (1, .int 0)] := hl
  refine lv_iload_n hx hb dX6_image_0 rfl (lv_at hl 1 rfl) ?_
  refine lv_iconst (v := 0) hx hb dX6_image_1 (by decide) ?_
  refine lv_iconst (v := 1) hx hb dX6_image_2 (by decide) ?_
  refine dk_Si (As := [.int 0, .int 0, .int 1]) (rest := []) ⟨hx, hb, hml, hown, hts⟩ (fx_X6_in_34 l g z I0 0 0 1 (dkN_lit (x := 0) (0) rfl) (dkN_lit (x := 0) (0) rfl) (dkN_lit (x := 1) (1) rfl) hO) (va_cwS 3 hts gX6_image_X6_in rfl rfl rfl (by decide +kernel) ⟨Nat.le_of_ble_eq_true rfl, Nat.le_of_ble_eq_true rfl⟩) hK hT hW hS rfl hl.1 rfl (Nat.le_of_ble_eq_true rfl) dX6_image_3 ⟨Nat.zero_le _, Nat.zero_le _⟩ (fun v1 I1 H1 L1 hp1 hW hS => ?_)
  obtain ⟨hF1, hO, hc1⟩ := hp1
  have hF := dkF_call hF hF1 rfl
  have hP := dkPP_F hP hF1 rfl
  have eI1 : I0 = I1 := (dkF_nil hF1).symm
  subst eI1
  obtain ⟨dv1, x1_0, x1_1, xr1, -⟩ := hc1
  have xv1 : v1 = 1 := by have h := xr1; exact h
  refine lv_if_ne (tgt := 12) hx hb dX6_image_6 (by decide) (fun c2 => ?_) (fun c2 => ?_)
  ·
    refine lv_aload_n hx hb dX6_image_12 rfl (lv_at hl 0 rfl) ?_
    refine dk_Vi (As := []) (rest := []) ⟨hx, hb, hml, hown, hts⟩ (fx_X6_isTown_2 l g z I0 hO) (cwV 0 hts gX6_image_X6_isTown rfl rfl rfl (by decide +kernel) ⟨Nat.le_of_ble_eq_true rfl, Nat.le_of_ble_eq_true rfl⟩) (dk_at340 hW) rfl hK hT hW hS rfl hl.1 rfl (Nat.le_of_ble_eq_true rfl) dX6_image_13 ⟨Nat.zero_le _, Nat.zero_le _⟩ (fun v3 I3 H3 L3 hp3 hW hS => ?_)
    obtain ⟨hF3, hO, hc3⟩ := hp3
    have hF := dkF_call hF hF3 rfl
    have hP := dkPP_F hP hF3 rfl
    have eI3 : I0 = I3 := (dkF_nil hF3).symm
    subst eI3
    rcases hc3 with ⟨dv3, f3_346_0, x3_0, xr3, -⟩ | hc3
    ·
      have q4 : (I0 346 0).toInt + 0 ≤ (0 : Int) := x3_0
      have xv3 : v3 = 0 := by have h := xr3; exact h
      refine lv_if_ne (tgt := 22) hx hb dX6_image_16 (by decide) (fun c5 => ?_) (fun c5 => ?_)
      ·
        exact absurd ((xv3).trans (rfl).symm) c5
      ·
        refine lv_ldc (v := (-1000002)) hx hb hown (hts (.constant RX6 185 (-1000002)) (List.mem_of_getElem? (i := 2) rfl)) dX6_image_19 ?_
        exact W.iret (v := (-1000002)) hx hb hr (fun t ht hW9 => ⟨⟨(-1000002), I0, rfl, ⟨hF, hO, hP, Or.inl ⟨dkN_sub (dkN_lit (x := (-1000002)) (-1000002) rfl) rfl, (show dkN [(0, 0)] (I0 346 0) from dkN_sub f3_346_0 rfl), q4, rfl, rfl, rfl, rfl, rfl, rfl, rfl, rfl, rfl, rfl, rfl, rfl, rfl, rfl, rfl, rfl, rfl, rfl, rfl, rfl, rfl, rfl, trivial⟩⟩, dkW_eq ht hW⟩, hS.F ht⟩) hS.2.2 dX6_image_21
    ·
      obtain ⟨dv3, f3_346_0, x3_0, xr3, -⟩ := hc3
      have q6 : (0 : Int) + 1 ≤ (I0 346 0).toInt := x3_0
      have xv3 : v3 = 1 := by have h := xr3; exact h
      refine lv_if_ne (tgt := 22) hx hb dX6_image_16 (by decide) (fun c7 => ?_) (fun c7 => ?_)
      ·
        refine lv_aload_n hx hb dX6_image_22 rfl (lv_at hl 0 rfl) ?_
        refine dk_get (k := 340) hx hb hts iX6_image_6 hown hK (dk_at340 hW) rfl 13 (by decide) (hts (.fieldLink RX6 25 "DogKingsModel" "now" "[I") (List.mem_of_getElem? (i := 3) rfl)) rfl dX6_image_23 ?_
        refine lv_iconst (v := 0) hx hb dX6_image_26 (by decide) ?_
        refine lv_aload_n hx hb dX6_image_27 rfl (lv_at hl 0 rfl) ?_
        refine dk_get (k := 340) hx hb hts iX6_image_6 hown hK (dk_at340 hW) rfl 18 (by decide) (hts (.fieldLink RX6 37 "DogKingsModel" "images" "[I") (List.mem_of_getElem? (i := 4) rfl)) rfl dX6_image_28 ?_
        refine lv_bipush (v := 54) hx hb dX6_image_31 (by decide) ?_
        refine lv_iload_n hx hb dX6_image_33 rfl (lv_at hl 1 rfl) ?_
        refine lv_imul hx hb dX6_image_34 ?_
        refine lv_topi (fun v8 ev8 => ?_)
        have dv8 : dkN [(0, 0)] v8 := by rw [ev8]; exact dkN_mulR 0 (by decide) (dkN_lit (x := 54) (54) rfl) (dkN_lit (x := 0) (0) rfl) rfl
        have xv8 : v8 = 0 := by rw [ev8]; rfl
        subst xv8
        refine dk_Sv (As := [.ref (z + 346), .int 0, .ref (z + 350), .int 0]) (rest := []) ⟨hx, hb, hml, hown, hts⟩ (c_X6_copies l g z I0 (kf := 346) (kt := 350) (nf := 54) (nt := 108) 0 0 (A := 0) (B := 0) rfl rfl (by decide) (by decide) (by decide) (by decide) (by decide) (by decide) (fun _ => rfl) (fun _ => rfl)) (va_cwS 4 hts gX6_image_X6_copies rfl rfl rfl (by decide +kernel) ⟨Nat.le_of_ble_eq_true rfl, Nat.le_of_ble_eq_true rfl⟩) hK hT hW hS rfl hl.1 rfl (Nat.le_of_ble_eq_true rfl) dX6_image_35 ⟨Nat.zero_le _, Nat.zero_le _⟩ (fun I9 H9 L9 eI9 hW hS => ?_)
        have eI9 : I9 = dkCp I0 346 350 0 0 := eI9
        have hO := dkO_cp hO eI9 (by decide) (by decide) (by decide) (by decide)
        have hF := dkF_cp (lo := 0) (hi := 0) hF eI9 ⟨by decide, by decide⟩ rfl
        refine lv_aload_n hx hb dX6_image_38 rfl (lv_at hl 0 rfl) ?_
        refine dk_get (k := 340) hx hb hts iX6_image_6 hown hK (dk_at340 hW) rfl 19 (by decide) (hts (.fieldLink RX6 40 "DogKingsModel" "kept" "[Z") (List.mem_of_getElem? (i := 5) rfl)) rfl dX6_image_39 ?_
        refine lv_iload_n hx hb dX6_image_42 rfl (lv_at hl 1 rfl) ?_
        refine lv_iconst (v := 1) hx hb dX6_image_43 (by decide) ?_
        refine dk_zst (k := 351) hx hb hK hW (fun _ => rfl) (by decide) hS (dkN_in (n := 2) (dkN_lit (x := 0) (0) rfl) rfl) rfl dX6_image_44 (fun I10 H10 L10 eI10 hW hS => ?_)
        have eI10 : I10 = dkU I9 351 0 1 := eI10
        have hO := dkO_set hO eI10 (dkN_sub (dkN_lit (x := 1) (1) rfl) rfl)
        have hF := dkF_set hF eI10 rfl
        have hP := dkPP_image hP (dkN_lit (x := 0) (0) rfl) (show (0 : Int32) = 54 * 0 from rfl) eI9 eI10 (dkN_sub f3_346_0 rfl) rfl
        refine lv_iconst (v := 1) hx hb dX6_image_45 (by decide) ?_
        exact W.iret (v := 1) hx hb hr (fun t ht hW9 => ⟨⟨1, I10, rfl, ⟨hF, hO, hP, Or.inr (⟨dkN_sub (dkN_lit (x := 1) (1) rfl) rfl, (show dkN [(1, 9)] (I10 346 0) from dkN_sub (by rw [eI10, dkU_n (by decide)]; exact (by rw [(dkCp_n eI9 (by decide))]; exact f3_346_0)) rfl), (show dkN [(1, 9)] (I10 350 0) from dkN_sub (by rw [eI10, dkU_n (by decide)]; exact (by rw [dkCp_in eI9 (by decide)]; exact f3_346_0)) rfl), (show dkN [(1, 1)] (I10 351 0) from dkN_sub (by rw [eI10, dkU_ss]; exact (dkN_lit (x := 1) (1) rfl)) rfl), q6, rfl, ((by rw [eI10, dkU_n (by decide)] : I10 350 0 = _).trans ((dkCp_in eI9 (by decide)).trans rfl)), ((by rw [eI10, dkU_n (by decide)] : I10 350 4 = _).trans ((dkCp_in eI9 (by decide)).trans rfl)), ((by rw [eI10, dkU_n (by decide)] : I10 350 5 = _).trans ((dkCp_in eI9 (by decide)).trans rfl)), ((by rw [eI10, dkU_n (by decide)] : I10 350 36 = _).trans ((dkCp_in eI9 (by decide)).trans rfl)), ((by rw [eI10, dkU_n (by decide)] : I10 350 39 = _).trans ((dkCp_in eI9 (by decide)).trans rfl)), ((by rw [eI10, dkU_n (by decide)] : I10 350 42 = _).trans ((dkCp_in eI9 (by decide)).trans rfl)), ((by rw [eI10, dkU_n (by decide)] : I10 350 45 = _).trans ((dkCp_in eI9 (by decide)).trans rfl)), ((by rw [eI10, dkU_n (by decide)] : I10 350 48 = _).trans ((dkCp_in eI9 (by decide)).trans rfl)), ((by rw [eI10, dkU_n (by decide)] : I10 350 51 = _).trans ((dkCp_in eI9 (by decide)).trans rfl)), ((by rw [eI10, dkU_n (by decide)] : I10 350 54 = _).trans ((dkCp_out eI9 (by decide)).trans rfl)), ((by rw [eI10, dkU_n (by decide)] : I10 350 58 = _).trans ((dkCp_out eI9 (by decide)).trans rfl)), ((by rw [eI10, dkU_n (by decide)] : I10 350 59 = _).trans ((dkCp_out eI9 (by decide)).trans rfl)), ((by rw [eI10, dkU_n (by decide)] : I10 350 90 = _).trans ((dkCp_out eI9 (by decide)).trans rfl)), ((by rw [eI10, dkU_n (by decide)] : I10 350 93 = _).trans ((dkCp_out eI9 (by decide)).trans rfl)), ((by rw [eI10, dkU_n (by decide)] : I10 350 96 = _).trans ((dkCp_out eI9 (by decide)).trans rfl)), ((by rw [eI10, dkU_n (by decide)] : I10 350 99 = _).trans ((dkCp_out eI9 (by decide)).trans rfl)), ((by rw [eI10, dkU_n (by decide)] : I10 350 102 = _).trans ((dkCp_out eI9 (by decide)).trans rfl)), ((by rw [eI10, dkU_n (by decide)] : I10 350 105 = _).trans ((dkCp_out eI9 (by decide)).trans rfl)), (by rw [eI10, dkU_ss]), ((by rw [eI10, dkU_sn (by decide)] : I10 351 1 = _).trans ((dkCp_n eI9 (by decide)).trans rfl)), trivial⟩)⟩, dkW_eq ht hW⟩, hS.F ht⟩) hS.2.2 dX6_image_46
      ·
        exact (dkN_nil (show dkN [] v3 from dkN_eq1 dv3 (dkN_lit (x := 0) (0) rfl) (congrArg Int32.toInt c7) rfl)).elim
  ·
    exact (dkN_nil (show dkN [] v1 from dkN_eq1 dv1 (dkN_lit (x := 0) (0) rfl) (congrArg Int32.toInt c2) rfl)).elim
set_option maxHeartbeats 4000000 in
set_option maxRecDepth 100000 in
theorem fx_X5_restore_2 (l : Launch) (g : dkG) (z : Nat) (I0 : dkI) (p0 : Int32) (dp0 : dkN [(0, 0)] p0)  (hO : dkOk I0) (hP : dkQQ I0) : Met l yX5_restore wsX5_restore (dkR 1) (dkPc g z [.ref (z + 0), .int p0] I0) (dkQi g z (fun r I1 => dkF [(25, 25, 0, 4), (25, 25, 11, 11), (25, 25, 15, 17), (26, 26, 0, 4), (27, 27, 0, 4), (28, 28, 0, 4), (29, 29, 0, 4), (30, 30, 0, 4), (31, 31, 0, 4), (32, 32, 0, 5), (33, 33, 0, 5), (34, 34, 0, 5), (59, 59, 2, 2)] I0 I1 ∧ dkOk I1 ∧ dkQQ I1 ∧ ((dkN [(-1000002, -1000002)] r ∧ dkN [(0, 0)] (I1 37 0) ∧ (I0 37 0).toInt + 0 ≤ (0 : Int) ∧ r = (-1000002) ∧ I1 25 0 = I0 25 0 ∧ I1 25 4 = I0 25 4 ∧ I1 25 11 = I0 25 11 ∧ I1 59 2 = I0 59 2 ∧ I1 32  = I0 32 ∧ True) ∨ (dkN [(1, 1)] r ∧ dkN [(1, 9)] (I1 37 0) ∧ dkN [(0, 0)] (I1 59 2) ∧ (0 : Int) + 1 ≤ (I0 37 0).toInt ∧ r = 1 ∧ I1 25 0 = I0 37 0 ∧ I1 25 4 = I0 37 4 ∧ I1 25 11 = I0 37 11 ∧ I1 59 2 = 0 ∧ (∀ j : Nat, j < Int32.toNatClampNeg (I0 37 11) → I1 32 j = I0 44 j) ∧ True)))) 0 0 (dkA z) := by
  obtain rfl : p0 = 0 := dkN_is dp0 rfl
  refine Met.ofW (cc := cX5_restore) (maxL := 2) (ret := (some .int)) (by decide) rfl ?_
  intro p e s m args below meth c s₁ B hml hv
  obtain ⟨ha, hW, hK, hT⟩ := hv
  have hx := B.exec
  have hb := B.bytes
  have hr := B.returns
  have hts := atoms_spec (ws := wsX5_restore) B.pre
  have hown : s.vm.findClass RX5 = some m.cls := findClass_of_methodNamed B.named
  have hlocks := B.notSynchronized
  have hS : va_S (dkA z) s.heap s.heap [] := va_S.rf
  have hF : dkF [(25, 25, 0, 4), (25, 25, 11, 11), (25, 25, 15, 17), (26, 26, 0, 4), (27, 27, 0, 4), (28, 28, 0, 4), (29, 29, 0, 4), (30, 30, 0, 4), (31, 31, 0, 4), (32, 32, 0, 5), (33, 33, 0, 5), (34, 34, 0, 5), (59, 59, 2, 2)] I0 I0 := dkF_rf _ _
  have hl := lv_entry ([.ref (z + 0), .int 0]) (n := 2) (Nat.le_of_ble_eq_true rfl)
  have hgo : entryFrame m args 2 = entryFrame m ([.ref (z + 0), .int 0] : List Value).toArray 2 := by rw [ha]
  rw [hgo, lg_entry_eq]
  generalize (lg_sl ([.ref (z + 0), .int 0]) ++ List.replicate (2 - (lg_sl ([.ref (z + 0), .int 0])).length) Slot.unset).toArray = ls at hl ⊢
  have hl : lv_has ls 2 [(0, .ref (z + 0)), (1, .int 0)] := hl
  refine lv_iload_n hx hb dX5_restore_0 rfl (lv_at hl 1 rfl) ?_
  refine lv_iconst (v := 1) hx hb dX5_restore_1 (by decide) ?_
  refine dk_Si (As := [.int 0, .int 1]) (rest := []) ⟨hx, hb, hml, hown, hts⟩ (fx_X5_isUpTo_10 l g z I0 0 1 (dkN_lit (x := 0) (0) rfl) (dkN_lit (x := 1) (1) rfl) hO) (va_cwS 2 hts gX5_restore_X5_isUpTo rfl rfl rfl (by decide +kernel) ⟨Nat.le_of_ble_eq_true rfl, Nat.le_of_ble_eq_true rfl⟩) hK hT hW hS rfl hl.1 rfl (Nat.le_of_ble_eq_true rfl) dX5_restore_2 ⟨Nat.zero_le _, Nat.zero_le _⟩ (fun v1 I1 H1 L1 hp1 hW hS => ?_)
  obtain ⟨hF1, hO, hc1⟩ := hp1
  have hF := dkF_call hF hF1 rfl
  have hP := dkQQ_F hP hF1 rfl
  have eI1 : I0 = I1 := (dkF_nil hF1).symm
  subst eI1
  obtain ⟨dv1, x1_0, x1_1, xr1, -⟩ := hc1
  have xv1 : v1 = 1 := by have h := xr1; exact h
  refine lv_if_ne (tgt := 11) hx hb dX5_restore_5 (by decide) (fun c2 => ?_) (fun c2 => ?_)
  ·
    refine lv_aload_n hx hb dX5_restore_11 rfl (lv_at hl 0 rfl) ?_
    refine dk_get (k := 0) hx hb hts iX5_restore_5 hown hK (dk_at0 hW) rfl 6 (by decide) (hts (.fieldLink RX5 35 "DogKings" "images" "[LDogKings$Town;") (List.mem_of_getElem? (i := 2) rfl)) rfl dX5_restore_12 ?_
    refine lv_iload_n hx hb dX5_restore_15 rfl (lv_at hl 1 rfl) ?_
    refine dk_tld (r := z + 37) hx hb hK (dk_at36 hW) (dkN_in (n := 2) (dkN_lit (x := 0) (0) rfl) rfl) (by rw [dkN_cl (dkN_lit (x := 0) (0) rfl)]; rfl) dX5_restore_16 ?_
    refine dk_Vi (As := []) (rest := []) ⟨hx, hb, hml, hown, hts⟩ (fx_X4_stands_1 l g z I0 (37) (by unfold dkT; omega) hO) (cwV 0 hts gX5_restore_X4_stands rfl rfl rfl (by decide +kernel) ⟨Nat.le_of_ble_eq_true rfl, Nat.le_of_ble_eq_true rfl⟩) (dk_at37 hW) rfl hK hT hW hS rfl hl.1 rfl (Nat.le_of_ble_eq_true rfl) dX5_restore_17 ⟨Nat.zero_le _, Nat.zero_le _⟩ (fun v3 I3 H3 L3 hp3 hW hS => ?_)
    obtain ⟨hF3, hO, hc3⟩ := hp3
    have hF := dkF_call hF hF3 rfl
    have hP := dkQQ_F hP hF3 rfl
    have eI3 : I0 = I3 := (dkF_nil hF3).symm
    subst eI3
    rcases hc3 with ⟨dv3, f3_37_0, x3_0, xr3, -⟩ | hc3
    ·
      have q4 : (I0 37 0).toInt + 0 ≤ (0 : Int) := x3_0
      have xv3 : v3 = 0 := by have h := xr3; exact h
      refine lv_if_ne (tgt := 26) hx hb dX5_restore_20 (by decide) (fun c5 => ?_) (fun c5 => ?_)
      ·
        exact absurd ((xv3).trans (rfl).symm) c5
      ·
        refine lv_ldc (v := (-1000002)) hx hb hown (hts (.constant RX5 129 (-1000002)) (List.mem_of_getElem? (i := 3) rfl)) dX5_restore_23 ?_
        exact W.iret (v := (-1000002)) hx hb hr (fun t ht hW9 => ⟨⟨(-1000002), I0, rfl, ⟨hF, hO, hP, Or.inl ⟨dkN_sub (dkN_lit (x := (-1000002)) (-1000002) rfl) rfl, (show dkN [(0, 0)] (I0 37 0) from dkN_sub f3_37_0 rfl), q4, rfl, rfl, rfl, rfl, rfl, rfl, trivial⟩⟩, dkW_eq ht hW⟩, hS.F ht⟩) hS.2.2 dX5_restore_25
    ·
      obtain ⟨dv3, f3_37_0, x3_0, xr3, -⟩ := hc3
      have q6 : (0 : Int) + 1 ≤ (I0 37 0).toInt := x3_0
      have xv3 : v3 = 1 := by have h := xr3; exact h
      refine lv_if_ne (tgt := 26) hx hb dX5_restore_20 (by decide) (fun c7 => ?_) (fun c7 => ?_)
      ·
        refine lv_aload_n hx hb dX5_restore_26 rfl (lv_at hl 0 rfl) ?_
        refine dk_get (k := 0) hx hb hts iX5_restore_5 hown hK (dk_at0 hW) rfl 5 (by decide) (hts (.fieldLink RX5 31 "DogKings" "now" "LDogKings$Town;") (List.mem_of_getElem? (i := 4) rfl)) rfl dX5_restore_27 ?_
        refine lv_aload_n hx hb dX5_restore_30 rfl (lv_at hl 0 rfl) ?_
        refine dk_get (k := 0) hx hb hts iX5_restore_5 hown hK (dk_at0 hW) rfl 6 (by decide) (hts (.fieldLink RX5 35 "DogKings" "images" "[LDogKings$Town;") (List.mem_of_getElem? (i := 2) rfl)) rfl dX5_restore_31 ?_
        refine lv_iload_n hx hb dX5_restore_34 rfl (lv_at hl 1 rfl) ?_
        refine dk_tld (r := z + 37) hx hb hK (dk_at36 hW) (dkN_in (n := 2) (dkN_lit (x := 0) (0) rfl) rfl) (by rw [dkN_cl (dkN_lit (x := 0) (0) rfl)]; rfl) dX5_restore_35 ?_
        refine dk_Vv (As := [.ref (z + 37)]) (rest := []) ⟨hx, hb, hml, hown, hts⟩ (fx_X4_become_1 l g z I0 (25) (by unfold dkT; omega) (37) (by unfold dkT; omega) (by omega) hO) (cwV 1 hts gX5_restore_X4_become rfl rfl rfl (by decide +kernel) ⟨Nat.le_of_ble_eq_true rfl, Nat.le_of_ble_eq_true rfl⟩) (dk_at25 hW) rfl hK hT hW hS rfl hl.1 rfl (Nat.le_of_ble_eq_true rfl) dX5_restore_36 ⟨Nat.zero_le _, Nat.zero_le _⟩ (fun I8 H8 L8 hp8 hW hS => ?_)
        obtain ⟨hF8, hO, hc8⟩ := hp8
        have hF := dkF_call hF hF8 rfl
        obtain ⟨xh8_0, xh8_1, xh8_2, xp8_0, -⟩ := hc8
        have y9 : I8 25 0 = I0 37 0 := by have h := xh8_0; exact h
        have y10 : I8 25 4 = I0 37 4 := by have h := xh8_1; exact h
        have y11 : I8 25 11 = I0 37 11 := by have h := xh8_2; exact h
        have yp12 : ∀ j : Nat, j < Int32.toNatClampNeg (I0 37 11) → I8 32 j = I0 44 j := by have h := xp8_0; exact h
        refine lv_aload_n hx hb dX5_restore_39 rfl (lv_at hl 0 rfl) ?_
        refine dk_get (k := 0) hx hb hts iX5_restore_5 hown hK (dk_at0 hW) rfl 7 (by decide) (hts (.fieldLink RX5 42 "DogKings" "acts" "LDogKings$Acts;") (List.mem_of_getElem? (i := 5) rfl)) rfl dX5_restore_40 ?_
        refine dk_Vv (As := []) (rest := []) ⟨hx, hb, hml, hown, hts⟩ (fx_X0_forget_1 l g z I8 hO) (cwV 0 hts gX5_restore_X0_forget rfl rfl rfl (by decide +kernel) ⟨Nat.le_of_ble_eq_true rfl, Nat.le_of_ble_eq_true rfl⟩) (dk_at59 hW) rfl hK hT hW hS rfl hl.1 rfl (Nat.le_of_ble_eq_true rfl) dX5_restore_43 ⟨Nat.zero_le _, Nat.zero_le _⟩ (fun I13 H13 L13 hp13 hW hS => ?_)
        obtain ⟨hF13, hO, hc13⟩ := hp13
        have hF := dkF_call hF hF13 rfl
        obtain ⟨f13_59_2, xh13_0, -⟩ := hc13
        have y14 : I13 59 2 = 0 := by have h := xh13_0; exact h
        have hP := dkQQ_0 y14
        refine lv_iconst (v := 1) hx hb dX5_restore_46 (by decide) ?_
        exact W.iret (v := 1) hx hb hr (fun t ht hW9 => ⟨⟨1, I13, rfl, ⟨hF, hO, hP, Or.inr (⟨dkN_sub (dkN_lit (x := 1) (1) rfl) rfl, (show dkN [(1, 9)] (I13 37 0) from dkN_sub (by rw [hF13 37 0 rfl]; exact (by rw [hF8 37 0 rfl]; exact f3_37_0)) rfl), (show dkN [(0, 0)] (I13 59 2) from dkN_sub f13_59_2 rfl), q6, rfl, ((hF13 25 0 rfl).trans y9), ((hF13 25 4 rfl).trans y10), ((hF13 25 11 rfl).trans y11), y14, (fun j hj => (congrFun ((funext fun j => hF13 32 j (dkNin_k rfl dkNin_nil)).trans rfl) j).trans (xp8_0 j hj)), trivial⟩)⟩, dkW_eq ht hW⟩, hS.F ht⟩) hS.2.2 dX5_restore_47
      ·
        exact (dkN_nil (show dkN [] v3 from dkN_eq1 dv3 (dkN_lit (x := 0) (0) rfl) (congrArg Int32.toInt c7) rfl)).elim
  ·
    exact (dkN_nil (show dkN [] v1 from dkN_eq1 dv1 (dkN_lit (x := 0) (0) rfl) (congrArg Int32.toInt c2) rfl)).elim
set_option maxHeartbeats 4000000 in
set_option maxRecDepth 100000 in
theorem fx_X6_restore_2 (l : Launch) (g : dkG) (z : Nat) (I0 : dkI) (p0 : Int32) (dp0 : dkN [(0, 0)] p0)  (hO : dkOk I0) (hP : dkPP I0) : Met l yX6_restore wsX6_restore (dkR 1) (dkPc g z [.ref (z + 340), .int p0] I0) (dkQi g z (fun r I1 => dkF [(340, 340, 17, 17), (346, 346, 0, 53)] I0 I1 ∧ dkOk I1 ∧ dkPP I1 ∧ ((dkN [(1, 1)] r ∧ dkN [(0, 0)] (I1 340 17) ∧ dkN [(1, 1)] (I1 351 0) ∧ (I0 351 0).toInt ≠ (0 : Int) ∧ r = 1 ∧ I1 346 0 = I0 350 0 ∧ I1 346 4 = I0 350 4 ∧ I1 346 5 = I0 350 5 ∧ I1 346 36 = I0 350 36 ∧ I1 346 39 = I0 350 39 ∧ I1 346 42 = I0 350 42 ∧ I1 346 45 = I0 350 45 ∧ I1 346 48 = I0 350 48 ∧ I1 346 51 = I0 350 51 ∧ I1 340 17 = 0 ∧ True) ∨ (dkN [(-1000002, -1000002)] r ∧ dkN [(0, 0)] (I1 351 0) ∧ (I0 351 0).toInt = (0 : Int) ∧ r = (-1000002) ∧ I1 346 0 = I0 346 0 ∧ I1 346 4 = I0 346 4 ∧ I1 346 5 = I0 346 5 ∧ I1 346 36 = I0 346 36 ∧ I1 346 39 = I0 346 39 ∧ I1 346 42 = I0 346 42 ∧ I1 346 45 = I0 346 45 ∧ I1 346 48 = I0 346 48 ∧ I1 346 51 = I0 346 51 ∧ I1 340 17 = I0 340 17 ∧ I1 346  = I0 346 ∧ True)))) 0 0 (dkA z) := by
  obtain rfl : p0 = 0 := dkN_is dp0 rfl
  refine Met.ofW (cc := cX6_restore) (maxL := 2) (ret := (some .int)) (by decide) rfl ?_
  intro p e s m args below meth c s₁ B hml hv
  obtain ⟨ha, hW, hK, hT⟩ := hv
  have hx := B.exec
  have hb := B.bytes
  have hr := B.returns
  have hts := atoms_spec (ws := wsX6_restore) B.pre
  have hown : s.vm.findClass RX6 = some m.cls := findClass_of_methodNamed B.named
  have hlocks := B.notSynchronized
  have hS : va_S (dkA z) s.heap s.heap [] := va_S.rf
  have hF : dkF [(340, 340, 17, 17), (346, 346, 0, 53)] I0 I0 := dkF_rf _ _
  have hl := lv_entry ([.ref (z + 340), .int 0]) (n := 2) (Nat.le_of_ble_eq_true rfl)
  have hgo : entryFrame m args 2 = entryFrame m ([.ref (z + 340), .int 0] : List Value).toArray 2 := by rw [ha]
  rw [hgo, lg_entry_eq]
  generalize (lg_sl ([.ref (z + 340), .int 0]) ++ List.replicate (2 - (lg_sl ([.ref (z + 340), .int 0])).length) Slot.unset).toArray = ls at hl ⊢
  have hl : lv_has ls 2 [(0, .ref (z + 340)), (1, .int 0)] := hl
  refine lv_iload_n hx hb dX6_restore_0 rfl (lv_at hl 1 rfl) ?_
  refine lv_iconst (v := 0) hx hb dX6_restore_1 (by decide) ?_
  refine lv_iconst (v := 1) hx hb dX6_restore_2 (by decide) ?_
  refine dk_Si (As := [.int 0, .int 0, .int 1]) (rest := []) ⟨hx, hb, hml, hown, hts⟩ (fx_X6_in_34 l g z I0 0 0 1 (dkN_lit (x := 0) (0) rfl) (dkN_lit (x := 0) (0) rfl) (dkN_lit (x := 1) (1) rfl) hO) (va_cwS 3 hts gX6_restore_X6_in rfl rfl rfl (by decide +kernel) ⟨Nat.le_of_ble_eq_true rfl, Nat.le_of_ble_eq_true rfl⟩) hK hT hW hS rfl hl.1 rfl (Nat.le_of_ble_eq_true rfl) dX6_restore_3 ⟨Nat.zero_le _, Nat.zero_le _⟩ (fun v1 I1 H1 L1 hp1 hW hS => ?_)
  obtain ⟨hF1, hO, hc1⟩ := hp1
  have hF := dkF_call hF hF1 rfl
  have hP := dkPP_F hP hF1 rfl
  have eI1 : I0 = I1 := (dkF_nil hF1).symm
  subst eI1
  obtain ⟨dv1, x1_0, x1_1, xr1, -⟩ := hc1
  have xv1 : v1 = 1 := by have h := xr1; exact h
  refine lv_if_ne (tgt := 12) hx hb dX6_restore_6 (by decide) (fun c2 => ?_) (fun c2 => ?_)
  ·
    refine lv_aload_n hx hb dX6_restore_12 rfl (lv_at hl 0 rfl) ?_
    refine dk_get (k := 340) hx hb hts iX6_restore_6 hown hK (dk_at340 hW) rfl 19 (by decide) (hts (.fieldLink RX6 40 "DogKingsModel" "kept" "[Z") (List.mem_of_getElem? (i := 2) rfl)) rfl dX6_restore_13 ?_
    refine lv_iload_n hx hb dX6_restore_16 rfl (lv_at hl 1 rfl) ?_
    refine dk_zld (k := 351) hx hb hK (dk_at351 hW) (dkN_in (n := 2) (dkN_lit (x := 0) (0) rfl) rfl) dX6_restore_17 ?_
    refine lv_topi (fun v3 ev3 => ?_)
    have ev3 : v3 = I0 351 0 := ev3
    have dv3 : dkN [(0, 1)] v3 := by rw [ev3]; exact (show dkN [(0, 1)] (I0 351 0) from (hO 351 0))
    have xv3 : v3 = I0 351 0 := ev3.trans rfl
    refine lv_if_ne (tgt := 24) hx hb dX6_restore_18 (by decide) (fun c4 => ?_) (fun c4 => ?_)
    ·
      have q5 : (I0 351 0).toInt ≠ (0 : Int) := by first | (rw [← xv3]; exact (dk_ne c4)) | (subst xv3; exact (dk_ne c4))
      have d6 : dkN [(1, 1)] v3 := dkN_ne1 (0) dv3 (dkN_lit (x := 0) (0) rfl) (dk_ne c4) rfl
      have f7 : dkN [(1, 1)] (I0 351 0) := by rw [← ev3]; exact d6
      refine lv_aload_n hx hb dX6_restore_24 rfl (lv_at hl 0 rfl) ?_
      refine dk_get (k := 340) hx hb hts iX6_restore_6 hown hK (dk_at340 hW) rfl 18 (by decide) (hts (.fieldLink RX6 37 "DogKingsModel" "images" "[I") (List.mem_of_getElem? (i := 4) rfl)) rfl dX6_restore_25 ?_
      refine lv_bipush (v := 54) hx hb dX6_restore_28 (by decide) ?_
      refine lv_iload_n hx hb dX6_restore_30 rfl (lv_at hl 1 rfl) ?_
      refine lv_imul hx hb dX6_restore_31 ?_
      refine lv_topi (fun v8 ev8 => ?_)
      have dv8 : dkN [(0, 0)] v8 := by rw [ev8]; exact dkN_mulR 0 (by decide) (dkN_lit (x := 54) (54) rfl) (dkN_lit (x := 0) (0) rfl) rfl
      have xv8 : v8 = 0 := by rw [ev8]; rfl
      subst xv8
      refine lv_aload_n hx hb dX6_restore_32 rfl (lv_at hl 0 rfl) ?_
      refine dk_get (k := 340) hx hb hts iX6_restore_6 hown hK (dk_at340 hW) rfl 13 (by decide) (hts (.fieldLink RX6 25 "DogKingsModel" "now" "[I") (List.mem_of_getElem? (i := 5) rfl)) rfl dX6_restore_33 ?_
      refine lv_iconst (v := 0) hx hb dX6_restore_36 (by decide) ?_
      refine dk_Sv (As := [.ref (z + 350), .int 0, .ref (z + 346), .int 0]) (rest := []) ⟨hx, hb, hml, hown, hts⟩ (c_X6_copies l g z I0 (kf := 350) (kt := 346) (nf := 108) (nt := 54) 0 0 (A := 0) (B := 0) rfl rfl (by decide) (by decide) (by decide) (by decide) (by decide) (by decide) (fun _ => rfl) (fun _ => rfl)) (va_cwS 4 hts gX6_restore_X6_copies rfl rfl rfl (by decide +kernel) ⟨Nat.le_of_ble_eq_true rfl, Nat.le_of_ble_eq_true rfl⟩) hK hT hW hS rfl hl.1 rfl (Nat.le_of_ble_eq_true rfl) dX6_restore_37 ⟨Nat.zero_le _, Nat.zero_le _⟩ (fun I9 H9 L9 eI9 hW hS => ?_)
      have eI9 : I9 = dkCp I0 350 346 0 0 := eI9
      have hO := dkO_cp hO eI9 (by decide) (by decide) (by decide) (by decide)
      have hF := dkF_cp (lo := 0) (hi := 0) hF eI9 ⟨by decide, by decide⟩ rfl
      refine lv_aload_n hx hb dX6_restore_40 rfl (lv_at hl 0 rfl) ?_
      refine lv_iconst (v := 0) hx hb dX6_restore_41 (by decide) ?_
      refine dk_put (k := 340) hx hb hts iX6_restore_6 tyX6 tyX6_ok nmX6 hown hK hW (dk_at340 hW) hS rfl 17 (by decide) (hts (.fieldLink RX6 142 "DogKingsModel" "acts" "I") (List.mem_of_getElem? (i := 6) rfl)) rfl rfl (Nat.le_of_ble_eq_true rfl) rfl dX6_restore_42 (fun I10 H10 L10 eI10 hW hS => ?_)
      have eI10 : I10 = dkU I9 340 17 0 := eI10
      have hO := dkO_set hO eI10 (dkN_sub (dkN_lit (x := 0) (0) rfl) rfl)
      have hF := dkF_set hF eI10 rfl
      have hP := dkPP_restore hP (dkN_lit (x := 0) (0) rfl) (show v3 = _ from ev3) c4 (show (0 : Int32) = 54 * 0 from rfl) eI9 eI10 rfl
      refine lv_iconst (v := 1) hx hb dX6_restore_45 (by decide) ?_
      exact W.iret (v := 1) hx hb hr (fun t ht hW9 => ⟨⟨1, I10, rfl, ⟨hF, hO, hP, Or.inl ⟨dkN_sub (dkN_lit (x := 1) (1) rfl) rfl, (show dkN [(0, 0)] (I10 340 17) from dkN_sub (by rw [eI10, dkU_ss]; exact (dkN_lit (x := 0) (0) rfl)) rfl), (show dkN [(1, 1)] (I10 351 0) from dkN_sub (by rw [eI10, dkU_n (by decide)]; exact (by rw [(dkCp_n eI9 (by decide))]; exact f7)) rfl), q5, rfl, ((by rw [eI10, dkU_n (by decide)] : I10 346 0 = _).trans ((dkCp_in eI9 (by decide)).trans rfl)), ((by rw [eI10, dkU_n (by decide)] : I10 346 4 = _).trans ((dkCp_in eI9 (by decide)).trans rfl)), ((by rw [eI10, dkU_n (by decide)] : I10 346 5 = _).trans ((dkCp_in eI9 (by decide)).trans rfl)), ((by rw [eI10, dkU_n (by decide)] : I10 346 36 = _).trans ((dkCp_in eI9 (by decide)).trans rfl)), ((by rw [eI10, dkU_n (by decide)] : I10 346 39 = _).trans ((dkCp_in eI9 (by decide)).trans rfl)), ((by rw [eI10, dkU_n (by decide)] : I10 346 42 = _).trans ((dkCp_in eI9 (by decide)).trans rfl)), ((by rw [eI10, dkU_n (by decide)] : I10 346 45 = _).trans ((dkCp_in eI9 (by decide)).trans rfl)), ((by rw [eI10, dkU_n (by decide)] : I10 346 48 = _).trans ((dkCp_in eI9 (by decide)).trans rfl)), ((by rw [eI10, dkU_n (by decide)] : I10 346 51 = _).trans ((dkCp_in eI9 (by decide)).trans rfl)), (by rw [eI10, dkU_ss]), trivial⟩⟩, dkW_eq ht hW⟩, hS.F ht⟩) hS.2.2 dX6_restore_46
    ·
      have q11 : (I0 351 0).toInt = (0 : Int) := by first | (rw [← xv3]; exact (congrArg Int32.toInt c4)) | (subst xv3; exact (congrArg Int32.toInt c4))
      have d12 : dkN [(0, 0)] v3 := dkN_eq1 dv3 (dkN_lit (x := 0) (0) rfl) (congrArg Int32.toInt c4) rfl
      have f13 : dkN [(0, 0)] (I0 351 0) := by rw [← ev3]; exact d12
      refine lv_ldc (v := (-1000002)) hx hb hown (hts (.constant RX6 185 (-1000002)) (List.mem_of_getElem? (i := 3) rfl)) dX6_restore_21 ?_
      exact W.iret (v := (-1000002)) hx hb hr (fun t ht hW9 => ⟨⟨(-1000002), I0, rfl, ⟨hF, hO, hP, Or.inr (⟨dkN_sub (dkN_lit (x := (-1000002)) (-1000002) rfl) rfl, (show dkN [(0, 0)] (I0 351 0) from dkN_sub f13 rfl), q11, rfl, rfl, rfl, rfl, rfl, rfl, rfl, rfl, rfl, rfl, rfl, rfl, trivial⟩)⟩, dkW_eq ht hW⟩, hS.F ht⟩) hS.2.2 dX6_restore_23
  ·
    exact (dkN_nil (show dkN [] v1 from dkN_eq1 dv1 (dkN_lit (x := 0) (0) rfl) (congrArg Int32.toInt c2) rfl)).elim
set_option maxHeartbeats 4000000 in
set_option maxRecDepth 100000 in
theorem fx_X5_isUpTo_11 (l : Launch) (g : dkG) (z : Nat) (I0 : dkI) (p0 : Int32) (p1 : Int32) (dp0 : dkN [(1, 1)] p0) (dp1 : dkN [(1, 1)] p1)  (hO : dkOk I0) : Met l yX5_isUpTo wsX5_isUpTo (dkR 0) (dkPc g z [.int p0, .int p1] I0) (dkQi g z (fun r I1 => dkF [] I0 I1 ∧ dkOk I1 ∧ ((dkN [(1, 1)] r ∧ (0 : Int) + 0 ≤ p0.toInt ∧ p0.toInt + 0 ≤ p1.toInt ∧ r = 1 ∧ True)))) 0 0 (dkA z) := by
  refine Met.ofW (cc := cX5_isUpTo) (maxL := 2) (ret := (some .boolean)) (by decide) rfl ?_
  intro p e s m args below meth c s₁ B hml hv
  obtain ⟨ha, hW, hK, hT⟩ := hv
  have hx := B.exec
  have hb := B.bytes
  have hr := B.returns
  have hts := atoms_spec (ws := wsX5_isUpTo) B.pre
  have hown : s.vm.findClass RX5 = some m.cls := findClass_of_methodNamed B.named
  have hlocks := B.notSynchronized
  have hS : va_S (dkA z) s.heap s.heap [] := va_S.rf
  have hF : dkF [] I0 I0 := dkF_rf _ _
  have hl := lv_entry ([.int p0, .int p1]) (n := 2) (Nat.le_of_ble_eq_true rfl)
  have hgo : entryFrame m args 2 = entryFrame m ([.int p0, .int p1] : List Value).toArray 2 := by rw [ha]
  rw [hgo, lg_entry_eq]
  generalize (lg_sl ([.int p0, .int p1]) ++ List.replicate (2 - (lg_sl ([.int p0, .int p1])).length) Slot.unset).toArray = ls at hl ⊢
  have hl : lv_has ls 2 [(0, .int p0), (1, .int p1)] := hl
  refine lv_iload_n hx hb dX5_isUpTo_0 rfl (lv_at hl 0 rfl) ?_
  refine lv_if_lt (tgt := 13) hx hb dX5_isUpTo_1 (by decide) (fun c1 => ?_) (fun c1 => ?_)
  ·
    exact (dkN_nil (show dkN [] p0 from dkN_le1 1 dp0 (dkN_lit (x := 0) (0) rfl) (dkc_lt c1) rfl)).elim
  ·
    have q2 : (0 : Int) + 0 ≤ p0.toInt := (dkc_nlt c1)
    refine lv_iload_n hx hb dX5_isUpTo_4 rfl (lv_at hl 0 rfl) ?_
    refine lv_iload_n hx hb dX5_isUpTo_5 rfl (lv_at hl 1 rfl) ?_
    refine lv_icmp_gt (tgt := 13) hx hb dX5_isUpTo_6 (by decide) (fun c3 => ?_) (fun c3 => ?_)
    ·
      exact (dkN_nil (show dkN [] p1 from dkN_le1 1 dp1 dp0 (dkc_lt c3) rfl)).elim
    ·
      have q4 : p0.toInt + 0 ≤ p1.toInt := (dkc_nlt c3)
      refine lv_iconst (v := 1) hx hb dX5_isUpTo_9 (by decide) ?_
      refine lv_goto (tgt := 14) hx hb dX5_isUpTo_10 (by decide) ?_
      exact W.zret (v := 1) (ty := .boolean) hx hb hr rfl (fun t ht hW9 => ⟨⟨1, I0, rfl, ⟨hF, hO, ⟨dkN_sub (dkN_lit (x := 1) (1) rfl) rfl, q2, q4, rfl, trivial⟩⟩, dkW_eq ht hW⟩, hS.F ht⟩) hS.2.2 dX5_isUpTo_14
set_option maxHeartbeats 4000000 in
set_option maxRecDepth 100000 in
theorem fx_X5_image_3 (l : Launch) (g : dkG) (z : Nat) (I0 : dkI) (p0 : Int32) (dp0 : dkN [(1, 1)] p0)  (hO : dkOk I0) : Met l yX5_image wsX5_image (dkR 1) (dkPc g z [.ref (z + 0), .int p0] I0) (dkQi g z (fun r I1 => dkF [(48, 48, 0, 4), (48, 48, 11, 11), (48, 48, 15, 17), (49, 49, 0, 4), (50, 50, 0, 4), (51, 51, 0, 4), (52, 52, 0, 4), (53, 53, 0, 4), (54, 54, 0, 4), (55, 55, 0, 5), (56, 56, 0, 5), (57, 57, 0, 5)] I0 I1 ∧ dkOk I1 ∧ ((dkN [(-1000002, -1000002)] r ∧ dkN [(0, 0)] (I1 25 0) ∧ (I0 25 0).toInt + 0 ≤ (0 : Int) ∧ r = (-1000002) ∧ I1 37 0 = I0 37 0 ∧ I1 37 4 = I0 37 4 ∧ I1 37 11 = I0 37 11 ∧ I1 48 0 = I0 48 0 ∧ I1 48 4 = I0 48 4 ∧ I1 48 11 = I0 48 11 ∧ I1 44  = I0 44 ∧ I1 55  = I0 55 ∧ True) ∨ (dkN [(1, 1)] r ∧ dkN [(1, 9)] (I1 25 0) ∧ (0 : Int) + 1 ≤ (I0 25 0).toInt ∧ r = 1 ∧ I1 37 0 = I0 37 0 ∧ I1 37 4 = I0 37 4 ∧ I1 37 11 = I0 37 11 ∧ I1 48 0 = I0 25 0 ∧ I1 48 4 = I0 25 4 ∧ I1 48 11 = I0 25 11 ∧ I1 44  = I0 44 ∧ (∀ j : Nat, j < Int32.toNatClampNeg (I0 25 11) → I1 55 j = I0 32 j) ∧ True)))) 0 0 (dkA z) := by
  obtain rfl : p0 = 1 := dkN_is dp0 rfl
  refine Met.ofW (cc := cX5_image) (maxL := 2) (ret := (some .int)) (by decide) rfl ?_
  intro p e s m args below meth c s₁ B hml hv
  obtain ⟨ha, hW, hK, hT⟩ := hv
  have hx := B.exec
  have hb := B.bytes
  have hr := B.returns
  have hts := atoms_spec (ws := wsX5_image) B.pre
  have hown : s.vm.findClass RX5 = some m.cls := findClass_of_methodNamed B.named
  have hlocks := B.notSynchronized
  have hS : va_S (dkA z) s.heap s.heap [] := va_S.rf
  have hF : dkF [(48, 48, 0, 4), (48, 48, 11, 11), (48, 48, 15, 17), (49, 49, 0, 4), (50, 50, 0, 4), (51, 51, 0, 4), (52, 52, 0, 4), (53, 53, 0, 4), (54, 54, 0, 4), (55, 55, 0, 5), (56, 56, 0, 5), (57, 57, 0, 5)] I0 I0 := dkF_rf _ _
  have hl := lv_entry ([.ref (z + 0), .int 1]) (n := 2) (Nat.le_of_ble_eq_true rfl)
  have hgo : entryFrame m args 2 = entryFrame m ([.ref (z + 0), .int 1] : List Value).toArray 2 := by rw [ha]
  rw [hgo, lg_entry_eq]
  generalize (lg_sl ([.ref (z + 0), .int 1]) ++ List.replicate (2 - (lg_sl ([.ref (z + 0), .int 1])).length) Slot.unset).toArray = ls at hl ⊢
  have hl : lv_has ls 2 [(0, .ref (z + 0)), (1, .int 1)] := hl
  refine lv_iload_n hx hb dX5_image_0 rfl (lv_at hl 1 rfl) ?_
  refine lv_iconst (v := 1) hx hb dX5_image_1 (by decide) ?_
  refine dk_Si (As := [.int 1, .int 1]) (rest := []) ⟨hx, hb, hml, hown, hts⟩ (fx_X5_isUpTo_11 l g z I0 1 1 (dkN_lit (x := 1) (1) rfl) (dkN_lit (x := 1) (1) rfl) hO) (va_cwS 2 hts gX5_image_X5_isUpTo rfl rfl rfl (by decide +kernel) ⟨Nat.le_of_ble_eq_true rfl, Nat.le_of_ble_eq_true rfl⟩) hK hT hW hS rfl hl.1 rfl (Nat.le_of_ble_eq_true rfl) dX5_image_2 ⟨Nat.zero_le _, Nat.zero_le _⟩ (fun v1 I1 H1 L1 hp1 hW hS => ?_)
  obtain ⟨hF1, hO, hc1⟩ := hp1
  have hF := dkF_call hF hF1 rfl
  have eI1 : I0 = I1 := (dkF_nil hF1).symm
  subst eI1
  obtain ⟨dv1, x1_0, x1_1, xr1, -⟩ := hc1
  have xv1 : v1 = 1 := by have h := xr1; exact h
  refine lv_if_ne (tgt := 11) hx hb dX5_image_5 (by decide) (fun c2 => ?_) (fun c2 => ?_)
  ·
    refine lv_aload_n hx hb dX5_image_11 rfl (lv_at hl 0 rfl) ?_
    refine dk_get (k := 0) hx hb hts iX5_image_5 hown hK (dk_at0 hW) rfl 5 (by decide) (hts (.fieldLink RX5 31 "DogKings" "now" "LDogKings$Town;") (List.mem_of_getElem? (i := 2) rfl)) rfl dX5_image_12 ?_
    refine dk_Vi (As := []) (rest := []) ⟨hx, hb, hml, hown, hts⟩ (fx_X4_stands_1 l g z I0 (25) (by unfold dkT; omega) hO) (cwV 0 hts gX5_image_X4_stands rfl rfl rfl (by decide +kernel) ⟨Nat.le_of_ble_eq_true rfl, Nat.le_of_ble_eq_true rfl⟩) (dk_at25 hW) rfl hK hT hW hS rfl hl.1 rfl (Nat.le_of_ble_eq_true rfl) dX5_image_15 ⟨Nat.zero_le _, Nat.zero_le _⟩ (fun v3 I3 H3 L3 hp3 hW hS => ?_)
    obtain ⟨hF3, hO, hc3⟩ := hp3
    have hF := dkF_call hF hF3 rfl
    have eI3 : I0 = I3 := (dkF_nil hF3).symm
    subst eI3
    rcases hc3 with ⟨dv3, f3_25_0, x3_0, xr3, -⟩ | hc3
    ·
      have q4 : (I0 25 0).toInt + 0 ≤ (0 : Int) := x3_0
      have xv3 : v3 = 0 := by have h := xr3; exact h
      refine lv_if_ne (tgt := 24) hx hb dX5_image_18 (by decide) (fun c5 => ?_) (fun c5 => ?_)
      ·
        exact absurd ((xv3).trans (rfl).symm) c5
      ·
        refine lv_ldc (v := (-1000002)) hx hb hown (hts (.constant RX5 129 (-1000002)) (List.mem_of_getElem? (i := 3) rfl)) dX5_image_21 ?_
        exact W.iret (v := (-1000002)) hx hb hr (fun t ht hW9 => ⟨⟨(-1000002), I0, rfl, ⟨hF, hO, Or.inl ⟨dkN_sub (dkN_lit (x := (-1000002)) (-1000002) rfl) rfl, (show dkN [(0, 0)] (I0 25 0) from dkN_sub f3_25_0 rfl), q4, rfl, rfl, rfl, rfl, rfl, rfl, rfl, rfl, rfl, trivial⟩⟩, dkW_eq ht hW⟩, hS.F ht⟩) hS.2.2 dX5_image_23
    ·
      obtain ⟨dv3, f3_25_0, x3_0, xr3, -⟩ := hc3
      have q6 : (0 : Int) + 1 ≤ (I0 25 0).toInt := x3_0
      have xv3 : v3 = 1 := by have h := xr3; exact h
      refine lv_if_ne (tgt := 24) hx hb dX5_image_18 (by decide) (fun c7 => ?_) (fun c7 => ?_)
      ·
        refine lv_aload_n hx hb dX5_image_24 rfl (lv_at hl 0 rfl) ?_
        refine dk_get (k := 0) hx hb hts iX5_image_5 hown hK (dk_at0 hW) rfl 6 (by decide) (hts (.fieldLink RX5 35 "DogKings" "images" "[LDogKings$Town;") (List.mem_of_getElem? (i := 4) rfl)) rfl dX5_image_25 ?_
        refine lv_iload_n hx hb dX5_image_28 rfl (lv_at hl 1 rfl) ?_
        refine dk_tld (r := z + 48) hx hb hK (dk_at36 hW) (dkN_in (n := 2) (dkN_lit (x := 1) (1) rfl) rfl) (by rw [dkN_cl (dkN_lit (x := 1) (1) rfl)]; rfl) dX5_image_29 ?_
        refine lv_aload_n hx hb dX5_image_30 rfl (lv_at hl 0 rfl) ?_
        refine dk_get (k := 0) hx hb hts iX5_image_5 hown hK (dk_at0 hW) rfl 5 (by decide) (hts (.fieldLink RX5 31 "DogKings" "now" "LDogKings$Town;") (List.mem_of_getElem? (i := 2) rfl)) rfl dX5_image_31 ?_
        refine dk_Vv (As := [.ref (z + 25)]) (rest := []) ⟨hx, hb, hml, hown, hts⟩ (fx_X4_become_1 l g z I0 (48) (by unfold dkT; omega) (25) (by unfold dkT; omega) (by omega) hO) (cwV 1 hts gX5_image_X4_become rfl rfl rfl (by decide +kernel) ⟨Nat.le_of_ble_eq_true rfl, Nat.le_of_ble_eq_true rfl⟩) (dk_at48 hW) rfl hK hT hW hS rfl hl.1 rfl (Nat.le_of_ble_eq_true rfl) dX5_image_34 ⟨Nat.zero_le _, Nat.zero_le _⟩ (fun I8 H8 L8 hp8 hW hS => ?_)
        obtain ⟨hF8, hO, hc8⟩ := hp8
        have hF := dkF_call hF hF8 rfl
        obtain ⟨xh8_0, xh8_1, xh8_2, xp8_0, -⟩ := hc8
        have y9 : I8 48 0 = I0 25 0 := by have h := xh8_0; exact h
        have y10 : I8 48 4 = I0 25 4 := by have h := xh8_1; exact h
        have y11 : I8 48 11 = I0 25 11 := by have h := xh8_2; exact h
        have yp12 : ∀ j : Nat, j < Int32.toNatClampNeg (I0 25 11) → I8 55 j = I0 32 j := by have h := xp8_0; exact h
        refine lv_iconst (v := 1) hx hb dX5_image_37 (by decide) ?_
        exact W.iret (v := 1) hx hb hr (fun t ht hW9 => ⟨⟨1, I8, rfl, ⟨hF, hO, Or.inr (⟨dkN_sub (dkN_lit (x := 1) (1) rfl) rfl, (show dkN [(1, 9)] (I8 25 0) from dkN_sub (by rw [hF8 25 0 rfl]; exact f3_25_0) rfl), q6, rfl, ((hF8 37 0 rfl).trans rfl), ((hF8 37 4 rfl).trans rfl), ((hF8 37 11 rfl).trans rfl), y9, y10, y11, ((funext fun j => hF8 44 j (dkNin_k rfl (dkNin_k rfl (dkNin_k rfl (dkNin_k rfl (dkNin_k rfl (dkNin_k rfl (dkNin_k rfl (dkNin_k rfl (dkNin_k rfl (dkNin_k rfl (dkNin_k rfl (dkNin_k rfl dkNin_nil))))))))))))).trans rfl), (fun j hj => (congrFun rfl j).trans (xp8_0 j hj)), trivial⟩)⟩, dkW_eq ht hW⟩, hS.F ht⟩) hS.2.2 dX5_image_38
      ·
        exact (dkN_nil (show dkN [] v3 from dkN_eq1 dv3 (dkN_lit (x := 0) (0) rfl) (congrArg Int32.toInt c7) rfl)).elim
  ·
    exact (dkN_nil (show dkN [] v1 from dkN_eq1 dv1 (dkN_lit (x := 0) (0) rfl) (congrArg Int32.toInt c2) rfl)).elim
set_option maxHeartbeats 4000000 in
set_option maxRecDepth 100000 in
theorem fx_X6_in_35 (l : Launch) (g : dkG) (z : Nat) (I0 : dkI) (p0 : Int32) (p1 : Int32) (p2 : Int32) (dp0 : dkN [(1, 1)] p0) (dp1 : dkN [(0, 0)] p1) (dp2 : dkN [(1, 1)] p2)  (hO : dkOk I0) : Met l yX6_in wsX6_in (dkR 0) (dkPc g z [.int p0, .int p1, .int p2] I0) (dkQi g z (fun r I1 => dkF [] I0 I1 ∧ dkOk I1 ∧ ((dkN [(1, 1)] r ∧ p1.toInt + 0 ≤ p0.toInt ∧ p0.toInt + 0 ≤ p2.toInt ∧ r = 1 ∧ True)))) 0 0 (dkA z) := by
  refine Met.ofW (cc := cX6_in) (maxL := 3) (ret := (some .boolean)) (by decide) rfl ?_
  intro p e s m args below meth c s₁ B hml hv
  obtain ⟨ha, hW, hK, hT⟩ := hv
  have hx := B.exec
  have hb := B.bytes
  have hr := B.returns
  have hts := atoms_spec (ws := wsX6_in) B.pre
  have hown : s.vm.findClass RX6 = some m.cls := findClass_of_methodNamed B.named
  have hlocks := B.notSynchronized
  have hS : va_S (dkA z) s.heap s.heap [] := va_S.rf
  have hF : dkF [] I0 I0 := dkF_rf _ _
  have hl := lv_entry ([.int p0, .int p1, .int p2]) (n := 3) (Nat.le_of_ble_eq_true rfl)
  have hgo : entryFrame m args 3 = entryFrame m ([.int p0, .int p1, .int p2] : List Value).toArray 3 := by rw [ha]
  rw [hgo, lg_entry_eq]
  generalize (lg_sl ([.int p0, .int p1, .int p2]) ++ List.replicate (3 - (lg_sl ([.int p0, .int p1, .int p2])).length) Slot.unset).toArray = ls at hl ⊢
  have hl : lv_has ls 3 [(0, .int p0), (1, .int p1), (2, .int p2)] := hl
  refine lv_iload_n hx hb dX6_in_0 rfl (lv_at hl 0 rfl) ?_
  refine lv_iload_n hx hb dX6_in_1 rfl (lv_at hl 1 rfl) ?_
  refine lv_icmp_lt (tgt := 14) hx hb dX6_in_2 (by decide) (fun c1 => ?_) (fun c1 => ?_)
  ·
    exact (dkN_nil (show dkN [] p0 from dkN_le1 1 dp0 dp1 (dkc_lt c1) rfl)).elim
  ·
    have q2 : p1.toInt + 0 ≤ p0.toInt := (dkc_nlt c1)
    refine lv_iload_n hx hb dX6_in_5 rfl (lv_at hl 0 rfl) ?_
    refine lv_iload_n hx hb dX6_in_6 rfl (lv_at hl 2 rfl) ?_
    refine lv_icmp_gt (tgt := 14) hx hb dX6_in_7 (by decide) (fun c3 => ?_) (fun c3 => ?_)
    ·
      exact (dkN_nil (show dkN [] p2 from dkN_le1 1 dp2 dp0 (dkc_lt c3) rfl)).elim
    ·
      have q4 : p0.toInt + 0 ≤ p2.toInt := (dkc_nlt c3)
      refine lv_iconst (v := 1) hx hb dX6_in_10 (by decide) ?_
      refine lv_goto (tgt := 15) hx hb dX6_in_11 (by decide) ?_
      exact W.zret (v := 1) (ty := .boolean) hx hb hr rfl (fun t ht hW9 => ⟨⟨1, I0, rfl, ⟨hF, hO, ⟨dkN_sub (dkN_lit (x := 1) (1) rfl) rfl, q2, q4, rfl, trivial⟩⟩, dkW_eq ht hW⟩, hS.F ht⟩) hS.2.2 dX6_in_15
set_option maxHeartbeats 4000000 in
set_option maxRecDepth 100000 in
theorem fx_X6_image_3 (l : Launch) (g : dkG) (z : Nat) (I0 : dkI) (p0 : Int32) (dp0 : dkN [(1, 1)] p0)  (hO : dkOk I0) (hP : dkPP I0) : Met l yX6_image wsX6_image (dkR 1) (dkPc g z [.ref (z + 340), .int p0] I0) (dkQi g z (fun r I1 => dkF [(350, 350, 54, 107), (351, 351, 1, 1)] I0 I1 ∧ dkOk I1 ∧ dkPP I1 ∧ ((dkN [(-1000002, -1000002)] r ∧ dkN [(0, 0)] (I1 346 0) ∧ (I0 346 0).toInt + 0 ≤ (0 : Int) ∧ r = (-1000002) ∧ I1 350 0 = I0 350 0 ∧ I1 350 4 = I0 350 4 ∧ I1 350 5 = I0 350 5 ∧ I1 350 36 = I0 350 36 ∧ I1 350 39 = I0 350 39 ∧ I1 350 42 = I0 350 42 ∧ I1 350 45 = I0 350 45 ∧ I1 350 48 = I0 350 48 ∧ I1 350 51 = I0 350 51 ∧ I1 350 54 = I0 350 54 ∧ I1 350 58 = I0 350 58 ∧ I1 350 59 = I0 350 59 ∧ I1 350 90 = I0 350 90 ∧ I1 350 93 = I0 350 93 ∧ I1 350 96 = I0 350 96 ∧ I1 350 99 = I0 350 99 ∧ I1 350 102 = I0 350 102 ∧ I1 350 105 = I0 350 105 ∧ I1 351 0 = I0 351 0 ∧ I1 351 1 = I0 351 1 ∧ I1 350  = I0 350 ∧ True) ∨ (dkN [(1, 1)] r ∧ dkN [(1, 9)] (I1 346 0) ∧ dkN [(1, 9)] (I1 350 54) ∧ dkN [(1, 1)] (I1 351 1) ∧ (0 : Int) + 1 ≤ (I0 346 0).toInt ∧ r = 1 ∧ I1 350 0 = I0 350 0 ∧ I1 350 4 = I0 350 4 ∧ I1 350 5 = I0 350 5 ∧ I1 350 36 = I0 350 36 ∧ I1 350 39 = I0 350 39 ∧ I1 350 42 = I0 350 42 ∧ I1 350 45 = I0 350 45 ∧ I1 350 48 = I0 350 48 ∧ I1 350 51 = I0 350 51 ∧ I1 350 54 = I0 346 0 ∧ I1 350 58 = I0 346 4 ∧ I1 350 59 = I0 346 5 ∧ I1 350 90 = I0 346 36 ∧ I1 350 93 = I0 346 39 ∧ I1 350 96 = I0 346 42 ∧ I1 350 99 = I0 346 45 ∧ I1 350 102 = I0 346 48 ∧ I1 350 105 = I0 346 51 ∧ I1 351 0 = I0 351 0 ∧ I1 351 1 = 1 ∧ True)))) 0 0 (dkA z) := by
  obtain rfl : p0 = 1 := dkN_is dp0 rfl
  refine Met.ofW (cc := cX6_image) (maxL := 2) (ret := (some .int)) (by decide) rfl ?_
  intro p e s m args below meth c s₁ B hml hv
  obtain ⟨ha, hW, hK, hT⟩ := hv
  have hx := B.exec
  have hb := B.bytes
  have hr := B.returns
  have hts := atoms_spec (ws := wsX6_image) B.pre
  have hown : s.vm.findClass RX6 = some m.cls := findClass_of_methodNamed B.named
  have hlocks := B.notSynchronized
  have hS : va_S (dkA z) s.heap s.heap [] := va_S.rf
  have hF : dkF [(350, 350, 54, 107), (351, 351, 1, 1)] I0 I0 := dkF_rf _ _
  have hl := lv_entry ([.ref (z + 340), .int 1]) (n := 2) (Nat.le_of_ble_eq_true rfl)
  have hgo : entryFrame m args 2 = entryFrame m ([.ref (z + 340), .int 1] : List Value).toArray 2 := by rw [ha]
  rw [hgo, lg_entry_eq]
  generalize (lg_sl ([.ref (z + 340), .int 1]) ++ List.replicate (2 - (lg_sl ([.ref (z + 340), .int 1])).length) Slot.unset).toArray = ls at hl ⊢
  have hl : lv_has ls 2 [(0, .ref (z + 340)), (1, .int 1)] := hl
  refine lv_iload_n hx hb dX6_image_0 rfl (lv_at hl 1 rfl) ?_
  refine lv_iconst (v := 0) hx hb dX6_image_1 (by decide) ?_
  refine lv_iconst (v := 1) hx hb dX6_image_2 (by decide) ?_
  refine dk_Si (As := [.int 1, .int 0, .int 1]) (rest := []) ⟨hx, hb, hml, hown, hts⟩ (fx_X6_in_35 l g z I0 1 0 1 (dkN_lit (x := 1) (1) rfl) (dkN_lit (x := 0) (0) rfl) (dkN_lit (x := 1) (1) rfl) hO) (va_cwS 3 hts gX6_image_X6_in rfl rfl rfl (by decide +kernel) ⟨Nat.le_of_ble_eq_true rfl, Nat.le_of_ble_eq_true rfl⟩) hK hT hW hS rfl hl.1 rfl (Nat.le_of_ble_eq_true rfl) dX6_image_3 ⟨Nat.zero_le _, Nat.zero_le _⟩ (fun v1 I1 H1 L1 hp1 hW hS => ?_)
  obtain ⟨hF1, hO, hc1⟩ := hp1
  have hF := dkF_call hF hF1 rfl
  have hP := dkPP_F hP hF1 rfl
  have eI1 : I0 = I1 := (dkF_nil hF1).symm
  subst eI1
  obtain ⟨dv1, x1_0, x1_1, xr1, -⟩ := hc1
  have xv1 : v1 = 1 := by have h := xr1; exact h
  refine lv_if_ne (tgt := 12) hx hb dX6_image_6 (by decide) (fun c2 => ?_) (fun c2 => ?_)
  ·
    refine lv_aload_n hx hb dX6_image_12 rfl (lv_at hl 0 rfl) ?_
    refine dk_Vi (As := []) (rest := []) ⟨hx, hb, hml, hown, hts⟩ (fx_X6_isTown_2 l g z I0 hO) (cwV 0 hts gX6_image_X6_isTown rfl rfl rfl (by decide +kernel) ⟨Nat.le_of_ble_eq_true rfl, Nat.le_of_ble_eq_true rfl⟩) (dk_at340 hW) rfl hK hT hW hS rfl hl.1 rfl (Nat.le_of_ble_eq_true rfl) dX6_image_13 ⟨Nat.zero_le _, Nat.zero_le _⟩ (fun v3 I3 H3 L3 hp3 hW hS => ?_)
    obtain ⟨hF3, hO, hc3⟩ := hp3
    have hF := dkF_call hF hF3 rfl
    have hP := dkPP_F hP hF3 rfl
    have eI3 : I0 = I3 := (dkF_nil hF3).symm
    subst eI3
    rcases hc3 with ⟨dv3, f3_346_0, x3_0, xr3, -⟩ | hc3
    ·
      have q4 : (I0 346 0).toInt + 0 ≤ (0 : Int) := x3_0
      have xv3 : v3 = 0 := by have h := xr3; exact h
      refine lv_if_ne (tgt := 22) hx hb dX6_image_16 (by decide) (fun c5 => ?_) (fun c5 => ?_)
      ·
        exact absurd ((xv3).trans (rfl).symm) c5
      ·
        refine lv_ldc (v := (-1000002)) hx hb hown (hts (.constant RX6 185 (-1000002)) (List.mem_of_getElem? (i := 2) rfl)) dX6_image_19 ?_
        exact W.iret (v := (-1000002)) hx hb hr (fun t ht hW9 => ⟨⟨(-1000002), I0, rfl, ⟨hF, hO, hP, Or.inl ⟨dkN_sub (dkN_lit (x := (-1000002)) (-1000002) rfl) rfl, (show dkN [(0, 0)] (I0 346 0) from dkN_sub f3_346_0 rfl), q4, rfl, rfl, rfl, rfl, rfl, rfl, rfl, rfl, rfl, rfl, rfl, rfl, rfl, rfl, rfl, rfl, rfl, rfl, rfl, rfl, rfl, rfl, trivial⟩⟩, dkW_eq ht hW⟩, hS.F ht⟩) hS.2.2 dX6_image_21
    ·
      obtain ⟨dv3, f3_346_0, x3_0, xr3, -⟩ := hc3
      have q6 : (0 : Int) + 1 ≤ (I0 346 0).toInt := x3_0
      have xv3 : v3 = 1 := by have h := xr3; exact h
      refine lv_if_ne (tgt := 22) hx hb dX6_image_16 (by decide) (fun c7 => ?_) (fun c7 => ?_)
      ·
        refine lv_aload_n hx hb dX6_image_22 rfl (lv_at hl 0 rfl) ?_
        refine dk_get (k := 340) hx hb hts iX6_image_6 hown hK (dk_at340 hW) rfl 13 (by decide) (hts (.fieldLink RX6 25 "DogKingsModel" "now" "[I") (List.mem_of_getElem? (i := 3) rfl)) rfl dX6_image_23 ?_
        refine lv_iconst (v := 0) hx hb dX6_image_26 (by decide) ?_
        refine lv_aload_n hx hb dX6_image_27 rfl (lv_at hl 0 rfl) ?_
        refine dk_get (k := 340) hx hb hts iX6_image_6 hown hK (dk_at340 hW) rfl 18 (by decide) (hts (.fieldLink RX6 37 "DogKingsModel" "images" "[I") (List.mem_of_getElem? (i := 4) rfl)) rfl dX6_image_28 ?_
        refine lv_bipush (v := 54) hx hb dX6_image_31 (by decide) ?_
        refine lv_iload_n hx hb dX6_image_33 rfl (lv_at hl 1 rfl) ?_
        refine lv_imul hx hb dX6_image_34 ?_
        refine lv_topi (fun v8 ev8 => ?_)
        have dv8 : dkN [(54, 54)] v8 := by rw [ev8]; exact dkN_mulR 1 (by decide) (dkN_lit (x := 54) (54) rfl) (dkN_lit (x := 1) (1) rfl) rfl
        have xv8 : v8 = 54 := by rw [ev8]; rfl
        subst xv8
        refine dk_Sv (As := [.ref (z + 346), .int 0, .ref (z + 350), .int 54]) (rest := []) ⟨hx, hb, hml, hown, hts⟩ (c_X6_copies l g z I0 (kf := 346) (kt := 350) (nf := 54) (nt := 108) 0 54 (A := 0) (B := 54) rfl rfl (by decide) (by decide) (by decide) (by decide) (by decide) (by decide) (fun _ => rfl) (fun _ => rfl)) (va_cwS 4 hts gX6_image_X6_copies rfl rfl rfl (by decide +kernel) ⟨Nat.le_of_ble_eq_true rfl, Nat.le_of_ble_eq_true rfl⟩) hK hT hW hS rfl hl.1 rfl (Nat.le_of_ble_eq_true rfl) dX6_image_35 ⟨Nat.zero_le _, Nat.zero_le _⟩ (fun I9 H9 L9 eI9 hW hS => ?_)
        have eI9 : I9 = dkCp I0 346 350 0 54 := eI9
        have hO := dkO_cp hO eI9 (by decide) (by decide) (by decide) (by decide)
        have hF := dkF_cp (lo := 54) (hi := 54) hF eI9 ⟨by decide, by decide⟩ rfl
        refine lv_aload_n hx hb dX6_image_38 rfl (lv_at hl 0 rfl) ?_
        refine dk_get (k := 340) hx hb hts iX6_image_6 hown hK (dk_at340 hW) rfl 19 (by decide) (hts (.fieldLink RX6 40 "DogKingsModel" "kept" "[Z") (List.mem_of_getElem? (i := 5) rfl)) rfl dX6_image_39 ?_
        refine lv_iload_n hx hb dX6_image_42 rfl (lv_at hl 1 rfl) ?_
        refine lv_iconst (v := 1) hx hb dX6_image_43 (by decide) ?_
        refine dk_zst (k := 351) hx hb hK hW (fun _ => rfl) (by decide) hS (dkN_in (n := 2) (dkN_lit (x := 1) (1) rfl) rfl) rfl dX6_image_44 (fun I10 H10 L10 eI10 hW hS => ?_)
        have eI10 : I10 = dkU I9 351 1 1 := eI10
        have hO := dkO_set hO eI10 (dkN_sub (dkN_lit (x := 1) (1) rfl) rfl)
        have hF := dkF_set hF eI10 rfl
        have hP := dkPP_image hP (dkN_lit (x := 1) (1) rfl) (show (54 : Int32) = 54 * 1 from rfl) eI9 eI10 (dkN_sub f3_346_0 rfl) rfl
        refine lv_iconst (v := 1) hx hb dX6_image_45 (by decide) ?_
        exact W.iret (v := 1) hx hb hr (fun t ht hW9 => ⟨⟨1, I10, rfl, ⟨hF, hO, hP, Or.inr (⟨dkN_sub (dkN_lit (x := 1) (1) rfl) rfl, (show dkN [(1, 9)] (I10 346 0) from dkN_sub (by rw [eI10, dkU_n (by decide)]; exact (by rw [(dkCp_n eI9 (by decide))]; exact f3_346_0)) rfl), (show dkN [(1, 9)] (I10 350 54) from dkN_sub (by rw [eI10, dkU_n (by decide)]; exact (by rw [dkCp_in eI9 (by decide)]; exact f3_346_0)) rfl), (show dkN [(1, 1)] (I10 351 1) from dkN_sub (by rw [eI10, dkU_ss]; exact (dkN_lit (x := 1) (1) rfl)) rfl), q6, rfl, ((by rw [eI10, dkU_n (by decide)] : I10 350 0 = _).trans ((dkCp_out eI9 (by decide)).trans rfl)), ((by rw [eI10, dkU_n (by decide)] : I10 350 4 = _).trans ((dkCp_out eI9 (by decide)).trans rfl)), ((by rw [eI10, dkU_n (by decide)] : I10 350 5 = _).trans ((dkCp_out eI9 (by decide)).trans rfl)), ((by rw [eI10, dkU_n (by decide)] : I10 350 36 = _).trans ((dkCp_out eI9 (by decide)).trans rfl)), ((by rw [eI10, dkU_n (by decide)] : I10 350 39 = _).trans ((dkCp_out eI9 (by decide)).trans rfl)), ((by rw [eI10, dkU_n (by decide)] : I10 350 42 = _).trans ((dkCp_out eI9 (by decide)).trans rfl)), ((by rw [eI10, dkU_n (by decide)] : I10 350 45 = _).trans ((dkCp_out eI9 (by decide)).trans rfl)), ((by rw [eI10, dkU_n (by decide)] : I10 350 48 = _).trans ((dkCp_out eI9 (by decide)).trans rfl)), ((by rw [eI10, dkU_n (by decide)] : I10 350 51 = _).trans ((dkCp_out eI9 (by decide)).trans rfl)), ((by rw [eI10, dkU_n (by decide)] : I10 350 54 = _).trans ((dkCp_in eI9 (by decide)).trans rfl)), ((by rw [eI10, dkU_n (by decide)] : I10 350 58 = _).trans ((dkCp_in eI9 (by decide)).trans rfl)), ((by rw [eI10, dkU_n (by decide)] : I10 350 59 = _).trans ((dkCp_in eI9 (by decide)).trans rfl)), ((by rw [eI10, dkU_n (by decide)] : I10 350 90 = _).trans ((dkCp_in eI9 (by decide)).trans rfl)), ((by rw [eI10, dkU_n (by decide)] : I10 350 93 = _).trans ((dkCp_in eI9 (by decide)).trans rfl)), ((by rw [eI10, dkU_n (by decide)] : I10 350 96 = _).trans ((dkCp_in eI9 (by decide)).trans rfl)), ((by rw [eI10, dkU_n (by decide)] : I10 350 99 = _).trans ((dkCp_in eI9 (by decide)).trans rfl)), ((by rw [eI10, dkU_n (by decide)] : I10 350 102 = _).trans ((dkCp_in eI9 (by decide)).trans rfl)), ((by rw [eI10, dkU_n (by decide)] : I10 350 105 = _).trans ((dkCp_in eI9 (by decide)).trans rfl)), ((by rw [eI10, dkU_sn (by decide)] : I10 351 0 = _).trans ((dkCp_n eI9 (by decide)).trans rfl)), (by rw [eI10, dkU_ss]), trivial⟩)⟩, dkW_eq ht hW⟩, hS.F ht⟩) hS.2.2 dX6_image_46
      ·
        exact (dkN_nil (show dkN [] v3 from dkN_eq1 dv3 (dkN_lit (x := 0) (0) rfl) (congrArg Int32.toInt c7) rfl)).elim
  ·
    exact (dkN_nil (show dkN [] v1 from dkN_eq1 dv1 (dkN_lit (x := 0) (0) rfl) (congrArg Int32.toInt c2) rfl)).elim
set_option maxHeartbeats 4000000 in
set_option maxRecDepth 100000 in
theorem fx_X5_restore_3 (l : Launch) (g : dkG) (z : Nat) (I0 : dkI) (p0 : Int32) (dp0 : dkN [(1, 1)] p0)  (hO : dkOk I0) (hP : dkQQ I0) : Met l yX5_restore wsX5_restore (dkR 1) (dkPc g z [.ref (z + 0), .int p0] I0) (dkQi g z (fun r I1 => dkF [(25, 25, 0, 4), (25, 25, 11, 11), (25, 25, 15, 17), (26, 26, 0, 4), (27, 27, 0, 4), (28, 28, 0, 4), (29, 29, 0, 4), (30, 30, 0, 4), (31, 31, 0, 4), (32, 32, 0, 5), (33, 33, 0, 5), (34, 34, 0, 5), (59, 59, 2, 2)] I0 I1 ∧ dkOk I1 ∧ dkQQ I1 ∧ ((dkN [(-1000002, -1000002)] r ∧ dkN [(0, 0)] (I1 48 0) ∧ (I0 48 0).toInt + 0 ≤ (0 : Int) ∧ r = (-1000002) ∧ I1 25 0 = I0 25 0 ∧ I1 25 4 = I0 25 4 ∧ I1 25 11 = I0 25 11 ∧ I1 59 2 = I0 59 2 ∧ I1 32  = I0 32 ∧ True) ∨ (dkN [(1, 1)] r ∧ dkN [(1, 9)] (I1 48 0) ∧ dkN [(0, 0)] (I1 59 2) ∧ (0 : Int) + 1 ≤ (I0 48 0).toInt ∧ r = 1 ∧ I1 25 0 = I0 48 0 ∧ I1 25 4 = I0 48 4 ∧ I1 25 11 = I0 48 11 ∧ I1 59 2 = 0 ∧ (∀ j : Nat, j < Int32.toNatClampNeg (I0 48 11) → I1 32 j = I0 55 j) ∧ True)))) 0 0 (dkA z) := by
  obtain rfl : p0 = 1 := dkN_is dp0 rfl
  refine Met.ofW (cc := cX5_restore) (maxL := 2) (ret := (some .int)) (by decide) rfl ?_
  intro p e s m args below meth c s₁ B hml hv
  obtain ⟨ha, hW, hK, hT⟩ := hv
  have hx := B.exec
  have hb := B.bytes
  have hr := B.returns
  have hts := atoms_spec (ws := wsX5_restore) B.pre
  have hown : s.vm.findClass RX5 = some m.cls := findClass_of_methodNamed B.named
  have hlocks := B.notSynchronized
  have hS : va_S (dkA z) s.heap s.heap [] := va_S.rf
  have hF : dkF [(25, 25, 0, 4), (25, 25, 11, 11), (25, 25, 15, 17), (26, 26, 0, 4), (27, 27, 0, 4), (28, 28, 0, 4), (29, 29, 0, 4), (30, 30, 0, 4), (31, 31, 0, 4), (32, 32, 0, 5), (33, 33, 0, 5), (34, 34, 0, 5), (59, 59, 2, 2)] I0 I0 := dkF_rf _ _
  have hl := lv_entry ([.ref (z + 0), .int 1]) (n := 2) (Nat.le_of_ble_eq_true rfl)
  have hgo : entryFrame m args 2 = entryFrame m ([.ref (z + 0), .int 1] : List Value).toArray 2 := by rw [ha]
  rw [hgo, lg_entry_eq]
  generalize (lg_sl ([.ref (z + 0), .int 1]) ++ List.replicate (2 - (lg_sl ([.ref (z + 0), .int 1])).length) Slot.unset).toArray = ls at hl ⊢
  have hl : lv_has ls 2 [(0, .ref (z + 0)), (1, .int 1)] := hl
  refine lv_iload_n hx hb dX5_restore_0 rfl (lv_at hl 1 rfl) ?_
  refine lv_iconst (v := 1) hx hb dX5_restore_1 (by decide) ?_
  refine dk_Si (As := [.int 1, .int 1]) (rest := []) ⟨hx, hb, hml, hown, hts⟩ (fx_X5_isUpTo_11 l g z I0 1 1 (dkN_lit (x := 1) (1) rfl) (dkN_lit (x := 1) (1) rfl) hO) (va_cwS 2 hts gX5_restore_X5_isUpTo rfl rfl rfl (by decide +kernel) ⟨Nat.le_of_ble_eq_true rfl, Nat.le_of_ble_eq_true rfl⟩) hK hT hW hS rfl hl.1 rfl (Nat.le_of_ble_eq_true rfl) dX5_restore_2 ⟨Nat.zero_le _, Nat.zero_le _⟩ (fun v1 I1 H1 L1 hp1 hW hS => ?_)
  obtain ⟨hF1, hO, hc1⟩ := hp1
  have hF := dkF_call hF hF1 rfl
  have hP := dkQQ_F hP hF1 rfl
  have eI1 : I0 = I1 := (dkF_nil hF1).symm
  subst eI1
  obtain ⟨dv1, x1_0, x1_1, xr1, -⟩ := hc1
  have xv1 : v1 = 1 := by have h := xr1; exact h
  refine lv_if_ne (tgt := 11) hx hb dX5_restore_5 (by decide) (fun c2 => ?_) (fun c2 => ?_)
  ·
    refine lv_aload_n hx hb dX5_restore_11 rfl (lv_at hl 0 rfl) ?_
    refine dk_get (k := 0) hx hb hts iX5_restore_5 hown hK (dk_at0 hW) rfl 6 (by decide) (hts (.fieldLink RX5 35 "DogKings" "images" "[LDogKings$Town;") (List.mem_of_getElem? (i := 2) rfl)) rfl dX5_restore_12 ?_
    refine lv_iload_n hx hb dX5_restore_15 rfl (lv_at hl 1 rfl) ?_
    refine dk_tld (r := z + 48) hx hb hK (dk_at36 hW) (dkN_in (n := 2) (dkN_lit (x := 1) (1) rfl) rfl) (by rw [dkN_cl (dkN_lit (x := 1) (1) rfl)]; rfl) dX5_restore_16 ?_
    refine dk_Vi (As := []) (rest := []) ⟨hx, hb, hml, hown, hts⟩ (fx_X4_stands_1 l g z I0 (48) (by unfold dkT; omega) hO) (cwV 0 hts gX5_restore_X4_stands rfl rfl rfl (by decide +kernel) ⟨Nat.le_of_ble_eq_true rfl, Nat.le_of_ble_eq_true rfl⟩) (dk_at48 hW) rfl hK hT hW hS rfl hl.1 rfl (Nat.le_of_ble_eq_true rfl) dX5_restore_17 ⟨Nat.zero_le _, Nat.zero_le _⟩ (fun v3 I3 H3 L3 hp3 hW hS => ?_)
    obtain ⟨hF3, hO, hc3⟩ := hp3
    have hF := dkF_call hF hF3 rfl
    have hP := dkQQ_F hP hF3 rfl
    have eI3 : I0 = I3 := (dkF_nil hF3).symm
    subst eI3
    rcases hc3 with ⟨dv3, f3_48_0, x3_0, xr3, -⟩ | hc3
    ·
      have q4 : (I0 48 0).toInt + 0 ≤ (0 : Int) := x3_0
      have xv3 : v3 = 0 := by have h := xr3; exact h
      refine lv_if_ne (tgt := 26) hx hb dX5_restore_20 (by decide) (fun c5 => ?_) (fun c5 => ?_)
      ·
        exact absurd ((xv3).trans (rfl).symm) c5
      ·
        refine lv_ldc (v := (-1000002)) hx hb hown (hts (.constant RX5 129 (-1000002)) (List.mem_of_getElem? (i := 3) rfl)) dX5_restore_23 ?_
        exact W.iret (v := (-1000002)) hx hb hr (fun t ht hW9 => ⟨⟨(-1000002), I0, rfl, ⟨hF, hO, hP, Or.inl ⟨dkN_sub (dkN_lit (x := (-1000002)) (-1000002) rfl) rfl, (show dkN [(0, 0)] (I0 48 0) from dkN_sub f3_48_0 rfl), q4, rfl, rfl, rfl, rfl, rfl, rfl, trivial⟩⟩, dkW_eq ht hW⟩, hS.F ht⟩) hS.2.2 dX5_restore_25
    ·
      obtain ⟨dv3, f3_48_0, x3_0, xr3, -⟩ := hc3
      have q6 : (0 : Int) + 1 ≤ (I0 48 0).toInt := x3_0
      have xv3 : v3 = 1 := by have h := xr3; exact h
      refine lv_if_ne (tgt := 26) hx hb dX5_restore_20 (by decide) (fun c7 => ?_) (fun c7 => ?_)
      ·
        refine lv_aload_n hx hb dX5_restore_26 rfl (lv_at hl 0 rfl) ?_
        refine dk_get (k := 0) hx hb hts iX5_restore_5 hown hK (dk_at0 hW) rfl 5 (by decide) (hts (.fieldLink RX5 31 "DogKings" "now" "LDogKings$Town;") (List.mem_of_getElem? (i := 4) rfl)) rfl dX5_restore_27 ?_
        refine lv_aload_n hx hb dX5_restore_30 rfl (lv_at hl 0 rfl) ?_
        refine dk_get (k := 0) hx hb hts iX5_restore_5 hown hK (dk_at0 hW) rfl 6 (by decide) (hts (.fieldLink RX5 35 "DogKings" "images" "[LDogKings$Town;") (List.mem_of_getElem? (i := 2) rfl)) rfl dX5_restore_31 ?_
        refine lv_iload_n hx hb dX5_restore_34 rfl (lv_at hl 1 rfl) ?_
        refine dk_tld (r := z + 48) hx hb hK (dk_at36 hW) (dkN_in (n := 2) (dkN_lit (x := 1) (1) rfl) rfl) (by rw [dkN_cl (dkN_lit (x := 1) (1) rfl)]; rfl) dX5_restore_35 ?_
        refine dk_Vv (As := [.ref (z + 48)]) (rest := []) ⟨hx, hb, hml, hown, hts⟩ (fx_X4_become_1 l g z I0 (25) (by unfold dkT; omega) (48) (by unfold dkT; omega) (by omega) hO) (cwV 1 hts gX5_restore_X4_become rfl rfl rfl (by decide +kernel) ⟨Nat.le_of_ble_eq_true rfl, Nat.le_of_ble_eq_true rfl⟩) (dk_at25 hW) rfl hK hT hW hS rfl hl.1 rfl (Nat.le_of_ble_eq_true rfl) dX5_restore_36 ⟨Nat.zero_le _, Nat.zero_le _⟩ (fun I8 H8 L8 hp8 hW hS => ?_)
        obtain ⟨hF8, hO, hc8⟩ := hp8
        have hF := dkF_call hF hF8 rfl
        obtain ⟨xh8_0, xh8_1, xh8_2, xp8_0, -⟩ := hc8
        have y9 : I8 25 0 = I0 48 0 := by have h := xh8_0; exact h
        have y10 : I8 25 4 = I0 48 4 := by have h := xh8_1; exact h
        have y11 : I8 25 11 = I0 48 11 := by have h := xh8_2; exact h
        have yp12 : ∀ j : Nat, j < Int32.toNatClampNeg (I0 48 11) → I8 32 j = I0 55 j := by have h := xp8_0; exact h
        refine lv_aload_n hx hb dX5_restore_39 rfl (lv_at hl 0 rfl) ?_
        refine dk_get (k := 0) hx hb hts iX5_restore_5 hown hK (dk_at0 hW) rfl 7 (by decide) (hts (.fieldLink RX5 42 "DogKings" "acts" "LDogKings$Acts;") (List.mem_of_getElem? (i := 5) rfl)) rfl dX5_restore_40 ?_
        refine dk_Vv (As := []) (rest := []) ⟨hx, hb, hml, hown, hts⟩ (fx_X0_forget_1 l g z I8 hO) (cwV 0 hts gX5_restore_X0_forget rfl rfl rfl (by decide +kernel) ⟨Nat.le_of_ble_eq_true rfl, Nat.le_of_ble_eq_true rfl⟩) (dk_at59 hW) rfl hK hT hW hS rfl hl.1 rfl (Nat.le_of_ble_eq_true rfl) dX5_restore_43 ⟨Nat.zero_le _, Nat.zero_le _⟩ (fun I13 H13 L13 hp13 hW hS => ?_)
        obtain ⟨hF13, hO, hc13⟩ := hp13
        have hF := dkF_call hF hF13 rfl
        obtain ⟨f13_59_2, xh13_0, -⟩ := hc13
        have y14 : I13 59 2 = 0 := by have h := xh13_0; exact h
        have hP := dkQQ_0 y14
        refine lv_iconst (v := 1) hx hb dX5_restore_46 (by decide) ?_
        exact W.iret (v := 1) hx hb hr (fun t ht hW9 => ⟨⟨1, I13, rfl, ⟨hF, hO, hP, Or.inr (⟨dkN_sub (dkN_lit (x := 1) (1) rfl) rfl, (show dkN [(1, 9)] (I13 48 0) from dkN_sub (by rw [hF13 48 0 rfl]; exact (by rw [hF8 48 0 rfl]; exact f3_48_0)) rfl), (show dkN [(0, 0)] (I13 59 2) from dkN_sub f13_59_2 rfl), q6, rfl, ((hF13 25 0 rfl).trans y9), ((hF13 25 4 rfl).trans y10), ((hF13 25 11 rfl).trans y11), y14, (fun j hj => (congrFun ((funext fun j => hF13 32 j (dkNin_k rfl dkNin_nil)).trans rfl) j).trans (xp8_0 j hj)), trivial⟩)⟩, dkW_eq ht hW⟩, hS.F ht⟩) hS.2.2 dX5_restore_47
      ·
        exact (dkN_nil (show dkN [] v3 from dkN_eq1 dv3 (dkN_lit (x := 0) (0) rfl) (congrArg Int32.toInt c7) rfl)).elim
  ·
    exact (dkN_nil (show dkN [] v1 from dkN_eq1 dv1 (dkN_lit (x := 0) (0) rfl) (congrArg Int32.toInt c2) rfl)).elim
set_option maxHeartbeats 4000000 in
set_option maxRecDepth 100000 in
theorem fx_X6_restore_3 (l : Launch) (g : dkG) (z : Nat) (I0 : dkI) (p0 : Int32) (dp0 : dkN [(1, 1)] p0)  (hO : dkOk I0) (hP : dkPP I0) : Met l yX6_restore wsX6_restore (dkR 1) (dkPc g z [.ref (z + 340), .int p0] I0) (dkQi g z (fun r I1 => dkF [(340, 340, 17, 17), (346, 346, 0, 53)] I0 I1 ∧ dkOk I1 ∧ dkPP I1 ∧ ((dkN [(1, 1)] r ∧ dkN [(0, 0)] (I1 340 17) ∧ dkN [(1, 1)] (I1 351 1) ∧ (I0 351 1).toInt ≠ (0 : Int) ∧ r = 1 ∧ I1 346 0 = I0 350 54 ∧ I1 346 4 = I0 350 58 ∧ I1 346 5 = I0 350 59 ∧ I1 346 36 = I0 350 90 ∧ I1 346 39 = I0 350 93 ∧ I1 346 42 = I0 350 96 ∧ I1 346 45 = I0 350 99 ∧ I1 346 48 = I0 350 102 ∧ I1 346 51 = I0 350 105 ∧ I1 340 17 = 0 ∧ True) ∨ (dkN [(-1000002, -1000002)] r ∧ dkN [(0, 0)] (I1 351 1) ∧ (I0 351 1).toInt = (0 : Int) ∧ r = (-1000002) ∧ I1 346 0 = I0 346 0 ∧ I1 346 4 = I0 346 4 ∧ I1 346 5 = I0 346 5 ∧ I1 346 36 = I0 346 36 ∧ I1 346 39 = I0 346 39 ∧ I1 346 42 = I0 346 42 ∧ I1 346 45 = I0 346 45 ∧ I1 346 48 = I0 346 48 ∧ I1 346 51 = I0 346 51 ∧ I1 340 17 = I0 340 17 ∧ I1 346  = I0 346 ∧ True)))) 0 0 (dkA z) := by
  obtain rfl : p0 = 1 := dkN_is dp0 rfl
  refine Met.ofW (cc := cX6_restore) (maxL := 2) (ret := (some .int)) (by decide) rfl ?_
  intro p e s m args below meth c s₁ B hml hv
  obtain ⟨ha, hW, hK, hT⟩ := hv
  have hx := B.exec
  have hb := B.bytes
  have hr := B.returns
  have hts := atoms_spec (ws := wsX6_restore) B.pre
  have hown : s.vm.findClass RX6 = some m.cls := findClass_of_methodNamed B.named
  have hlocks := B.notSynchronized
  have hS : va_S (dkA z) s.heap s.heap [] := va_S.rf
  have hF : dkF [(340, 340, 17, 17), (346, 346, 0, 53)] I0 I0 := dkF_rf _ _
  have hl := lv_entry ([.ref (z + 340), .int 1]) (n := 2) (Nat.le_of_ble_eq_true rfl)
  have hgo : entryFrame m args 2 = entryFrame m ([.ref (z + 340), .int 1] : List Value).toArray 2 := by rw [ha]
  rw [hgo, lg_entry_eq]
  generalize (lg_sl ([.ref (z + 340), .int 1]) ++ List.replicate (2 - (lg_sl ([.ref (z + 340), .int 1])).length) Slot.unset).toArray = ls at hl ⊢
  have hl : lv_has ls 2 [(0, .ref (z + 340)), (1, .int 1)] := hl
  refine lv_iload_n hx hb dX6_restore_0 rfl (lv_at hl 1 rfl) ?_
  refine lv_iconst (v := 0) hx hb dX6_restore_1 (by decide) ?_
  refine lv_iconst (v := 1) hx hb dX6_restore_2 (by decide) ?_
  refine dk_Si (As := [.int 1, .int 0, .int 1]) (rest := []) ⟨hx, hb, hml, hown, hts⟩ (fx_X6_in_35 l g z I0 1 0 1 (dkN_lit (x := 1) (1) rfl) (dkN_lit (x := 0) (0) rfl) (dkN_lit (x := 1) (1) rfl) hO) (va_cwS 3 hts gX6_restore_X6_in rfl rfl rfl (by decide +kernel) ⟨Nat.le_of_ble_eq_true rfl, Nat.le_of_ble_eq_true rfl⟩) hK hT hW hS rfl hl.1 rfl (Nat.le_of_ble_eq_true rfl) dX6_restore_3 ⟨Nat.zero_le _, Nat.zero_le _⟩ (fun v1 I1 H1 L1 hp1 hW hS => ?_)
  obtain ⟨hF1, hO, hc1⟩ := hp1
  have hF := dkF_call hF hF1 rfl
  have hP := dkPP_F hP hF1 rfl
  have eI1 : I0 = I1 := (dkF_nil hF1).symm
  subst eI1
  obtain ⟨dv1, x1_0, x1_1, xr1, -⟩ := hc1
  have xv1 : v1 = 1 := by have h := xr1; exact h
  refine lv_if_ne (tgt := 12) hx hb dX6_restore_6 (by decide) (fun c2 => ?_) (fun c2 => ?_)
  ·
    refine lv_aload_n hx hb dX6_restore_12 rfl (lv_at hl 0 rfl) ?_
    refine dk_get (k := 340) hx hb hts iX6_restore_6 hown hK (dk_at340 hW) rfl 19 (by decide) (hts (.fieldLink RX6 40 "DogKingsModel" "kept" "[Z") (List.mem_of_getElem? (i := 2) rfl)) rfl dX6_restore_13 ?_
    refine lv_iload_n hx hb dX6_restore_16 rfl (lv_at hl 1 rfl) ?_
    refine dk_zld (k := 351) hx hb hK (dk_at351 hW) (dkN_in (n := 2) (dkN_lit (x := 1) (1) rfl) rfl) dX6_restore_17 ?_
    refine lv_topi (fun v3 ev3 => ?_)
    have ev3 : v3 = I0 351 1 := ev3
    have dv3 : dkN [(0, 1)] v3 := by rw [ev3]; exact (show dkN [(0, 1)] (I0 351 1) from (hO 351 1))
    have xv3 : v3 = I0 351 1 := ev3.trans rfl
    refine lv_if_ne (tgt := 24) hx hb dX6_restore_18 (by decide) (fun c4 => ?_) (fun c4 => ?_)
    ·
      have q5 : (I0 351 1).toInt ≠ (0 : Int) := by first | (rw [← xv3]; exact (dk_ne c4)) | (subst xv3; exact (dk_ne c4))
      have d6 : dkN [(1, 1)] v3 := dkN_ne1 (0) dv3 (dkN_lit (x := 0) (0) rfl) (dk_ne c4) rfl
      have f7 : dkN [(1, 1)] (I0 351 1) := by rw [← ev3]; exact d6
      refine lv_aload_n hx hb dX6_restore_24 rfl (lv_at hl 0 rfl) ?_
      refine dk_get (k := 340) hx hb hts iX6_restore_6 hown hK (dk_at340 hW) rfl 18 (by decide) (hts (.fieldLink RX6 37 "DogKingsModel" "images" "[I") (List.mem_of_getElem? (i := 4) rfl)) rfl dX6_restore_25 ?_
      refine lv_bipush (v := 54) hx hb dX6_restore_28 (by decide) ?_
      refine lv_iload_n hx hb dX6_restore_30 rfl (lv_at hl 1 rfl) ?_
      refine lv_imul hx hb dX6_restore_31 ?_
      refine lv_topi (fun v8 ev8 => ?_)
      have dv8 : dkN [(54, 54)] v8 := by rw [ev8]; exact dkN_mulR 1 (by decide) (dkN_lit (x := 54) (54) rfl) (dkN_lit (x := 1) (1) rfl) rfl
      have xv8 : v8 = 54 := by rw [ev8]; rfl
      subst xv8
      refine lv_aload_n hx hb dX6_restore_32 rfl (lv_at hl 0 rfl) ?_
      refine dk_get (k := 340) hx hb hts iX6_restore_6 hown hK (dk_at340 hW) rfl 13 (by decide) (hts (.fieldLink RX6 25 "DogKingsModel" "now" "[I") (List.mem_of_getElem? (i := 5) rfl)) rfl dX6_restore_33 ?_
      refine lv_iconst (v := 0) hx hb dX6_restore_36 (by decide) ?_
      refine dk_Sv (As := [.ref (z + 350), .int 54, .ref (z + 346), .int 0]) (rest := []) ⟨hx, hb, hml, hown, hts⟩ (c_X6_copies l g z I0 (kf := 350) (kt := 346) (nf := 108) (nt := 54) 54 0 (A := 54) (B := 0) rfl rfl (by decide) (by decide) (by decide) (by decide) (by decide) (by decide) (fun _ => rfl) (fun _ => rfl)) (va_cwS 4 hts gX6_restore_X6_copies rfl rfl rfl (by decide +kernel) ⟨Nat.le_of_ble_eq_true rfl, Nat.le_of_ble_eq_true rfl⟩) hK hT hW hS rfl hl.1 rfl (Nat.le_of_ble_eq_true rfl) dX6_restore_37 ⟨Nat.zero_le _, Nat.zero_le _⟩ (fun I9 H9 L9 eI9 hW hS => ?_)
      have eI9 : I9 = dkCp I0 350 346 54 0 := eI9
      have hO := dkO_cp hO eI9 (by decide) (by decide) (by decide) (by decide)
      have hF := dkF_cp (lo := 0) (hi := 0) hF eI9 ⟨by decide, by decide⟩ rfl
      refine lv_aload_n hx hb dX6_restore_40 rfl (lv_at hl 0 rfl) ?_
      refine lv_iconst (v := 0) hx hb dX6_restore_41 (by decide) ?_
      refine dk_put (k := 340) hx hb hts iX6_restore_6 tyX6 tyX6_ok nmX6 hown hK hW (dk_at340 hW) hS rfl 17 (by decide) (hts (.fieldLink RX6 142 "DogKingsModel" "acts" "I") (List.mem_of_getElem? (i := 6) rfl)) rfl rfl (Nat.le_of_ble_eq_true rfl) rfl dX6_restore_42 (fun I10 H10 L10 eI10 hW hS => ?_)
      have eI10 : I10 = dkU I9 340 17 0 := eI10
      have hO := dkO_set hO eI10 (dkN_sub (dkN_lit (x := 0) (0) rfl) rfl)
      have hF := dkF_set hF eI10 rfl
      have hP := dkPP_restore hP (dkN_lit (x := 1) (1) rfl) (show v3 = _ from ev3) c4 (show (54 : Int32) = 54 * 1 from rfl) eI9 eI10 rfl
      refine lv_iconst (v := 1) hx hb dX6_restore_45 (by decide) ?_
      exact W.iret (v := 1) hx hb hr (fun t ht hW9 => ⟨⟨1, I10, rfl, ⟨hF, hO, hP, Or.inl ⟨dkN_sub (dkN_lit (x := 1) (1) rfl) rfl, (show dkN [(0, 0)] (I10 340 17) from dkN_sub (by rw [eI10, dkU_ss]; exact (dkN_lit (x := 0) (0) rfl)) rfl), (show dkN [(1, 1)] (I10 351 1) from dkN_sub (by rw [eI10, dkU_n (by decide)]; exact (by rw [(dkCp_n eI9 (by decide))]; exact f7)) rfl), q5, rfl, ((by rw [eI10, dkU_n (by decide)] : I10 346 0 = _).trans ((dkCp_in eI9 (by decide)).trans rfl)), ((by rw [eI10, dkU_n (by decide)] : I10 346 4 = _).trans ((dkCp_in eI9 (by decide)).trans rfl)), ((by rw [eI10, dkU_n (by decide)] : I10 346 5 = _).trans ((dkCp_in eI9 (by decide)).trans rfl)), ((by rw [eI10, dkU_n (by decide)] : I10 346 36 = _).trans ((dkCp_in eI9 (by decide)).trans rfl)), ((by rw [eI10, dkU_n (by decide)] : I10 346 39 = _).trans ((dkCp_in eI9 (by decide)).trans rfl)), ((by rw [eI10, dkU_n (by decide)] : I10 346 42 = _).trans ((dkCp_in eI9 (by decide)).trans rfl)), ((by rw [eI10, dkU_n (by decide)] : I10 346 45 = _).trans ((dkCp_in eI9 (by decide)).trans rfl)), ((by rw [eI10, dkU_n (by decide)] : I10 346 48 = _).trans ((dkCp_in eI9 (by decide)).trans rfl)), ((by rw [eI10, dkU_n (by decide)] : I10 346 51 = _).trans ((dkCp_in eI9 (by decide)).trans rfl)), (by rw [eI10, dkU_ss]), trivial⟩⟩, dkW_eq ht hW⟩, hS.F ht⟩) hS.2.2 dX6_restore_46
    ·
      have q11 : (I0 351 1).toInt = (0 : Int) := by first | (rw [← xv3]; exact (congrArg Int32.toInt c4)) | (subst xv3; exact (congrArg Int32.toInt c4))
      have d12 : dkN [(0, 0)] v3 := dkN_eq1 dv3 (dkN_lit (x := 0) (0) rfl) (congrArg Int32.toInt c4) rfl
      have f13 : dkN [(0, 0)] (I0 351 1) := by rw [← ev3]; exact d12
      refine lv_ldc (v := (-1000002)) hx hb hown (hts (.constant RX6 185 (-1000002)) (List.mem_of_getElem? (i := 3) rfl)) dX6_restore_21 ?_
      exact W.iret (v := (-1000002)) hx hb hr (fun t ht hW9 => ⟨⟨(-1000002), I0, rfl, ⟨hF, hO, hP, Or.inr (⟨dkN_sub (dkN_lit (x := (-1000002)) (-1000002) rfl) rfl, (show dkN [(0, 0)] (I0 351 1) from dkN_sub f13 rfl), q11, rfl, rfl, rfl, rfl, rfl, rfl, rfl, rfl, rfl, rfl, rfl, rfl, trivial⟩)⟩, dkW_eq ht hW⟩, hS.F ht⟩) hS.2.2 dX6_restore_23
  ·
    exact (dkN_nil (show dkN [] v1 from dkN_eq1 dv1 (dkN_lit (x := 0) (0) rfl) (congrArg Int32.toInt c2) rfl)).elim
set_option maxHeartbeats 4000000 in
set_option maxRecDepth 100000 in
theorem fx_X5_isUpTo_12 (l : Launch) (g : dkG) (z : Nat) (I0 : dkI) (p0 : Int32) (p1 : Int32) (dp0 : dkN [(2, 2147483647)] p0) (dp1 : dkN [(1, 1)] p1)  (hO : dkOk I0) : Met l yX5_isUpTo wsX5_isUpTo (dkR 0) (dkPc g z [.int p0, .int p1] I0) (dkQi g z (fun r I1 => dkF [] I0 I1 ∧ dkOk I1 ∧ ((dkN [(0, 0)] r ∧ (0 : Int) + 0 ≤ p0.toInt ∧ p1.toInt + 1 ≤ p0.toInt ∧ r = 0 ∧ True)))) 0 0 (dkA z) := by
  refine Met.ofW (cc := cX5_isUpTo) (maxL := 2) (ret := (some .boolean)) (by decide) rfl ?_
  intro p e s m args below meth c s₁ B hml hv
  obtain ⟨ha, hW, hK, hT⟩ := hv
  have hx := B.exec
  have hb := B.bytes
  have hr := B.returns
  have hts := atoms_spec (ws := wsX5_isUpTo) B.pre
  have hown : s.vm.findClass RX5 = some m.cls := findClass_of_methodNamed B.named
  have hlocks := B.notSynchronized
  have hS : va_S (dkA z) s.heap s.heap [] := va_S.rf
  have hF : dkF [] I0 I0 := dkF_rf _ _
  have hl := lv_entry ([.int p0, .int p1]) (n := 2) (Nat.le_of_ble_eq_true rfl)
  have hgo : entryFrame m args 2 = entryFrame m ([.int p0, .int p1] : List Value).toArray 2 := by rw [ha]
  rw [hgo, lg_entry_eq]
  generalize (lg_sl ([.int p0, .int p1]) ++ List.replicate (2 - (lg_sl ([.int p0, .int p1])).length) Slot.unset).toArray = ls at hl ⊢
  have hl : lv_has ls 2 [(0, .int p0), (1, .int p1)] := hl
  refine lv_iload_n hx hb dX5_isUpTo_0 rfl (lv_at hl 0 rfl) ?_
  refine lv_if_lt (tgt := 13) hx hb dX5_isUpTo_1 (by decide) (fun c1 => ?_) (fun c1 => ?_)
  ·
    exact (dkN_nil (show dkN [] p0 from dkN_le1 1 dp0 (dkN_lit (x := 0) (0) rfl) (dkc_lt c1) rfl)).elim
  ·
    have q2 : (0 : Int) + 0 ≤ p0.toInt := (dkc_nlt c1)
    refine lv_iload_n hx hb dX5_isUpTo_4 rfl (lv_at hl 0 rfl) ?_
    refine lv_iload_n hx hb dX5_isUpTo_5 rfl (lv_at hl 1 rfl) ?_
    refine lv_icmp_gt (tgt := 13) hx hb dX5_isUpTo_6 (by decide) (fun c3 => ?_) (fun c3 => ?_)
    ·
      have q4 : p1.toInt + 1 ≤ p0.toInt := (dkc_lt c3)
      refine lv_iconst (v := 0) hx hb dX5_isUpTo_13 (by decide) ?_
      exact W.zret (v := 0) (ty := .boolean) hx hb hr rfl (fun t ht hW9 => ⟨⟨0, I0, rfl, ⟨hF, hO, ⟨dkN_sub (dkN_lit (x := 0) (0) rfl) rfl, q2, q4, rfl, trivial⟩⟩, dkW_eq ht hW⟩, hS.F ht⟩) hS.2.2 dX5_isUpTo_14
    ·
      exact (dkN_nil (show dkN [] p1 from dkN_le2 0 dp0 dp1 (dkc_nlt c3) rfl)).elim
set_option maxHeartbeats 4000000 in
set_option maxRecDepth 100000 in
theorem fx_X5_image_4 (l : Launch) (g : dkG) (z : Nat) (I0 : dkI) (p0 : Int32) (dp0 : dkN [(2, 2147483647)] p0)  (hO : dkOk I0) : Met l yX5_image wsX5_image (dkR 1) (dkPc g z [.ref (z + 0), .int p0] I0) (dkQi g z (fun r I1 => dkF [] I0 I1 ∧ dkOk I1 ∧ ((dkN [(-1000001, -1000001)] r ∧ (0 : Int) + 0 ≤ p0.toInt ∧ (1 : Int) + 1 ≤ p0.toInt ∧ r = (-1000001) ∧ I1 37 0 = I0 37 0 ∧ I1 37 4 = I0 37 4 ∧ I1 37 11 = I0 37 11 ∧ I1 48 0 = I0 48 0 ∧ I1 48 4 = I0 48 4 ∧ I1 48 11 = I0 48 11 ∧ I1 44  = I0 44 ∧ I1 55  = I0 55 ∧ True)))) 0 0 (dkA z) := by
  refine Met.ofW (cc := cX5_image) (maxL := 2) (ret := (some .int)) (by decide) rfl ?_
  intro p e s m args below meth c s₁ B hml hv
  obtain ⟨ha, hW, hK, hT⟩ := hv
  have hx := B.exec
  have hb := B.bytes
  have hr := B.returns
  have hts := atoms_spec (ws := wsX5_image) B.pre
  have hown : s.vm.findClass RX5 = some m.cls := findClass_of_methodNamed B.named
  have hlocks := B.notSynchronized
  have hS : va_S (dkA z) s.heap s.heap [] := va_S.rf
  have hF : dkF [] I0 I0 := dkF_rf _ _
  have hl := lv_entry ([.ref (z + 0), .int p0]) (n := 2) (Nat.le_of_ble_eq_true rfl)
  have hgo : entryFrame m args 2 = entryFrame m ([.ref (z + 0), .int p0] : List Value).toArray 2 := by rw [ha]
  rw [hgo, lg_entry_eq]
  generalize (lg_sl ([.ref (z + 0), .int p0]) ++ List.replicate (2 - (lg_sl ([.ref (z + 0), .int p0])).length) Slot.unset).toArray = ls at hl ⊢
  have hl : lv_has ls 2 [(0, .ref (z + 0)), (1, .int p0)] := hl
  refine lv_iload_n hx hb dX5_image_0 rfl (lv_at hl 1 rfl) ?_
  refine lv_iconst (v := 1) hx hb dX5_image_1 (by decide) ?_
  refine dk_Si (As := [.int p0, .int 1]) (rest := []) ⟨hx, hb, hml, hown, hts⟩ (fx_X5_isUpTo_12 l g z I0 p0 1 dp0 (dkN_lit (x := 1) (1) rfl) hO) (va_cwS 2 hts gX5_image_X5_isUpTo rfl rfl rfl (by decide +kernel) ⟨Nat.le_of_ble_eq_true rfl, Nat.le_of_ble_eq_true rfl⟩) hK hT hW hS rfl hl.1 rfl (Nat.le_of_ble_eq_true rfl) dX5_image_2 ⟨Nat.zero_le _, Nat.zero_le _⟩ (fun v1 I1 H1 L1 hp1 hW hS => ?_)
  obtain ⟨hF1, hO, hc1⟩ := hp1
  have hF := dkF_call hF hF1 rfl
  have eI1 : I0 = I1 := (dkF_nil hF1).symm
  subst eI1
  obtain ⟨dv1, x1_0, x1_1, xr1, -⟩ := hc1
  have q2 : (0 : Int) + 0 ≤ p0.toInt := x1_0
  have q3 : (1 : Int) + 1 ≤ p0.toInt := x1_1
  have xv1 : v1 = 0 := by have h := xr1; exact h
  refine lv_if_ne (tgt := 11) hx hb dX5_image_5 (by decide) (fun c4 => ?_) (fun c4 => ?_)
  ·
    exact absurd ((xv1).trans (rfl).symm) c4
  ·
    refine lv_ldc (v := (-1000001)) hx hb hown (hts (.constant RX5 70 (-1000001)) (List.mem_of_getElem? (i := 1) rfl)) dX5_image_8 ?_
    exact W.iret (v := (-1000001)) hx hb hr (fun t ht hW9 => ⟨⟨(-1000001), I0, rfl, ⟨hF, hO, ⟨dkN_sub (dkN_lit (x := (-1000001)) (-1000001) rfl) rfl, q2, q3, rfl, rfl, rfl, rfl, rfl, rfl, rfl, rfl, rfl, trivial⟩⟩, dkW_eq ht hW⟩, hS.F ht⟩) hS.2.2 dX5_image_10
set_option maxHeartbeats 4000000 in
set_option maxRecDepth 100000 in
theorem fx_X6_in_36 (l : Launch) (g : dkG) (z : Nat) (I0 : dkI) (p0 : Int32) (p1 : Int32) (p2 : Int32) (dp0 : dkN [(2, 2147483647)] p0) (dp1 : dkN [(0, 0)] p1) (dp2 : dkN [(1, 1)] p2)  (hO : dkOk I0) : Met l yX6_in wsX6_in (dkR 0) (dkPc g z [.int p0, .int p1, .int p2] I0) (dkQi g z (fun r I1 => dkF [] I0 I1 ∧ dkOk I1 ∧ ((dkN [(0, 0)] r ∧ p1.toInt + 0 ≤ p0.toInt ∧ p2.toInt + 1 ≤ p0.toInt ∧ r = 0 ∧ True)))) 0 0 (dkA z) := by
  refine Met.ofW (cc := cX6_in) (maxL := 3) (ret := (some .boolean)) (by decide) rfl ?_
  intro p e s m args below meth c s₁ B hml hv
  obtain ⟨ha, hW, hK, hT⟩ := hv
  have hx := B.exec
  have hb := B.bytes
  have hr := B.returns
  have hts := atoms_spec (ws := wsX6_in) B.pre
  have hown : s.vm.findClass RX6 = some m.cls := findClass_of_methodNamed B.named
  have hlocks := B.notSynchronized
  have hS : va_S (dkA z) s.heap s.heap [] := va_S.rf
  have hF : dkF [] I0 I0 := dkF_rf _ _
  have hl := lv_entry ([.int p0, .int p1, .int p2]) (n := 3) (Nat.le_of_ble_eq_true rfl)
  have hgo : entryFrame m args 3 = entryFrame m ([.int p0, .int p1, .int p2] : List Value).toArray 3 := by rw [ha]
  rw [hgo, lg_entry_eq]
  generalize (lg_sl ([.int p0, .int p1, .int p2]) ++ List.replicate (3 - (lg_sl ([.int p0, .int p1, .int p2])).length) Slot.unset).toArray = ls at hl ⊢
  have hl : lv_has ls 3 [(0, .int p0), (1, .int p1), (2, .int p2)] := hl
  refine lv_iload_n hx hb dX6_in_0 rfl (lv_at hl 0 rfl) ?_
  refine lv_iload_n hx hb dX6_in_1 rfl (lv_at hl 1 rfl) ?_
  refine lv_icmp_lt (tgt := 14) hx hb dX6_in_2 (by decide) (fun c1 => ?_) (fun c1 => ?_)
  ·
    exact (dkN_nil (show dkN [] p0 from dkN_le1 1 dp0 dp1 (dkc_lt c1) rfl)).elim
  ·
    have q2 : p1.toInt + 0 ≤ p0.toInt := (dkc_nlt c1)
    refine lv_iload_n hx hb dX6_in_5 rfl (lv_at hl 0 rfl) ?_
    refine lv_iload_n hx hb dX6_in_6 rfl (lv_at hl 2 rfl) ?_
    refine lv_icmp_gt (tgt := 14) hx hb dX6_in_7 (by decide) (fun c3 => ?_) (fun c3 => ?_)
    ·
      have q4 : p2.toInt + 1 ≤ p0.toInt := (dkc_lt c3)
      refine lv_iconst (v := 0) hx hb dX6_in_14 (by decide) ?_
      exact W.zret (v := 0) (ty := .boolean) hx hb hr rfl (fun t ht hW9 => ⟨⟨0, I0, rfl, ⟨hF, hO, ⟨dkN_sub (dkN_lit (x := 0) (0) rfl) rfl, q2, q4, rfl, trivial⟩⟩, dkW_eq ht hW⟩, hS.F ht⟩) hS.2.2 dX6_in_15
    ·
      exact (dkN_nil (show dkN [] p2 from dkN_le2 0 dp0 dp2 (dkc_nlt c3) rfl)).elim
set_option maxHeartbeats 4000000 in
set_option maxRecDepth 100000 in
theorem fx_X6_image_4 (l : Launch) (g : dkG) (z : Nat) (I0 : dkI) (p0 : Int32) (dp0 : dkN [(2, 2147483647)] p0)  (hO : dkOk I0) (hP : dkPP I0) : Met l yX6_image wsX6_image (dkR 1) (dkPc g z [.ref (z + 340), .int p0] I0) (dkQi g z (fun r I1 => dkF [] I0 I1 ∧ dkOk I1 ∧ dkPP I1 ∧ ((dkN [(-1000001, -1000001)] r ∧ (0 : Int) + 0 ≤ p0.toInt ∧ (1 : Int) + 1 ≤ p0.toInt ∧ r = (-1000001) ∧ I1 350 0 = I0 350 0 ∧ I1 350 4 = I0 350 4 ∧ I1 350 5 = I0 350 5 ∧ I1 350 36 = I0 350 36 ∧ I1 350 39 = I0 350 39 ∧ I1 350 42 = I0 350 42 ∧ I1 350 45 = I0 350 45 ∧ I1 350 48 = I0 350 48 ∧ I1 350 51 = I0 350 51 ∧ I1 350 54 = I0 350 54 ∧ I1 350 58 = I0 350 58 ∧ I1 350 59 = I0 350 59 ∧ I1 350 90 = I0 350 90 ∧ I1 350 93 = I0 350 93 ∧ I1 350 96 = I0 350 96 ∧ I1 350 99 = I0 350 99 ∧ I1 350 102 = I0 350 102 ∧ I1 350 105 = I0 350 105 ∧ I1 351 0 = I0 351 0 ∧ I1 351 1 = I0 351 1 ∧ I1 350  = I0 350 ∧ True)))) 0 0 (dkA z) := by
  refine Met.ofW (cc := cX6_image) (maxL := 2) (ret := (some .int)) (by decide) rfl ?_
  intro p e s m args below meth c s₁ B hml hv
  obtain ⟨ha, hW, hK, hT⟩ := hv
  have hx := B.exec
  have hb := B.bytes
  have hr := B.returns
  have hts := atoms_spec (ws := wsX6_image) B.pre
  have hown : s.vm.findClass RX6 = some m.cls := findClass_of_methodNamed B.named
  have hlocks := B.notSynchronized
  have hS : va_S (dkA z) s.heap s.heap [] := va_S.rf
  have hF : dkF [] I0 I0 := dkF_rf _ _
  have hl := lv_entry ([.ref (z + 340), .int p0]) (n := 2) (Nat.le_of_ble_eq_true rfl)
  have hgo : entryFrame m args 2 = entryFrame m ([.ref (z + 340), .int p0] : List Value).toArray 2 := by rw [ha]
  rw [hgo, lg_entry_eq]
  generalize (lg_sl ([.ref (z + 340), .int p0]) ++ List.replicate (2 - (lg_sl ([.ref (z + 340), .int p0])).length) Slot.unset).toArray = ls at hl ⊢
  have hl : lv_has ls 2 [(0, .ref (z + 340)), (1, .int p0)] := hl
  refine lv_iload_n hx hb dX6_image_0 rfl (lv_at hl 1 rfl) ?_
  refine lv_iconst (v := 0) hx hb dX6_image_1 (by decide) ?_
  refine lv_iconst (v := 1) hx hb dX6_image_2 (by decide) ?_
  refine dk_Si (As := [.int p0, .int 0, .int 1]) (rest := []) ⟨hx, hb, hml, hown, hts⟩ (fx_X6_in_36 l g z I0 p0 0 1 dp0 (dkN_lit (x := 0) (0) rfl) (dkN_lit (x := 1) (1) rfl) hO) (va_cwS 3 hts gX6_image_X6_in rfl rfl rfl (by decide +kernel) ⟨Nat.le_of_ble_eq_true rfl, Nat.le_of_ble_eq_true rfl⟩) hK hT hW hS rfl hl.1 rfl (Nat.le_of_ble_eq_true rfl) dX6_image_3 ⟨Nat.zero_le _, Nat.zero_le _⟩ (fun v1 I1 H1 L1 hp1 hW hS => ?_)
  obtain ⟨hF1, hO, hc1⟩ := hp1
  have hF := dkF_call hF hF1 rfl
  have hP := dkPP_F hP hF1 rfl
  have eI1 : I0 = I1 := (dkF_nil hF1).symm
  subst eI1
  obtain ⟨dv1, x1_0, x1_1, xr1, -⟩ := hc1
  have q2 : (0 : Int) + 0 ≤ p0.toInt := x1_0
  have q3 : (1 : Int) + 1 ≤ p0.toInt := x1_1
  have xv1 : v1 = 0 := by have h := xr1; exact h
  refine lv_if_ne (tgt := 12) hx hb dX6_image_6 (by decide) (fun c4 => ?_) (fun c4 => ?_)
  ·
    exact absurd ((xv1).trans (rfl).symm) c4
  ·
    refine lv_ldc (v := (-1000001)) hx hb hown (hts (.constant RX6 64 (-1000001)) (List.mem_of_getElem? (i := 1) rfl)) dX6_image_9 ?_
    exact W.iret (v := (-1000001)) hx hb hr (fun t ht hW9 => ⟨⟨(-1000001), I0, rfl, ⟨hF, hO, hP, ⟨dkN_sub (dkN_lit (x := (-1000001)) (-1000001) rfl) rfl, q2, q3, rfl, rfl, rfl, rfl, rfl, rfl, rfl, rfl, rfl, rfl, rfl, rfl, rfl, rfl, rfl, rfl, rfl, rfl, rfl, rfl, rfl, rfl, trivial⟩⟩, dkW_eq ht hW⟩, hS.F ht⟩) hS.2.2 dX6_image_11
set_option maxHeartbeats 4000000 in
set_option maxRecDepth 100000 in
theorem fx_X5_restore_4 (l : Launch) (g : dkG) (z : Nat) (I0 : dkI) (p0 : Int32) (dp0 : dkN [(2, 2147483647)] p0)  (hO : dkOk I0) (hP : dkQQ I0) : Met l yX5_restore wsX5_restore (dkR 1) (dkPc g z [.ref (z + 0), .int p0] I0) (dkQi g z (fun r I1 => dkF [] I0 I1 ∧ dkOk I1 ∧ dkQQ I1 ∧ ((dkN [(-1000001, -1000001)] r ∧ (0 : Int) + 0 ≤ p0.toInt ∧ (1 : Int) + 1 ≤ p0.toInt ∧ r = (-1000001) ∧ I1 25 0 = I0 25 0 ∧ I1 25 4 = I0 25 4 ∧ I1 25 11 = I0 25 11 ∧ I1 59 2 = I0 59 2 ∧ I1 32  = I0 32 ∧ True)))) 0 0 (dkA z) := by
  refine Met.ofW (cc := cX5_restore) (maxL := 2) (ret := (some .int)) (by decide) rfl ?_
  intro p e s m args below meth c s₁ B hml hv
  obtain ⟨ha, hW, hK, hT⟩ := hv
  have hx := B.exec
  have hb := B.bytes
  have hr := B.returns
  have hts := atoms_spec (ws := wsX5_restore) B.pre
  have hown : s.vm.findClass RX5 = some m.cls := findClass_of_methodNamed B.named
  have hlocks := B.notSynchronized
  have hS : va_S (dkA z) s.heap s.heap [] := va_S.rf
  have hF : dkF [] I0 I0 := dkF_rf _ _
  have hl := lv_entry ([.ref (z + 0), .int p0]) (n := 2) (Nat.le_of_ble_eq_true rfl)
  have hgo : entryFrame m args 2 = entryFrame m ([.ref (z + 0), .int p0] : List Value).toArray 2 := by rw [ha]
  rw [hgo, lg_entry_eq]
  generalize (lg_sl ([.ref (z + 0), .int p0]) ++ List.replicate (2 - (lg_sl ([.ref (z + 0), .int p0])).length) Slot.unset).toArray = ls at hl ⊢
  have hl : lv_has ls 2 [(0, .ref (z + 0)), (1, .int p0)] := hl
  refine lv_iload_n hx hb dX5_restore_0 rfl (lv_at hl 1 rfl) ?_
  refine lv_iconst (v := 1) hx hb dX5_restore_1 (by decide) ?_
  refine dk_Si (As := [.int p0, .int 1]) (rest := []) ⟨hx, hb, hml, hown, hts⟩ (fx_X5_isUpTo_12 l g z I0 p0 1 dp0 (dkN_lit (x := 1) (1) rfl) hO) (va_cwS 2 hts gX5_restore_X5_isUpTo rfl rfl rfl (by decide +kernel) ⟨Nat.le_of_ble_eq_true rfl, Nat.le_of_ble_eq_true rfl⟩) hK hT hW hS rfl hl.1 rfl (Nat.le_of_ble_eq_true rfl) dX5_restore_2 ⟨Nat.zero_le _, Nat.zero_le _⟩ (fun v1 I1 H1 L1 hp1 hW hS => ?_)
  obtain ⟨hF1, hO, hc1⟩ := hp1
  have hF := dkF_call hF hF1 rfl
  have hP := dkQQ_F hP hF1 rfl
  have eI1 : I0 = I1 := (dkF_nil hF1).symm
  subst eI1
  obtain ⟨dv1, x1_0, x1_1, xr1, -⟩ := hc1
  have q2 : (0 : Int) + 0 ≤ p0.toInt := x1_0
  have q3 : (1 : Int) + 1 ≤ p0.toInt := x1_1
  have xv1 : v1 = 0 := by have h := xr1; exact h
  refine lv_if_ne (tgt := 11) hx hb dX5_restore_5 (by decide) (fun c4 => ?_) (fun c4 => ?_)
  ·
    exact absurd ((xv1).trans (rfl).symm) c4
  ·
    refine lv_ldc (v := (-1000001)) hx hb hown (hts (.constant RX5 70 (-1000001)) (List.mem_of_getElem? (i := 1) rfl)) dX5_restore_8 ?_
    exact W.iret (v := (-1000001)) hx hb hr (fun t ht hW9 => ⟨⟨(-1000001), I0, rfl, ⟨hF, hO, hP, ⟨dkN_sub (dkN_lit (x := (-1000001)) (-1000001) rfl) rfl, q2, q3, rfl, rfl, rfl, rfl, rfl, rfl, trivial⟩⟩, dkW_eq ht hW⟩, hS.F ht⟩) hS.2.2 dX5_restore_10
set_option maxHeartbeats 4000000 in
set_option maxRecDepth 100000 in
theorem fx_X6_restore_4 (l : Launch) (g : dkG) (z : Nat) (I0 : dkI) (p0 : Int32) (dp0 : dkN [(2, 2147483647)] p0)  (hO : dkOk I0) (hP : dkPP I0) : Met l yX6_restore wsX6_restore (dkR 1) (dkPc g z [.ref (z + 340), .int p0] I0) (dkQi g z (fun r I1 => dkF [] I0 I1 ∧ dkOk I1 ∧ dkPP I1 ∧ ((dkN [(-1000001, -1000001)] r ∧ (0 : Int) + 0 ≤ p0.toInt ∧ (1 : Int) + 1 ≤ p0.toInt ∧ r = (-1000001) ∧ I1 346 0 = I0 346 0 ∧ I1 346 4 = I0 346 4 ∧ I1 346 5 = I0 346 5 ∧ I1 346 36 = I0 346 36 ∧ I1 346 39 = I0 346 39 ∧ I1 346 42 = I0 346 42 ∧ I1 346 45 = I0 346 45 ∧ I1 346 48 = I0 346 48 ∧ I1 346 51 = I0 346 51 ∧ I1 340 17 = I0 340 17 ∧ I1 346  = I0 346 ∧ True)))) 0 0 (dkA z) := by
  refine Met.ofW (cc := cX6_restore) (maxL := 2) (ret := (some .int)) (by decide) rfl ?_
  intro p e s m args below meth c s₁ B hml hv
  obtain ⟨ha, hW, hK, hT⟩ := hv
  have hx := B.exec
  have hb := B.bytes
  have hr := B.returns
  have hts := atoms_spec (ws := wsX6_restore) B.pre
  have hown : s.vm.findClass RX6 = some m.cls := findClass_of_methodNamed B.named
  have hlocks := B.notSynchronized
  have hS : va_S (dkA z) s.heap s.heap [] := va_S.rf
  have hF : dkF [] I0 I0 := dkF_rf _ _
  have hl := lv_entry ([.ref (z + 340), .int p0]) (n := 2) (Nat.le_of_ble_eq_true rfl)
  have hgo : entryFrame m args 2 = entryFrame m ([.ref (z + 340), .int p0] : List Value).toArray 2 := by rw [ha]
  rw [hgo, lg_entry_eq]
  generalize (lg_sl ([.ref (z + 340), .int p0]) ++ List.replicate (2 - (lg_sl ([.ref (z + 340), .int p0])).length) Slot.unset).toArray = ls at hl ⊢
  have hl : lv_has ls 2 [(0, .ref (z + 340)), (1, .int p0)] := hl
  refine lv_iload_n hx hb dX6_restore_0 rfl (lv_at hl 1 rfl) ?_
  refine lv_iconst (v := 0) hx hb dX6_restore_1 (by decide) ?_
  refine lv_iconst (v := 1) hx hb dX6_restore_2 (by decide) ?_
  refine dk_Si (As := [.int p0, .int 0, .int 1]) (rest := []) ⟨hx, hb, hml, hown, hts⟩ (fx_X6_in_36 l g z I0 p0 0 1 dp0 (dkN_lit (x := 0) (0) rfl) (dkN_lit (x := 1) (1) rfl) hO) (va_cwS 3 hts gX6_restore_X6_in rfl rfl rfl (by decide +kernel) ⟨Nat.le_of_ble_eq_true rfl, Nat.le_of_ble_eq_true rfl⟩) hK hT hW hS rfl hl.1 rfl (Nat.le_of_ble_eq_true rfl) dX6_restore_3 ⟨Nat.zero_le _, Nat.zero_le _⟩ (fun v1 I1 H1 L1 hp1 hW hS => ?_)
  obtain ⟨hF1, hO, hc1⟩ := hp1
  have hF := dkF_call hF hF1 rfl
  have hP := dkPP_F hP hF1 rfl
  have eI1 : I0 = I1 := (dkF_nil hF1).symm
  subst eI1
  obtain ⟨dv1, x1_0, x1_1, xr1, -⟩ := hc1
  have q2 : (0 : Int) + 0 ≤ p0.toInt := x1_0
  have q3 : (1 : Int) + 1 ≤ p0.toInt := x1_1
  have xv1 : v1 = 0 := by have h := xr1; exact h
  refine lv_if_ne (tgt := 12) hx hb dX6_restore_6 (by decide) (fun c4 => ?_) (fun c4 => ?_)
  ·
    exact absurd ((xv1).trans (rfl).symm) c4
  ·
    refine lv_ldc (v := (-1000001)) hx hb hown (hts (.constant RX6 64 (-1000001)) (List.mem_of_getElem? (i := 1) rfl)) dX6_restore_9 ?_
    exact W.iret (v := (-1000001)) hx hb hr (fun t ht hW9 => ⟨⟨(-1000001), I0, rfl, ⟨hF, hO, hP, ⟨dkN_sub (dkN_lit (x := (-1000001)) (-1000001) rfl) rfl, q2, q3, rfl, rfl, rfl, rfl, rfl, rfl, rfl, rfl, rfl, rfl, rfl, rfl, trivial⟩⟩, dkW_eq ht hW⟩, hS.F ht⟩) hS.2.2 dX6_restore_11
