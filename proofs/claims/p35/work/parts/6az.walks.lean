set_option maxHeartbeats 4000000 in
set_option maxRecDepth 100000 in
theorem fx_X6_houndSize_3 (l : Launch) (g : dkG) (z : Nat) (I0 : dkI) (p0 : Int32) (dp0 : dkN [(0, 5)] p0) (np0 : dkN [(0, 0)] (I0 340 25))  (tp0 : (I0 346 (Int32.toNatClampNeg ((36 : Int32) + ((3 : Int32) * p0)))).toInt = (3 : Int)) (hO : dkOk I0) : Met l yX6_houndSize wsX6_houndSize (dkR 2) (dkPc g z [.ref (z + 340), .int p0] I0) (dkQi g z (fun r I1 => dkF [(340, 340, 25, 25), (353, 353, 0, 4)] I0 I1 ∧ dkOk I1 ∧ ((True ∧ dkN [(5, 5)] (I1 340 25) ∧ dkN [(11, 11)] (I1 353 0) ∧ dkN [(10, 10)] (I1 353 1) ∧ dkN [(22, 22)] (I1 353 2) ∧ dkN [(21, 21)] (I1 353 3) ∧ dkN [(20, 20)] (I1 353 4) ∧ (I0 346 (Int32.toNatClampNeg ((36 : Int32) + ((3 : Int32) * p0)))).toInt = (3 : Int) ∧ ((3 : Int32) * p0).toInt = (3 : Int) * p0.toInt ∧ ((36 : Int32) + ((3 : Int32) * p0)).toInt = (36 : Int) + ((3 : Int32) * p0).toInt ∧ (((36 : Int32) + ((3 : Int32) * p0)) + (1 : Int32)).toInt = ((36 : Int32) + ((3 : Int32) * p0)).toInt + (1 : Int) ∧ ((I0 346) (Int32.toNatClampNeg ((36 : Int32) + ((3 : Int32) * p0)))).toInt = (3 : Int) ∧ (((36 : Int32) + ((3 : Int32) * p0)) + (2 : Int32)).toInt = ((36 : Int32) + ((3 : Int32) * p0)).toInt + (2 : Int) ∧ r = (I0 346 (Int32.toNatClampNeg (((36 : Int32) + ((3 : Int32) * p0)) + (1 : Int32)))) + ((p0 + ((I0 346) (Int32.toNatClampNeg (((36 : Int32) + ((3 : Int32) * p0)) + (2 : Int32))))) - (1000 : Int32)) ∧ I1 340 25 = 5 ∧ I1 353 0 = 11 ∧ I1 353 1 = 10 ∧ I1 353 2 = 22 ∧ I1 353 3 = 21 ∧ I1 353 4 = 20 ∧ I1 353 5 = I0 353 5 ∧ I1 353 6 = I0 353 6 ∧ I1 353 7 = I0 353 7 ∧ I1 353  = dkV (dkV (dkV (dkV (dkV (I0 353) 0 11) 1 10) 2 22) 3 21) 4 20 ∧ True)))) 0 0 (dkA z) := by
  refine Met.ofW (cc := cX6_houndSize) (maxL := 4) (ret := (some .int)) (by decide) rfl ?_
  intro p e s m args below meth c s₁ B hml hv
  obtain ⟨ha, hW, hK, hT⟩ := hv
  have hx := B.exec
  have hb := B.bytes
  have hr := B.returns
  have hts := atoms_spec (ws := wsX6_houndSize) B.pre
  have hown : s.vm.findClass RX6 = some m.cls := findClass_of_methodNamed B.named
  have hlocks := B.notSynchronized
  have hS : va_S (dkA z) s.heap s.heap [] := va_S.rf
  have hF : dkF [(340, 340, 25, 25), (353, 353, 0, 4)] I0 I0 := dkF_rf _ _
  have hl := lv_entry ([.ref (z + 340), .int p0]) (n := 4) (Nat.le_of_ble_eq_true rfl)
  have hgo : entryFrame m args 4 = entryFrame m ([.ref (z + 340), .int p0] : List Value).toArray 4 := by rw [ha]
  rw [hgo, lg_entry_eq]
  generalize (lg_sl ([.ref (z + 340), .int p0]) ++ List.replicate (4 - (lg_sl ([.ref (z + 340), .int p0])).length) Slot.unset).toArray = ls at hl ⊢
  have hl : lv_has ls 4 [(0, .ref (z + 340)), (1, .int p0)] := hl
  refine lv_aload_n hx hb dX6_houndSize_0 rfl (lv_at hl 0 rfl) ?_
  refine lv_iload_n hx hb dX6_houndSize_1 rfl (lv_at hl 1 rfl) ?_
  refine dk_Vi (As := [.int p0]) (rest := []) ⟨hx, hb, hml, hown, hts⟩ (fx_X6_kindIn_1 l g z I0 p0 dp0 hO) (cwV 1 hts gX6_houndSize_X6_kindIn rfl rfl rfl (by decide +kernel) ⟨Nat.le_of_ble_eq_true rfl, Nat.le_of_ble_eq_true rfl⟩) (dk_at340 hW) rfl hK hT hW hS rfl hl.1 rfl (Nat.le_of_ble_eq_true rfl) dX6_houndSize_2 ⟨Nat.zero_le _, Nat.zero_le _⟩ (fun v1 I1 H1 L1 hp1 hW hS => ?_)
  obtain ⟨hF1, hO, hc1⟩ := hp1
  have hF := dkF_call hF hF1 rfl
  have eI1 : I0 = I1 := (dkF_nil hF1).symm
  subst eI1
  obtain ⟨_, x1_0, x1_1, xr1, -⟩ := hc1
  have q2 : ((3 : Int32) * p0).toInt = (3 : Int) * p0.toInt := x1_0
  have q3 : ((36 : Int32) + ((3 : Int32) * p0)).toInt = (36 : Int) + ((3 : Int32) * p0).toInt := x1_1
  have xv1 : v1 = I0 346 (Int32.toNatClampNeg ((36 : Int32) + ((3 : Int32) * p0))) := by have h := xr1; exact h
  have z4 : v1 = 3 := dk_e0 (by rw [xv1]; exact tp0)
  subst z4
  refine lv_iconst (v := 2) hx hb dX6_houndSize_5 (by decide) ?_
  refine lv_icmp_ne (tgt := 13) hx hb dX6_houndSize_6 (by decide) (fun c5 => ?_) (fun c5 => ?_)
  ·
    refine lv_iconst (v := 0) hx hb dX6_houndSize_13 (by decide) ?_
    refine lv_istore_n (lv' := [(2, .int 0), (0, .ref (z + 340)), (1, .int p0)]) hx hb dX6_houndSize_14 rfl hl (by decide) rfl (fun ls hl => ?_)
    refine lv_iload_n hx hb dX6_houndSize_15 rfl (lv_at hl 0 rfl) ?_
    refine lv_if_eq (tgt := 25) hx hb dX6_houndSize_16 (by decide) (fun c6 => ?_) (fun c6 => ?_)
    ·
      refine lv_aload_n hx hb dX6_houndSize_25 rfl (lv_at hl 1 rfl) ?_
      refine lv_bipush (v := 11) hx hb dX6_houndSize_26 (by decide) ?_
      refine dk_Vv (As := [.int 11]) (rest := []) ⟨hx, hb, hml, hown, hts⟩ (fx_X6_begins_11 l g z I0 11 (dkN_lit (x := 11) (11) rfl) (show dkN [(0, 0)] (I0 340 25) from dkN_sub (by rw [hF1 340 25 rfl]; exact np0) rfl) hO) (cwV 1 hts gX6_houndSize_X6_begins rfl rfl rfl (by decide +kernel) ⟨Nat.le_of_ble_eq_true rfl, Nat.le_of_ble_eq_true rfl⟩) (dk_at340 hW) rfl hK hT hW hS rfl hl.1 rfl (Nat.le_of_ble_eq_true rfl) dX6_houndSize_28 ⟨Nat.zero_le _, Nat.zero_le _⟩ (fun I7 H7 L7 hp7 hW hS => ?_)
      obtain ⟨hF7, hO, hc7⟩ := hp7
      have hF := dkF_call hF hF7 rfl
      obtain ⟨f7_340_25, f7_353_0, xh7_0, xh7_1, xh7_2, xh7_3, xh7_4, xh7_5, xh7_6, xh7_7, xh7_8, xh7_9, -⟩ := hc7
      have y8 : I7 340 25 = 1 := by have h := xh7_0; exact h
      have y9 : I7 353 0 = 11 := by have h := xh7_1; exact h
      have y10 : I7 353 1 = I0 353 1 := by have h := xh7_2; exact h
      have y11 : I7 353 2 = I0 353 2 := by have h := xh7_3; exact h
      have y12 : I7 353 3 = I0 353 3 := by have h := xh7_4; exact h
      have y13 : I7 353 4 = I0 353 4 := by have h := xh7_5; exact h
      have y14 : I7 353 5 = I0 353 5 := by have h := xh7_6; exact h
      have y15 : I7 353 6 = I0 353 6 := by have h := xh7_7; exact h
      have y16 : I7 353 7 = I0 353 7 := by have h := xh7_8; exact h
      have y17 : I7 353 = dkV (I0 353) 0 11 := by have h := xh7_9; exact h
      refine lv_aload_n hx hb dX6_houndSize_31 rfl (lv_at hl 1 rfl) ?_
      refine lv_bipush (v := 10) hx hb dX6_houndSize_32 (by decide) ?_
      refine dk_Vv (As := [.int 10]) (rest := []) ⟨hx, hb, hml, hown, hts⟩ (fx_X6_begins_12 l g z I7 10 (dkN_lit (x := 10) (10) rfl) (show dkN [(1, 1)] (I7 340 25) from dkN_sub f7_340_25 rfl) hO) (cwV 1 hts gX6_houndSize_X6_begins rfl rfl rfl (by decide +kernel) ⟨Nat.le_of_ble_eq_true rfl, Nat.le_of_ble_eq_true rfl⟩) (dk_at340 hW) rfl hK hT hW hS rfl hl.1 rfl (Nat.le_of_ble_eq_true rfl) dX6_houndSize_34 ⟨Nat.zero_le _, Nat.zero_le _⟩ (fun I18 H18 L18 hp18 hW hS => ?_)
      obtain ⟨hF18, hO, hc18⟩ := hp18
      have hF := dkF_call hF hF18 rfl
      obtain ⟨f18_340_25, f18_353_1, xh18_0, xh18_1, xh18_2, xh18_3, xh18_4, xh18_5, xh18_6, xh18_7, xh18_8, xh18_9, -⟩ := hc18
      have y19 : I18 340 25 = 2 := by have h := xh18_0; exact h
      have w20 : I7 353 0 = 11 := y9
      have y21 : I18 353 0 = 11 := by have h := xh18_1; rw [w20] at h; exact h
      have y22 : I18 353 1 = 10 := by have h := xh18_2; exact h
      have w23 : I7 353 2 = I0 353 2 := y11
      have y24 : I18 353 2 = I0 353 2 := by have h := xh18_3; rw [w23] at h; exact h
      have w25 : I7 353 3 = I0 353 3 := y12
      have y26 : I18 353 3 = I0 353 3 := by have h := xh18_4; rw [w25] at h; exact h
      have w27 : I7 353 4 = I0 353 4 := y13
      have y28 : I18 353 4 = I0 353 4 := by have h := xh18_5; rw [w27] at h; exact h
      have w29 : I7 353 5 = I0 353 5 := y14
      have y30 : I18 353 5 = I0 353 5 := by have h := xh18_6; rw [w29] at h; exact h
      have w31 : I7 353 6 = I0 353 6 := y15
      have y32 : I18 353 6 = I0 353 6 := by have h := xh18_7; rw [w31] at h; exact h
      have w33 : I7 353 7 = I0 353 7 := y16
      have y34 : I18 353 7 = I0 353 7 := by have h := xh18_8; rw [w33] at h; exact h
      have w35 : I7 353 = dkV (I0 353) 0 11 := y17
      have y36 : I18 353 = dkV (dkV (I0 353) 0 11) 1 10 := by have h := xh18_9; rw [w35] at h; exact h
      refine lv_aload_n hx hb dX6_houndSize_37 rfl (lv_at hl 1 rfl) ?_
      refine dk_get (k := 340) hx hb hts iX6_houndSize_6 hown hK (dk_at340 hW) rfl 13 (by decide) (hts (.fieldLink RX6 25 "DogKingsModel" "now" "[I") (List.mem_of_getElem? (i := 1) rfl)) rfl dX6_houndSize_38 ?_
      refine lv_bipush (v := 36) hx hb dX6_houndSize_41 (by decide) ?_
      refine lv_iconst (v := 3) hx hb dX6_houndSize_43 (by decide) ?_
      refine lv_iload_n hx hb dX6_houndSize_44 rfl (lv_at hl 2 rfl) ?_
      refine lv_imul hx hb dX6_houndSize_45 ?_
      refine lv_topi (fun v37 ev37 => ?_)
      have dv37 : dkN [(0, 0), (3, 3), (6, 6), (9, 9), (12, 12), (15, 15)] v37 := by rw [ev37]; exact dkN_mulPt 3 (dkN_lit (x := 3) (3) rfl) dp0 rfl
      have xv37 : v37 = (3 : Int32) * p0 := by rw [ev37]
      refine lv_iadd hx hb dX6_houndSize_46 ?_
      refine lv_topi (fun v38 ev38 => ?_)
      have dv38 : dkN [(36, 36), (39, 39), (42, 42), (45, 45), (48, 48), (51, 51)] v38 := by rw [ev38]; exact dkN_add (dkN_lit (x := 36) (36) rfl) dv37 rfl
      have xv38 : v38 = (36 : Int32) + ((3 : Int32) * p0) := by rw [ev38, xv37]
      refine lv_iconst (v := 1) hx hb dX6_houndSize_47 (by decide) ?_
      refine lv_iadd hx hb dX6_houndSize_48 ?_
      refine lv_topi (fun v39 ev39 => ?_)
      have dv39 : dkN [(37, 37), (40, 40), (43, 43), (46, 46), (49, 49), (52, 52)] v39 := by rw [ev39]; exact dkN_add dv38 (dkN_lit (x := 1) (1) rfl) rfl
      have xv39 : v39 = ((36 : Int32) + ((3 : Int32) * p0)) + (1 : Int32) := by rw [ev39, xv38]
      have q40 : (((36 : Int32) + ((3 : Int32) * p0)) + (1 : Int32)).toInt = ((36 : Int32) + ((3 : Int32) * p0)).toInt + (1 : Int) := by first | (rw [← xv39, ← xv38]; exact (by rw [ev39]; exact dk_addE dv38 (dkN_lit (x := 1) (1) rfl) rfl)) | (subst xv39 xv38; exact (by rw [ev39]; exact dk_addE dv38 (dkN_lit (x := 1) (1) rfl) rfl))
      refine dk_ild (k := 346) hx hb hK (dk_at346 hW) (dkN_in (n := 54) dv39 rfl) dX6_houndSize_49 ?_
      refine lv_topi (fun v41 ev41 => ?_)
      have xv41 : v41 = I0 346 (Int32.toNatClampNeg (((36 : Int32) + ((3 : Int32) * p0)) + (1 : Int32))) := ev41.trans ((hF18 346 (Int32.toNatClampNeg v39) (dkNin_k rfl (dkNin_k rfl dkNin_nil))).trans ((hF7 346 (Int32.toNatClampNeg v39) (dkNin_k rfl (dkNin_k rfl dkNin_nil))).trans (by rw [xv39])))
      refine lv_aload_n hx hb dX6_houndSize_50 rfl (lv_at hl 1 rfl) ?_
      refine lv_iload_n hx hb dX6_houndSize_51 rfl (lv_at hl 2 rfl) ?_
      refine dk_Vi (As := [.int p0]) (rest := [.int v41]) ⟨hx, hb, hml, hown, hts⟩ (fx_X6_houndMark_6 l g z I18 p0 dp0 (show dkN [(2, 2)] (I18 340 25) from dkN_sub f18_340_25 rfl) (by rw [(show I18 346 = I0 346 from ((funext fun j => hF18 346 j (dkNin_k rfl (dkNin_k rfl dkNin_nil))).trans ((funext fun j => hF7 346 j (dkNin_k rfl (dkNin_k rfl dkNin_nil))).trans rfl)))]; exact tp0) hO) (cwV 1 hts gX6_houndSize_X6_houndMark rfl rfl rfl (by decide +kernel) ⟨Nat.le_of_ble_eq_true rfl, Nat.le_of_ble_eq_true rfl⟩) (dk_at340 hW) rfl hK hT hW hS rfl hl.1 rfl (Nat.le_of_ble_eq_true rfl) dX6_houndSize_52 ⟨Nat.zero_le _, Nat.zero_le _⟩ (fun v42 I42 H42 L42 hp42 hW hS => ?_)
      obtain ⟨hF42, hO, hc42⟩ := hp42
      have hF := dkF_call hF hF42 rfl
      obtain ⟨_, f42_340_25, f42_353_2, f42_353_3, f42_353_4, x42_0, x42_1, x42_2, x42_3, xr42, xh42_0, xh42_1, xh42_2, xh42_3, xh42_4, xh42_5, xh42_6, xh42_7, xh42_8, xh42_9, -⟩ := hc42
      have w43 : I18 346 = I0 346 := ((funext fun j => hF18 346 j (dkNin_k rfl (dkNin_k rfl dkNin_nil))).trans ((funext fun j => hF7 346 j (dkNin_k rfl (dkNin_k rfl dkNin_nil))).trans rfl))
      have q44 : ((I0 346) (Int32.toNatClampNeg ((36 : Int32) + ((3 : Int32) * p0)))).toInt = (3 : Int) := by have h := x42_0; rw [w43] at h; exact h
      have q45 : (((36 : Int32) + ((3 : Int32) * p0)) + (2 : Int32)).toInt = ((36 : Int32) + ((3 : Int32) * p0)).toInt + (2 : Int) := x42_3
      have y46 : I42 340 25 = 5 := by have h := xh42_0; exact h
      have w47 : I18 353 0 = 11 := y21
      have y48 : I42 353 0 = 11 := by have h := xh42_1; rw [w47] at h; exact h
      have w49 : I18 353 1 = 10 := y22
      have y50 : I42 353 1 = 10 := by have h := xh42_2; rw [w49] at h; exact h
      have y51 : I42 353 2 = 22 := by have h := xh42_3; exact h
      have y52 : I42 353 3 = 21 := by have h := xh42_4; exact h
      have y53 : I42 353 4 = 20 := by have h := xh42_5; exact h
      have w54 : I18 353 5 = I0 353 5 := y30
      have y55 : I42 353 5 = I0 353 5 := by have h := xh42_6; rw [w54] at h; exact h
      have w56 : I18 353 6 = I0 353 6 := y32
      have y57 : I42 353 6 = I0 353 6 := by have h := xh42_7; rw [w56] at h; exact h
      have w58 : I18 353 7 = I0 353 7 := y34
      have y59 : I42 353 7 = I0 353 7 := by have h := xh42_8; rw [w58] at h; exact h
      have w60 : I18 353 = dkV (dkV (I0 353) 0 11) 1 10 := y36
      have y61 : I42 353 = dkV (dkV (dkV (dkV (dkV (I0 353) 0 11) 1 10) 2 22) 3 21) 4 20 := by have h := xh42_9; rw [w60] at h; exact h
      have xv42 : v42 = (p0 + ((I0 346) (Int32.toNatClampNeg (((36 : Int32) + ((3 : Int32) * p0)) + (2 : Int32))))) - (1000 : Int32) := by have h := xr42; rw [w43] at h; exact h
      refine lv_iadd hx hb dX6_houndSize_55 ?_
      refine lv_topi (fun v62 ev62 => ?_)
      have xv62 : v62 = (I0 346 (Int32.toNatClampNeg (((36 : Int32) + ((3 : Int32) * p0)) + (1 : Int32)))) + ((p0 + ((I0 346) (Int32.toNatClampNeg (((36 : Int32) + ((3 : Int32) * p0)) + (2 : Int32))))) - (1000 : Int32)) := by rw [ev62, xv41, xv42]
      refine lv_istore_n (lv' := [(3, .int v62), (2, .int 0), (0, .ref (z + 340)), (1, .int p0)]) hx hb dX6_houndSize_56 rfl hl (by decide) rfl (fun ls hl => ?_)
      refine lv_iload_n hx hb dX6_houndSize_57 rfl (lv_at hl 1 rfl) ?_
      refine lv_if_eq (tgt := 66) hx hb dX6_houndSize_58 (by decide) (fun c63 => ?_) (fun c63 => ?_)
      ·
        refine lv_iload_n hx hb dX6_houndSize_66 rfl (lv_at hl 0 rfl) ?_
        exact W.iret (v := v62) hx hb hr (fun t ht hW9 => ⟨⟨v62, I42, rfl, ⟨hF, hO, ⟨trivial, (show dkN [(5, 5)] (I42 340 25) from dkN_sub f42_340_25 rfl), (show dkN [(11, 11)] (I42 353 0) from dkN_sub (by rw [hF42 353 0 rfl]; exact (by rw [hF18 353 0 rfl]; exact f7_353_0)) rfl), (show dkN [(10, 10)] (I42 353 1) from dkN_sub (by rw [hF42 353 1 rfl]; exact f18_353_1) rfl), (show dkN [(22, 22)] (I42 353 2) from dkN_sub f42_353_2 rfl), (show dkN [(21, 21)] (I42 353 3) from dkN_sub f42_353_3 rfl), (show dkN [(20, 20)] (I42 353 4) from dkN_sub f42_353_4 rfl), tp0, q2, q3, q40, q44, q45, xv62, y46, y48, y50, y51, y52, y53, y55, y57, y59, y61, trivial⟩⟩, dkW_eq ht hW⟩, hS.F ht⟩) hS.2.2 dX6_houndSize_67
      ·
        exact (dkN_nil (show dkN [] 0 from dkN_ne1 (0) (dkN_lit (x := 0) (0) rfl) (dkN_lit (x := 0) (0) rfl) (dk_ne c63) rfl)).elim
    ·
      exact (dkN_nil (show dkN [] 0 from dkN_ne1 (0) (dkN_lit (x := 0) (0) rfl) (dkN_lit (x := 0) (0) rfl) (dk_ne c6) rfl)).elim
  ·
    exact (dkN_nil (show dkN [] 3 from dkN_eq1 (dkN_lit (x := 3) (3) rfl) (dkN_lit (x := 2) (2) rfl) (congrArg Int32.toInt c5) rfl)).elim
set_option maxHeartbeats 4000000 in
set_option maxRecDepth 100000 in
theorem fx_X6_ask_5 (l : Launch) (g : dkG) (z : Nat) (I0 : dkI) (p0 : Int32) (p1 : Int32)  (tp0 : (I0 346 (Int32.toNatClampNeg ((36 : Int32) + ((3 : Int32) * p0)))).toInt = (3 : Int)) (hO : dkOk I0) : Met l yX6_ask wsX6_ask (dkR 3) (dkPc g z [.ref (z + 340), .int p0, .int p1] I0) (dkQi g z (fun r I1 => dkF [(340, 340, 25, 25), (353, 353, 0, 4)] I0 I1 ∧ dkOk I1 ∧ ((dkN [(-1000001, -1000001)] r ∧ dkN [(-2147483648, -1)] p0 ∧ (I0 346 (Int32.toNatClampNeg ((36 : Int32) + ((3 : Int32) * p0)))).toInt = (3 : Int) ∧ ((I0 346 5) - (1 : Int32)).toInt = (I0 346 5).toInt - (1 : Int) ∧ p0.toInt + 1 ≤ (0 : Int) ∧ r = (-1000001) ∧ I1 340 25 = I0 340 25 ∧ I1 353 0 = I0 353 0 ∧ I1 353 1 = I0 353 1 ∧ I1 353 2 = I0 353 2 ∧ I1 353 3 = I0 353 3 ∧ I1 353 4 = I0 353 4 ∧ I1 353 5 = I0 353 5 ∧ I1 353 6 = I0 353 6 ∧ I1 353 7 = I0 353 7 ∧ I1 353  = I0 353 ∧ True) ∨ (dkN [(-1000001, -1000001)] r ∧ dkN [(0, 2147483647)] p0 ∧ (I0 346 (Int32.toNatClampNeg ((36 : Int32) + ((3 : Int32) * p0)))).toInt = (3 : Int) ∧ ((I0 346 5) - (1 : Int32)).toInt = (I0 346 5).toInt - (1 : Int) ∧ (0 : Int) + 0 ≤ p0.toInt ∧ ((I0 346 5) - (1 : Int32)).toInt + 1 ≤ p0.toInt ∧ r = (-1000001) ∧ I1 340 25 = I0 340 25 ∧ I1 353 0 = I0 353 0 ∧ I1 353 1 = I0 353 1 ∧ I1 353 2 = I0 353 2 ∧ I1 353 3 = I0 353 3 ∧ I1 353 4 = I0 353 4 ∧ I1 353 5 = I0 353 5 ∧ I1 353 6 = I0 353 6 ∧ I1 353 7 = I0 353 7 ∧ I1 353  = I0 353 ∧ True) ∨ (dkN [(-1000001, -1000001)] r ∧ dkN [(0, 5)] p0 ∧ dkN [(-2147483648, -1)] p1 ∧ (I0 346 (Int32.toNatClampNeg ((36 : Int32) + ((3 : Int32) * p0)))).toInt = (3 : Int) ∧ ((I0 346 5) - (1 : Int32)).toInt = (I0 346 5).toInt - (1 : Int) ∧ (0 : Int) + 0 ≤ p0.toInt ∧ p0.toInt + 0 ≤ ((I0 346 5) - (1 : Int32)).toInt ∧ p1.toInt + 1 ≤ (0 : Int) ∧ r = (-1000001) ∧ I1 340 25 = I0 340 25 ∧ I1 353 0 = I0 353 0 ∧ I1 353 1 = I0 353 1 ∧ I1 353 2 = I0 353 2 ∧ I1 353 3 = I0 353 3 ∧ I1 353 4 = I0 353 4 ∧ I1 353 5 = I0 353 5 ∧ I1 353 6 = I0 353 6 ∧ I1 353 7 = I0 353 7 ∧ I1 353  = I0 353 ∧ True) ∨ (dkN [(-1000001, -1000001)] r ∧ dkN [(0, 5)] p0 ∧ dkN [(2, 2147483647)] p1 ∧ (I0 346 (Int32.toNatClampNeg ((36 : Int32) + ((3 : Int32) * p0)))).toInt = (3 : Int) ∧ ((I0 346 5) - (1 : Int32)).toInt = (I0 346 5).toInt - (1 : Int) ∧ (0 : Int) + 0 ≤ p0.toInt ∧ p0.toInt + 0 ≤ ((I0 346 5) - (1 : Int32)).toInt ∧ (0 : Int) + 0 ≤ p1.toInt ∧ (1 : Int) + 1 ≤ p1.toInt ∧ r = (-1000001) ∧ I1 340 25 = I0 340 25 ∧ I1 353 0 = I0 353 0 ∧ I1 353 1 = I0 353 1 ∧ I1 353 2 = I0 353 2 ∧ I1 353 3 = I0 353 3 ∧ I1 353 4 = I0 353 4 ∧ I1 353 5 = I0 353 5 ∧ I1 353 6 = I0 353 6 ∧ I1 353 7 = I0 353 7 ∧ I1 353  = I0 353 ∧ True) ∨ (True ∧ dkN [(0, 5)] p0 ∧ dkN [(1, 1)] p1 ∧ dkN [(3, 3)] (I1 340 25) ∧ dkN [(22, 22)] (I1 353 0) ∧ dkN [(21, 21)] (I1 353 1) ∧ dkN [(20, 20)] (I1 353 2) ∧ (I0 346 (Int32.toNatClampNeg ((36 : Int32) + ((3 : Int32) * p0)))).toInt = (3 : Int) ∧ ((I0 346 5) - (1 : Int32)).toInt = (I0 346 5).toInt - (1 : Int) ∧ (0 : Int) + 0 ≤ p0.toInt ∧ p0.toInt + 0 ≤ ((I0 346 5) - (1 : Int32)).toInt ∧ (0 : Int) + 0 ≤ p1.toInt ∧ p1.toInt + 0 ≤ (1 : Int) ∧ ((3 : Int32) * p0).toInt = (3 : Int) * p0.toInt ∧ ((36 : Int32) + ((3 : Int32) * p0)).toInt = (36 : Int) + ((3 : Int32) * p0).toInt ∧ p1.toInt ≠ (0 : Int) ∧ ((I0 346) (Int32.toNatClampNeg ((36 : Int32) + ((3 : Int32) * p0)))).toInt = (3 : Int) ∧ (((36 : Int32) + ((3 : Int32) * p0)) + (2 : Int32)).toInt = ((36 : Int32) + ((3 : Int32) * p0)).toInt + (2 : Int) ∧ r = (p0 + ((I0 346) (Int32.toNatClampNeg (((36 : Int32) + ((3 : Int32) * p0)) + (2 : Int32))))) - (1000 : Int32) ∧ I1 340 25 = 3 ∧ I1 353 0 = 22 ∧ I1 353 1 = 21 ∧ I1 353 2 = 20 ∧ I1 353 3 = I0 353 3 ∧ I1 353 4 = I0 353 4 ∧ I1 353 5 = I0 353 5 ∧ I1 353 6 = I0 353 6 ∧ I1 353 7 = I0 353 7 ∧ I1 353  = dkV (dkV (dkV (I0 353) 0 22) 1 21) 2 20 ∧ True) ∨ (True ∧ dkN [(0, 5)] p0 ∧ dkN [(0, 0)] p1 ∧ dkN [(5, 5)] (I1 340 25) ∧ dkN [(11, 11)] (I1 353 0) ∧ dkN [(10, 10)] (I1 353 1) ∧ dkN [(22, 22)] (I1 353 2) ∧ dkN [(21, 21)] (I1 353 3) ∧ dkN [(20, 20)] (I1 353 4) ∧ (I0 346 (Int32.toNatClampNeg ((36 : Int32) + ((3 : Int32) * p0)))).toInt = (3 : Int) ∧ ((I0 346 5) - (1 : Int32)).toInt = (I0 346 5).toInt - (1 : Int) ∧ (0 : Int) + 0 ≤ p0.toInt ∧ p0.toInt + 0 ≤ ((I0 346 5) - (1 : Int32)).toInt ∧ (0 : Int) + 0 ≤ p1.toInt ∧ p1.toInt + 0 ≤ (1 : Int) ∧ ((3 : Int32) * p0).toInt = (3 : Int) * p0.toInt ∧ ((36 : Int32) + ((3 : Int32) * p0)).toInt = (36 : Int) + ((3 : Int32) * p0).toInt ∧ p1.toInt = (0 : Int) ∧ ((I0 346) (Int32.toNatClampNeg ((36 : Int32) + ((3 : Int32) * p0)))).toInt = (3 : Int) ∧ (((36 : Int32) + ((3 : Int32) * p0)) + (1 : Int32)).toInt = ((36 : Int32) + ((3 : Int32) * p0)).toInt + (1 : Int) ∧ (((36 : Int32) + ((3 : Int32) * p0)) + (2 : Int32)).toInt = ((36 : Int32) + ((3 : Int32) * p0)).toInt + (2 : Int) ∧ r = ((I0 346) (Int32.toNatClampNeg (((36 : Int32) + ((3 : Int32) * p0)) + (1 : Int32)))) + ((p0 + ((I0 346) (Int32.toNatClampNeg (((36 : Int32) + ((3 : Int32) * p0)) + (2 : Int32))))) - (1000 : Int32)) ∧ I1 340 25 = 5 ∧ I1 353 0 = 11 ∧ I1 353 1 = 10 ∧ I1 353 2 = 22 ∧ I1 353 3 = 21 ∧ I1 353 4 = 20 ∧ I1 353 5 = I0 353 5 ∧ I1 353 6 = I0 353 6 ∧ I1 353 7 = I0 353 7 ∧ I1 353  = dkV (dkV (dkV (dkV (dkV (I0 353) 0 11) 1 10) 2 22) 3 21) 4 20 ∧ True)))) 0 0 (dkA z) := by
  refine Met.ofW (cc := cX6_ask) (maxL := 4) (ret := (some .int)) (by decide) rfl ?_
  intro p e s m args below meth c s₁ B hml hv
  obtain ⟨ha, hW, hK, hT⟩ := hv
  have hx := B.exec
  have hb := B.bytes
  have hr := B.returns
  have hts := atoms_spec (ws := wsX6_ask) B.pre
  have hown : s.vm.findClass RX6 = some m.cls := findClass_of_methodNamed B.named
  have hlocks := B.notSynchronized
  have hS : va_S (dkA z) s.heap s.heap [] := va_S.rf
  have hF : dkF [(340, 340, 25, 25), (353, 353, 0, 4)] I0 I0 := dkF_rf _ _
  have hl := lv_entry ([.ref (z + 340), .int p0, .int p1]) (n := 4) (Nat.le_of_ble_eq_true rfl)
  have hgo : entryFrame m args 4 = entryFrame m ([.ref (z + 340), .int p0, .int p1] : List Value).toArray 4 := by rw [ha]
  rw [hgo, lg_entry_eq]
  generalize (lg_sl ([.ref (z + 340), .int p0, .int p1]) ++ List.replicate (4 - (lg_sl ([.ref (z + 340), .int p0, .int p1])).length) Slot.unset).toArray = ls at hl ⊢
  have hl : lv_has ls 4 [(0, .ref (z + 340)), (1, .int p0), (2, .int p1)] := hl
  refine lv_aload_n hx hb dX6_ask_0 rfl (lv_at hl 0 rfl) ?_
  refine lv_iload_n hx hb dX6_ask_1 rfl (lv_at hl 1 rfl) ?_
  refine dk_Vi (As := [.int p0]) (rest := []) ⟨hx, hb, hml, hown, hts⟩ (fx_X6_isDog_1 l g z I0 p0 hO) (cwV 1 hts gX6_ask_X6_isDog rfl rfl rfl (by decide +kernel) ⟨Nat.le_of_ble_eq_true rfl, Nat.le_of_ble_eq_true rfl⟩) (dk_at340 hW) rfl hK hT hW hS rfl hl.1 rfl (Nat.le_of_ble_eq_true rfl) dX6_ask_2 ⟨Nat.zero_le _, Nat.zero_le _⟩ (fun v1 I1 H1 L1 hp1 hW hS => ?_)
  obtain ⟨hF1, hO, hc1⟩ := hp1
  have hF := dkF_call hF hF1 rfl
  have eI1 : I0 = I1 := (dkF_nil hF1).symm
  subst eI1
  rcases hc1 with ⟨dv1, a1_0, x1_0, x1_1, xr1, -⟩ | hc1
  ·
    have q2 : ((I0 346 5) - (1 : Int32)).toInt = (I0 346 5).toInt - (1 : Int) := x1_0
    have q3 : p0.toInt + 1 ≤ (0 : Int) := x1_1
    have xv1 : v1 = 0 := by have h := xr1; exact h
    have d4 : dkN [(-2147483648, -1)] p0 := dkN_eq1 (dkN_top p0) a1_0 rfl rfl
    have z5 : v1 = 0 := xv1
    subst z5
    refine lv_if_eq (tgt := 17) hx hb dX6_ask_5 (by decide) (fun c6 => ?_) (fun c6 => ?_)
    ·
      refine lv_ldc (v := (-1000001)) hx hb hown (hts (.constant RX6 64 (-1000001)) (List.mem_of_getElem? (i := 1) rfl)) dX6_ask_17 ?_
      exact W.iret (v := (-1000001)) hx hb hr (fun t ht hW9 => ⟨⟨(-1000001), I0, rfl, ⟨hF, hO, Or.inl ⟨dkN_sub (dkN_lit (x := (-1000001)) (-1000001) rfl) rfl, dkN_sub d4 rfl, tp0, q2, q3, rfl, rfl, rfl, rfl, rfl, rfl, rfl, rfl, rfl, rfl, rfl, trivial⟩⟩, dkW_eq ht hW⟩, hS.F ht⟩) hS.2.2 dX6_ask_19
    ·
      exact (dkN_nil (show dkN [] 0 from dkN_ne1 (0) (dkN_lit (x := 0) (0) rfl) (dkN_lit (x := 0) (0) rfl) (dk_ne c6) rfl)).elim
  rcases hc1 with ⟨dv1, a1_0, x1_0, x1_1, x1_2, xr1, -⟩ | hc1
  ·
    have q7 : ((I0 346 5) - (1 : Int32)).toInt = (I0 346 5).toInt - (1 : Int) := x1_0
    have q8 : (0 : Int) + 0 ≤ p0.toInt := x1_1
    have q9 : ((I0 346 5) - (1 : Int32)).toInt + 1 ≤ p0.toInt := x1_2
    have xv1 : v1 = 0 := by have h := xr1; exact h
    have d10 : dkN [(0, 2147483647)] p0 := dkN_eq1 (dkN_top p0) a1_0 rfl rfl
    have z11 : v1 = 0 := xv1
    subst z11
    refine lv_if_eq (tgt := 17) hx hb dX6_ask_5 (by decide) (fun c12 => ?_) (fun c12 => ?_)
    ·
      refine lv_ldc (v := (-1000001)) hx hb hown (hts (.constant RX6 64 (-1000001)) (List.mem_of_getElem? (i := 1) rfl)) dX6_ask_17 ?_
      exact W.iret (v := (-1000001)) hx hb hr (fun t ht hW9 => ⟨⟨(-1000001), I0, rfl, ⟨hF, hO, Or.inr (Or.inl ⟨dkN_sub (dkN_lit (x := (-1000001)) (-1000001) rfl) rfl, dkN_sub d10 rfl, tp0, q7, q8, q9, rfl, rfl, rfl, rfl, rfl, rfl, rfl, rfl, rfl, rfl, rfl, trivial⟩)⟩, dkW_eq ht hW⟩, hS.F ht⟩) hS.2.2 dX6_ask_19
    ·
      exact (dkN_nil (show dkN [] 0 from dkN_ne1 (0) (dkN_lit (x := 0) (0) rfl) (dkN_lit (x := 0) (0) rfl) (dk_ne c12) rfl)).elim
  ·
    obtain ⟨dv1, a1_0, x1_0, x1_1, x1_2, xr1, -⟩ := hc1
    have q13 : ((I0 346 5) - (1 : Int32)).toInt = (I0 346 5).toInt - (1 : Int) := x1_0
    have q14 : (0 : Int) + 0 ≤ p0.toInt := x1_1
    have q15 : p0.toInt + 0 ≤ ((I0 346 5) - (1 : Int32)).toInt := x1_2
    have xv1 : v1 = 1 := by have h := xr1; exact h
    have d16 : dkN [(0, 5)] p0 := dkN_eq1 (dkN_top p0) a1_0 rfl rfl
    have z17 : v1 = 1 := xv1
    subst z17
    refine lv_if_eq (tgt := 17) hx hb dX6_ask_5 (by decide) (fun c18 => ?_) (fun c18 => ?_)
    ·
      exact (dkN_nil (show dkN [] 1 from dkN_eq1 (dkN_lit (x := 1) (1) rfl) (dkN_lit (x := 0) (0) rfl) (congrArg Int32.toInt c18) rfl)).elim
    ·
      refine lv_iload_n hx hb dX6_ask_8 rfl (lv_at hl 2 rfl) ?_
      refine lv_iconst (v := 0) hx hb dX6_ask_9 (by decide) ?_
      refine lv_iconst (v := 1) hx hb dX6_ask_10 (by decide) ?_
      refine dk_Si (As := [.int p1, .int 0, .int 1]) (rest := []) ⟨hx, hb, hml, hown, hts⟩ (fx_X6_in_39 l g z I0 p1 0 1 (dkN_lit (x := 0) (0) rfl) (dkN_lit (x := 1) (1) rfl) hO) (va_cwS 3 hts gX6_ask_X6_in rfl rfl rfl (by decide +kernel) ⟨Nat.le_of_ble_eq_true rfl, Nat.le_of_ble_eq_true rfl⟩) hK hT hW hS rfl hl.1 rfl (Nat.le_of_ble_eq_true rfl) dX6_ask_11 ⟨Nat.zero_le _, Nat.zero_le _⟩ (fun v19 I19 H19 L19 hp19 hW hS => ?_)
      obtain ⟨hF19, hO, hc19⟩ := hp19
      have hF := dkF_call hF hF19 rfl
      have eI19 : I0 = I19 := (dkF_nil hF19).symm
      subst eI19
      rcases hc19 with ⟨dv19, a19_0, x19_0, xr19, -⟩ | hc19
      ·
        have q20 : p1.toInt + 1 ≤ (0 : Int) := x19_0
        have xv19 : v19 = 0 := by have h := xr19; exact h
        have d21 : dkN [(-2147483648, -1)] p1 := dkN_eq1 (dkN_top p1) a19_0 rfl rfl
        have z22 : v19 = 0 := xv19
        subst z22
        refine lv_if_ne (tgt := 20) hx hb dX6_ask_14 (by decide) (fun c23 => ?_) (fun c23 => ?_)
        ·
          exact (dkN_nil (show dkN [] 0 from dkN_ne1 (0) (dkN_lit (x := 0) (0) rfl) (dkN_lit (x := 0) (0) rfl) (dk_ne c23) rfl)).elim
        ·
          refine lv_ldc (v := (-1000001)) hx hb hown (hts (.constant RX6 64 (-1000001)) (List.mem_of_getElem? (i := 1) rfl)) dX6_ask_17 ?_
          exact W.iret (v := (-1000001)) hx hb hr (fun t ht hW9 => ⟨⟨(-1000001), I0, rfl, ⟨hF, hO, Or.inr (Or.inr (Or.inl ⟨dkN_sub (dkN_lit (x := (-1000001)) (-1000001) rfl) rfl, dkN_sub d16 rfl, dkN_sub d21 rfl, tp0, q13, q14, q15, q20, rfl, rfl, rfl, rfl, rfl, rfl, rfl, rfl, rfl, rfl, rfl, trivial⟩))⟩, dkW_eq ht hW⟩, hS.F ht⟩) hS.2.2 dX6_ask_19
      rcases hc19 with ⟨dv19, a19_0, x19_0, x19_1, xr19, -⟩ | hc19
      ·
        have q24 : (0 : Int) + 0 ≤ p1.toInt := x19_0
        have q25 : (1 : Int) + 1 ≤ p1.toInt := x19_1
        have xv19 : v19 = 0 := by have h := xr19; exact h
        have d26 : dkN [(2, 2147483647)] p1 := dkN_eq1 (dkN_top p1) a19_0 rfl rfl
        have z27 : v19 = 0 := xv19
        subst z27
        refine lv_if_ne (tgt := 20) hx hb dX6_ask_14 (by decide) (fun c28 => ?_) (fun c28 => ?_)
        ·
          exact (dkN_nil (show dkN [] 0 from dkN_ne1 (0) (dkN_lit (x := 0) (0) rfl) (dkN_lit (x := 0) (0) rfl) (dk_ne c28) rfl)).elim
        ·
          refine lv_ldc (v := (-1000001)) hx hb hown (hts (.constant RX6 64 (-1000001)) (List.mem_of_getElem? (i := 1) rfl)) dX6_ask_17 ?_
          exact W.iret (v := (-1000001)) hx hb hr (fun t ht hW9 => ⟨⟨(-1000001), I0, rfl, ⟨hF, hO, Or.inr (Or.inr (Or.inr (Or.inl ⟨dkN_sub (dkN_lit (x := (-1000001)) (-1000001) rfl) rfl, dkN_sub d16 rfl, dkN_sub d26 rfl, tp0, q13, q14, q15, q24, q25, rfl, rfl, rfl, rfl, rfl, rfl, rfl, rfl, rfl, rfl, rfl, trivial⟩)))⟩, dkW_eq ht hW⟩, hS.F ht⟩) hS.2.2 dX6_ask_19
      ·
        obtain ⟨dv19, a19_0, x19_0, x19_1, xr19, -⟩ := hc19
        have q29 : (0 : Int) + 0 ≤ p1.toInt := x19_0
        have q30 : p1.toInt + 0 ≤ (1 : Int) := x19_1
        have xv19 : v19 = 1 := by have h := xr19; exact h
        have d31 : dkN [(0, 1)] p1 := dkN_eq1 (dkN_top p1) a19_0 rfl rfl
        have z32 : v19 = 1 := xv19
        subst z32
        refine lv_if_ne (tgt := 20) hx hb dX6_ask_14 (by decide) (fun c33 => ?_) (fun c33 => ?_)
        ·
          refine lv_aload_n hx hb dX6_ask_20 rfl (lv_at hl 0 rfl) ?_
          refine lv_iconst (v := 0) hx hb dX6_ask_21 (by decide) ?_
          refine dk_put (k := 340) hx hb hts iX6_ask_6 tyX6 tyX6_ok nmX6 hown hK hW (dk_at340 hW) hS rfl 25 (by decide) (hts (.fieldLink RX6 252 "DogKingsModel" "traced" "I") (List.mem_of_getElem? (i := 2) rfl)) rfl rfl (Nat.le_of_ble_eq_true rfl) rfl dX6_ask_22 (fun I34 H34 L34 eI34 hW hS => ?_)
          have eI34 : I34 = dkU I0 340 25 0 := eI34
          have hO := dkO_set hO eI34 (dkN_sub (dkN_lit (x := 0) (0) rfl) rfl)
          have hF := dkF_set hF eI34 rfl
          refine lv_aload_n hx hb dX6_ask_25 rfl (lv_at hl 0 rfl) ?_
          refine lv_iload_n hx hb dX6_ask_26 rfl (lv_at hl 1 rfl) ?_
          refine dk_Vi (As := [.int p0]) (rest := []) ⟨hx, hb, hml, hown, hts⟩ (fx_X6_kindIn_1 l g z I34 p0 d16 hO) (cwV 1 hts gX6_ask_X6_kindIn rfl rfl rfl (by decide +kernel) ⟨Nat.le_of_ble_eq_true rfl, Nat.le_of_ble_eq_true rfl⟩) (dk_at340 hW) rfl hK hT hW hS rfl hl.1 rfl (Nat.le_of_ble_eq_true rfl) dX6_ask_27 ⟨Nat.zero_le _, Nat.zero_le _⟩ (fun v35 I35 H35 L35 hp35 hW hS => ?_)
          obtain ⟨hF35, hO, hc35⟩ := hp35
          have hF := dkF_call hF hF35 rfl
          have eI35 : I34 = I35 := (dkF_nil hF35).symm
          subst eI35
          obtain ⟨_, x35_0, x35_1, xr35, -⟩ := hc35
          have q36 : ((3 : Int32) * p0).toInt = (3 : Int) * p0.toInt := x35_0
          have q37 : ((36 : Int32) + ((3 : Int32) * p0)).toInt = (36 : Int) + ((3 : Int32) * p0).toInt := x35_1
          have w38 : I34 346 = I0 346 := ((by rw [eI34, dkU_n (by decide)] : I34 346 = _).trans rfl)
          have xv35 : v35 = (I0 346) (Int32.toNatClampNeg ((36 : Int32) + ((3 : Int32) * p0))) := by have h := xr35; rw [w38] at h; exact h
          have z39 : v35 = 3 := dk_e0 (by rw [xv35]; exact tp0)
          subst z39
          refine lv_iconst (v := 4) hx hb dX6_ask_30 (by decide) ?_
          refine lv_icmp_lt (tgt := 38) hx hb dX6_ask_31 (by decide) (fun c40 => ?_) (fun c40 => ?_)
          ·
            refine lv_iconst (v := 0) hx hb dX6_ask_38 (by decide) ?_
            refine lv_istore_n (lv' := [(3, .int 0), (0, .ref (z + 340)), (1, .int p0), (2, .int p1)]) hx hb dX6_ask_39 rfl hl (by decide) rfl (fun ls hl => ?_)
            refine lv_iload_n hx hb dX6_ask_40 rfl (lv_at hl 3 rfl) ?_
            refine lv_if_ne (tgt := 62) hx hb dX6_ask_41 (by decide) (fun c41 => ?_) (fun c41 => ?_)
            ·
              have q42 : p1.toInt ≠ (0 : Int) := (dk_ne c41)
              have d43 : dkN [(1, 1)] p1 := dkN_ne1 (0) d31 (dkN_lit (x := 0) (0) rfl) (dk_ne c41) rfl
              refine lv_iload_n hx hb dX6_ask_62 rfl (lv_at hl 0 rfl) ?_
              refine lv_if_eq (tgt := 74) hx hb dX6_ask_63 (by decide) (fun c44 => ?_) (fun c44 => ?_)
              ·
                refine lv_aload_n hx hb dX6_ask_74 rfl (lv_at hl 1 rfl) ?_
                refine lv_iload_n hx hb dX6_ask_75 rfl (lv_at hl 2 rfl) ?_
                refine dk_Vi (As := [.int p0]) (rest := []) ⟨hx, hb, hml, hown, hts⟩ (fx_X6_houndMark_5 l g z I34 p0 d16 (show dkN [(0, 0)] (I34 340 25) from dkN_sub (by rw [hF35 340 25 rfl]; exact (by rw [eI34, dkU_ss]; exact (dkN_lit (x := 0) (0) rfl))) rfl) (by rw [(show I34 346 = I0 346 from ((funext fun j => hF35 346 j dkNin_nil).trans ((by rw [eI34, dkU_n (by decide)] : I34 346 = _).trans rfl)))]; exact tp0) hO) (cwV 1 hts gX6_ask_X6_houndMark rfl rfl rfl (by decide +kernel) ⟨Nat.le_of_ble_eq_true rfl, Nat.le_of_ble_eq_true rfl⟩) (dk_at340 hW) rfl hK hT hW hS rfl hl.1 rfl (Nat.le_of_ble_eq_true rfl) dX6_ask_76 ⟨Nat.zero_le _, Nat.zero_le _⟩ (fun v45 I45 H45 L45 hp45 hW hS => ?_)
                obtain ⟨hF45, hO, hc45⟩ := hp45
                have hF := dkF_call hF hF45 rfl
                obtain ⟨_, f45_340_25, f45_353_0, f45_353_1, f45_353_2, x45_0, x45_1, x45_2, x45_3, xr45, xh45_0, xh45_1, xh45_2, xh45_3, xh45_4, xh45_5, xh45_6, xh45_7, xh45_8, xh45_9, -⟩ := hc45
                have w46 : I34 346 = I0 346 := ((funext fun j => hF35 346 j dkNin_nil).trans ((by rw [eI34, dkU_n (by decide)] : I34 346 = _).trans rfl))
                have q47 : ((I0 346) (Int32.toNatClampNeg ((36 : Int32) + ((3 : Int32) * p0)))).toInt = (3 : Int) := by have h := x45_0; rw [w46] at h; exact h
                have q48 : (((36 : Int32) + ((3 : Int32) * p0)) + (2 : Int32)).toInt = ((36 : Int32) + ((3 : Int32) * p0)).toInt + (2 : Int) := x45_3
                have y49 : I45 340 25 = 3 := by have h := xh45_0; exact h
                have y50 : I45 353 0 = 22 := by have h := xh45_1; exact h
                have y51 : I45 353 1 = 21 := by have h := xh45_2; exact h
                have y52 : I45 353 2 = 20 := by have h := xh45_3; exact h
                have w53 : I34 353 3 = I0 353 3 := ((hF35 353 3 rfl).trans ((by rw [eI34, dkU_n (by decide)] : I34 353 3 = _).trans rfl))
                have y54 : I45 353 3 = I0 353 3 := by have h := xh45_4; rw [w53] at h; exact h
                have w55 : I34 353 4 = I0 353 4 := ((hF35 353 4 rfl).trans ((by rw [eI34, dkU_n (by decide)] : I34 353 4 = _).trans rfl))
                have y56 : I45 353 4 = I0 353 4 := by have h := xh45_5; rw [w55] at h; exact h
                have w57 : I34 353 5 = I0 353 5 := ((hF35 353 5 rfl).trans ((by rw [eI34, dkU_n (by decide)] : I34 353 5 = _).trans rfl))
                have y58 : I45 353 5 = I0 353 5 := by have h := xh45_6; rw [w57] at h; exact h
                have w59 : I34 353 6 = I0 353 6 := ((hF35 353 6 rfl).trans ((by rw [eI34, dkU_n (by decide)] : I34 353 6 = _).trans rfl))
                have y60 : I45 353 6 = I0 353 6 := by have h := xh45_7; rw [w59] at h; exact h
                have w61 : I34 353 7 = I0 353 7 := ((hF35 353 7 rfl).trans ((by rw [eI34, dkU_n (by decide)] : I34 353 7 = _).trans rfl))
                have y62 : I45 353 7 = I0 353 7 := by have h := xh45_8; rw [w61] at h; exact h
                have w63 : I34 353 = I0 353 := ((funext fun j => hF35 353 j dkNin_nil).trans ((by rw [eI34, dkU_n (by decide)] : I34 353 = _).trans rfl))
                have y64 : I45 353 = dkV (dkV (dkV (I0 353) 0 22) 1 21) 2 20 := by have h := xh45_9; rw [w63] at h; exact h
                have xv45 : v45 = (p0 + ((I0 346) (Int32.toNatClampNeg (((36 : Int32) + ((3 : Int32) * p0)) + (2 : Int32))))) - (1000 : Int32) := by have h := xr45; rw [w46] at h; exact h
                exact W.iret (v := v45) hx hb hr (fun t ht hW9 => ⟨⟨v45, I45, rfl, ⟨hF, hO, Or.inr (Or.inr (Or.inr (Or.inr (Or.inl ⟨trivial, dkN_sub d16 rfl, dkN_sub d43 rfl, (show dkN [(3, 3)] (I45 340 25) from dkN_sub f45_340_25 rfl), (show dkN [(22, 22)] (I45 353 0) from dkN_sub f45_353_0 rfl), (show dkN [(21, 21)] (I45 353 1) from dkN_sub f45_353_1 rfl), (show dkN [(20, 20)] (I45 353 2) from dkN_sub f45_353_2 rfl), tp0, q13, q14, q15, q29, q30, q36, q37, q42, q47, q48, xv45, y49, y50, y51, y52, y54, y56, y58, y60, y62, y64, trivial⟩))))⟩, dkW_eq ht hW⟩, hS.F ht⟩) hS.2.2 dX6_ask_79
              ·
                exact (dkN_nil (show dkN [] 0 from dkN_ne1 (0) (dkN_lit (x := 0) (0) rfl) (dkN_lit (x := 0) (0) rfl) (dk_ne c44) rfl)).elim
            ·
              have q65 : p1.toInt = (0 : Int) := (congrArg Int32.toInt c41)
              have d66 : dkN [(0, 0)] p1 := dkN_eq1 d31 (dkN_lit (x := 0) (0) rfl) (congrArg Int32.toInt c41) rfl
              refine lv_iload_n hx hb dX6_ask_44 rfl (lv_at hl 0 rfl) ?_
              refine lv_if_eq (tgt := 56) hx hb dX6_ask_45 (by decide) (fun c67 => ?_) (fun c67 => ?_)
              ·
                refine lv_aload_n hx hb dX6_ask_56 rfl (lv_at hl 1 rfl) ?_
                refine lv_iload_n hx hb dX6_ask_57 rfl (lv_at hl 2 rfl) ?_
                refine dk_Vi (As := [.int p0]) (rest := []) ⟨hx, hb, hml, hown, hts⟩ (fx_X6_houndSize_3 l g z I34 p0 d16 (show dkN [(0, 0)] (I34 340 25) from dkN_sub (by rw [hF35 340 25 rfl]; exact (by rw [eI34, dkU_ss]; exact (dkN_lit (x := 0) (0) rfl))) rfl) (by rw [(show I34 346 = I0 346 from ((funext fun j => hF35 346 j dkNin_nil).trans ((by rw [eI34, dkU_n (by decide)] : I34 346 = _).trans rfl)))]; exact tp0) hO) (cwV 1 hts gX6_ask_X6_houndSize rfl rfl rfl (by decide +kernel) ⟨Nat.le_of_ble_eq_true rfl, Nat.le_of_ble_eq_true rfl⟩) (dk_at340 hW) rfl hK hT hW hS rfl hl.1 rfl (Nat.le_of_ble_eq_true rfl) dX6_ask_58 ⟨Nat.zero_le _, Nat.zero_le _⟩ (fun v68 I68 H68 L68 hp68 hW hS => ?_)
                obtain ⟨hF68, hO, hc68⟩ := hp68
                have hF := dkF_call hF hF68 rfl
                obtain ⟨_, f68_340_25, f68_353_0, f68_353_1, f68_353_2, f68_353_3, f68_353_4, x68_0, x68_1, x68_2, x68_3, x68_4, x68_5, xr68, xh68_0, xh68_1, xh68_2, xh68_3, xh68_4, xh68_5, xh68_6, xh68_7, xh68_8, xh68_9, -⟩ := hc68
                have w69 : I34 346 = I0 346 := ((funext fun j => hF35 346 j dkNin_nil).trans ((by rw [eI34, dkU_n (by decide)] : I34 346 = _).trans rfl))
                have q70 : ((I0 346) (Int32.toNatClampNeg ((36 : Int32) + ((3 : Int32) * p0)))).toInt = (3 : Int) := by have h := x68_0; rw [w69] at h; exact h
                have q71 : (((36 : Int32) + ((3 : Int32) * p0)) + (1 : Int32)).toInt = ((36 : Int32) + ((3 : Int32) * p0)).toInt + (1 : Int) := x68_3
                have q72 : (((36 : Int32) + ((3 : Int32) * p0)) + (2 : Int32)).toInt = ((36 : Int32) + ((3 : Int32) * p0)).toInt + (2 : Int) := x68_5
                have y73 : I68 340 25 = 5 := by have h := xh68_0; exact h
                have y74 : I68 353 0 = 11 := by have h := xh68_1; exact h
                have y75 : I68 353 1 = 10 := by have h := xh68_2; exact h
                have y76 : I68 353 2 = 22 := by have h := xh68_3; exact h
                have y77 : I68 353 3 = 21 := by have h := xh68_4; exact h
                have y78 : I68 353 4 = 20 := by have h := xh68_5; exact h
                have w79 : I34 353 5 = I0 353 5 := ((hF35 353 5 rfl).trans ((by rw [eI34, dkU_n (by decide)] : I34 353 5 = _).trans rfl))
                have y80 : I68 353 5 = I0 353 5 := by have h := xh68_6; rw [w79] at h; exact h
                have w81 : I34 353 6 = I0 353 6 := ((hF35 353 6 rfl).trans ((by rw [eI34, dkU_n (by decide)] : I34 353 6 = _).trans rfl))
                have y82 : I68 353 6 = I0 353 6 := by have h := xh68_7; rw [w81] at h; exact h
                have w83 : I34 353 7 = I0 353 7 := ((hF35 353 7 rfl).trans ((by rw [eI34, dkU_n (by decide)] : I34 353 7 = _).trans rfl))
                have y84 : I68 353 7 = I0 353 7 := by have h := xh68_8; rw [w83] at h; exact h
                have w85 : I34 353 = I0 353 := ((funext fun j => hF35 353 j dkNin_nil).trans ((by rw [eI34, dkU_n (by decide)] : I34 353 = _).trans rfl))
                have y86 : I68 353 = dkV (dkV (dkV (dkV (dkV (I0 353) 0 11) 1 10) 2 22) 3 21) 4 20 := by have h := xh68_9; rw [w85] at h; exact h
                have xv68 : v68 = ((I0 346) (Int32.toNatClampNeg (((36 : Int32) + ((3 : Int32) * p0)) + (1 : Int32)))) + ((p0 + ((I0 346) (Int32.toNatClampNeg (((36 : Int32) + ((3 : Int32) * p0)) + (2 : Int32))))) - (1000 : Int32)) := by have h := xr68; rw [w69] at h; exact h
                exact W.iret (v := v68) hx hb hr (fun t ht hW9 => ⟨⟨v68, I68, rfl, ⟨hF, hO, Or.inr (Or.inr (Or.inr (Or.inr (Or.inr (⟨trivial, dkN_sub d16 rfl, dkN_sub d66 rfl, (show dkN [(5, 5)] (I68 340 25) from dkN_sub f68_340_25 rfl), (show dkN [(11, 11)] (I68 353 0) from dkN_sub f68_353_0 rfl), (show dkN [(10, 10)] (I68 353 1) from dkN_sub f68_353_1 rfl), (show dkN [(22, 22)] (I68 353 2) from dkN_sub f68_353_2 rfl), (show dkN [(21, 21)] (I68 353 3) from dkN_sub f68_353_3 rfl), (show dkN [(20, 20)] (I68 353 4) from dkN_sub f68_353_4 rfl), tp0, q13, q14, q15, q29, q30, q36, q37, q65, q70, q71, q72, xv68, y73, y74, y75, y76, y77, y78, y80, y82, y84, y86, trivial⟩)))))⟩, dkW_eq ht hW⟩, hS.F ht⟩) hS.2.2 dX6_ask_61
              ·
                exact (dkN_nil (show dkN [] 0 from dkN_ne1 (0) (dkN_lit (x := 0) (0) rfl) (dkN_lit (x := 0) (0) rfl) (dk_ne c67) rfl)).elim
          ·
            exact (dkN_nil (show dkN [] 3 from dkN_le2 0 (dkN_lit (x := 4) (4) rfl) (dkN_lit (x := 3) (3) rfl) (dkc_nlt c40) rfl)).elim
        ·
          exact (dkN_nil (show dkN [] 1 from dkN_eq1 (dkN_lit (x := 1) (1) rfl) (dkN_lit (x := 0) (0) rfl) (congrArg Int32.toInt c33) rfl)).elim
set_option maxHeartbeats 4000000 in
set_option maxRecDepth 100000 in
theorem fx_X1_markBody_4 (l : Launch) (g : dkG) (z : Nat) (I0 : dkI) (p0 : Int32) (dp0 : dkN [(0, 5)] p0)  (tp0 : (I0 32 (Int32.toNatClampNeg p0)).toInt = (4 : Int)) (hO : dkOk I0) : Met l yX1_markBody wsX1_markBody (dkR 0) (dkPc g z [.ref (z + 338), .int p0] I0) (dkQi g z (fun r I1 => dkF [] I0 I1 ∧ dkOk I1 ∧ ((dkN [(23, 23)] r ∧ (I0 32 (Int32.toNatClampNeg p0)).toInt = (4 : Int) ∧ r = 23 ∧ True)))) 0 0 (dkA z) := by
  refine Met.ofW (cc := cX1_markBody) (maxL := 3) (ret := (some .int)) (by decide) rfl ?_
  intro p e s m args below meth c s₁ B hml hv
  obtain ⟨ha, hW, hK, hT⟩ := hv
  have hx := B.exec
  have hb := B.bytes
  have hr := B.returns
  have hts := atoms_spec (ws := wsX1_markBody) B.pre
  have hown : s.vm.findClass RX1 = some m.cls := findClass_of_methodNamed B.named
  have hlocks := B.notSynchronized
  have hS : va_S (dkA z) s.heap s.heap [] := va_S.rf
  have hF : dkF [] I0 I0 := dkF_rf _ _
  have hl := lv_entry ([.ref (z + 338), .int p0]) (n := 3) (Nat.le_of_ble_eq_true rfl)
  have hgo : entryFrame m args 3 = entryFrame m ([.ref (z + 338), .int p0] : List Value).toArray 3 := by rw [ha]
  rw [hgo, lg_entry_eq]
  generalize (lg_sl ([.ref (z + 338), .int p0]) ++ List.replicate (3 - (lg_sl ([.ref (z + 338), .int p0])).length) Slot.unset).toArray = ls at hl ⊢
  have hl : lv_has ls 3 [(0, .ref (z + 338)), (1, .int p0)] := hl
  refine lv_aload_n hx hb dX1_markBody_0 rfl (lv_at hl 0 rfl) ?_
  refine dk_get (k := 338) hx hb hts iX1_markBody_1 hown hK (dk_at338 hW) rfl 0 (by decide) (hts (.fieldLink RX1 15 "DogKings$Asks" "now" "LDogKings$Town;") (List.mem_of_getElem? (i := 1) rfl)) rfl dX1_markBody_1 ?_
  refine dk_get (k := 25) hx hb hts iX1_markBody_4 hown hK (dk_at25 hW) rfl 12 (by decide) (hts (.fieldLink RX1 35 "DogKings$Town" "sort" "[I") (List.mem_of_getElem? (i := 2) rfl)) rfl dX1_markBody_4 ?_
  refine lv_iload_n hx hb dX1_markBody_7 rfl (lv_at hl 1 rfl) ?_
  refine dk_ild (k := 32) hx hb hK (dk_at32 hW) (dkN_in (n := 6) dp0 rfl) dX1_markBody_8 ?_
  refine lv_topi (fun v1 ev1 => ?_)
  have xv1 : v1 = 4 := dk_e0 (by rw [show v1 = I0 32 (Int32.toNatClampNeg p0) from ev1.trans rfl]; exact tp0)
  subst xv1
  refine lv_istore_n (lv' := [(2, .int 4), (0, .ref (z + 338)), (1, .int p0)]) hx hb dX1_markBody_9 rfl hl (by decide) rfl (fun ls hl => ?_)
  refine lv_iload_n hx hb dX1_markBody_10 rfl (lv_at hl 0 rfl) ?_
  refine lv_if_lt (tgt := 30) hx hb dX1_markBody_11 (by decide) (fun c2 => ?_) (fun c2 => ?_)
  ·
    exact (dkN_nil (show dkN [] 4 from dkN_le1 1 (dkN_lit (x := 4) (4) rfl) (dkN_lit (x := 0) (0) rfl) (dkc_lt c2) rfl)).elim
  ·
    refine lv_iload_n hx hb dX1_markBody_14 rfl (lv_at hl 0 rfl) ?_
    obtain ⟨a3, hza3, hta3⟩ := hT.2
    refine va_gets hx hb hza3 hS hown (hts (.fieldLink RX1 43 "DogKings$Asks" "MARK_BODY" "[I") (List.mem_of_getElem? (i := 3) rfl)) (fun _ h => h) dX1_markBody_15 ?_
    refine va_tlen hx hb hta3 hS (v := 6) rfl dX1_markBody_18 ?_
    refine lv_icmp_ge (tgt := 30) hx hb dX1_markBody_19 (by decide) (fun c4 => ?_) (fun c4 => ?_)
    ·
      exact (dkN_nil (show dkN [] 6 from dkN_le1 0 (dkN_lit (x := 6) (6) rfl) (dkN_lit (x := 4) (4) rfl) (dkc_le c4) rfl)).elim
    ·
      obtain ⟨a5, hza5, hta5⟩ := hT.2
      refine va_gets hx hb hza5 hS hown (hts (.fieldLink RX1 43 "DogKings$Asks" "MARK_BODY" "[I") (List.mem_of_getElem? (i := 3) rfl)) (fun _ h => h) dX1_markBody_22 ?_
      refine lv_iload_n hx hb dX1_markBody_25 rfl (lv_at hl 0 rfl) ?_
      refine va_ti (v := .int (dkMkI (Int32.toNatClampNeg 4))) hx hb hta5 hS (dkN_in (n := 6) (dkN_lit (x := 4) (4) rfl) rfl) (dkMk_v _) dX1_markBody_26 ?_
      refine lv_topi (fun v7 ev7 => ?_)
      have dv7 : dkN [(23, 23)] v7 := by rw [ev7]; exact (dkN_lit (23) rfl)
      have xv7 : v7 = 23 := (ev7.trans rfl)
      subst xv7
      refine lv_goto (tgt := 35) hx hb dX1_markBody_27 (by decide) ?_
      exact W.iret (v := 23) hx hb hr (fun t ht hW9 => ⟨⟨23, I0, rfl, ⟨hF, hO, ⟨dkN_sub (dkN_lit (x := 23) (23) rfl) rfl, tp0, rfl, trivial⟩⟩, dkW_eq ht hW⟩, hS.F ht⟩) hS.2.2 dX1_markBody_35
set_option maxHeartbeats 4000000 in
set_option maxRecDepth 100000 in
theorem fx_X1_begins_27 (l : Launch) (g : dkG) (z : Nat) (I0 : dkI) (p0 : Int32) (dp0 : dkN [(23, 23)] p0) (np0 : dkN [(0, 0)] (I0 338 2))  (hO : dkOk I0) : Met l yX1_begins wsX1_begins (dkR 0) (dkPc g z [.ref (z + 338), .int p0] I0) (dkQv g z (fun I1 => dkF [(338, 338, 2, 2), (339, 339, 0, 0)] I0 I1 ∧ dkOk I1 ∧ ((dkN [(1, 1)] (I1 338 2) ∧ dkN [(23, 23)] (I1 339 0) ∧ I1 338 2 = 1 ∧ I1 339 0 = 23 ∧ I1 339 1 = I0 339 1 ∧ I1 339 2 = I0 339 2 ∧ I1 339 3 = I0 339 3 ∧ I1 339 4 = I0 339 4 ∧ I1 339 5 = I0 339 5 ∧ I1 339 6 = I0 339 6 ∧ I1 339 7 = I0 339 7 ∧ I1 339  = dkV (I0 339) 0 23 ∧ True)))) 0 0 (dkA z) := by
  obtain rfl : p0 = 23 := dkN_is dp0 rfl
  refine Met.ofW (cc := cX1_begins) (maxL := 2) (ret := none) (by decide) rfl ?_
  intro p e s m args below meth c s₁ B hml hv
  obtain ⟨ha, hW, hK, hT⟩ := hv
  have hx := B.exec
  have hb := B.bytes
  have hr := B.returns
  have hts := atoms_spec (ws := wsX1_begins) B.pre
  have hown : s.vm.findClass RX1 = some m.cls := findClass_of_methodNamed B.named
  have hlocks := B.notSynchronized
  have hS : va_S (dkA z) s.heap s.heap [] := va_S.rf
  have hF : dkF [(338, 338, 2, 2), (339, 339, 0, 0)] I0 I0 := dkF_rf _ _
  have hl := lv_entry ([.ref (z + 338), .int 23]) (n := 2) (Nat.le_of_ble_eq_true rfl)
  have hgo : entryFrame m args 2 = entryFrame m ([.ref (z + 338), .int 23] : List Value).toArray 2 := by rw [ha]
  rw [hgo, lg_entry_eq]
  generalize (lg_sl ([.ref (z + 338), .int 23]) ++ List.replicate (2 - (lg_sl ([.ref (z + 338), .int 23])).length) Slot.unset).toArray = ls at hl ⊢
  have hl : lv_has ls 2 [(0, .ref (z + 338)), (1, .int 23)] := hl
  refine lv_aload_n hx hb dX1_begins_0 rfl (lv_at hl 0 rfl) ?_
  refine dk_get (k := 338) hx hb hts iX1_begins_1 hown hK (dk_at338 hW) rfl 2 (by decide) (hts (.fieldLink RX1 19 "DogKings$Asks" "tracedCount" "I") (List.mem_of_getElem? (i := 1) rfl)) rfl dX1_begins_1 ?_
  refine lv_topi (fun v1 ev1 => ?_)
  have dv1 : dkN [(0, 0)] v1 := by rw [ev1]; exact np0
  have xv1 : v1 = 0 := dkN_is dv1 rfl
  subst xv1
  refine lv_bipush (v := 16) hx hb dX1_begins_4 (by decide) ?_
  refine lv_icmp_ge (tgt := 29) hx hb dX1_begins_6 (by decide) (fun c2 => ?_) (fun c2 => ?_)
  ·
    exact (dkN_nil (show dkN [] 16 from dkN_le1 0 (dkN_lit (x := 16) (16) rfl) (dkN_lit (x := 0) (0) rfl) (dkc_le c2) rfl)).elim
  ·
    refine lv_aload_n hx hb dX1_begins_9 rfl (lv_at hl 0 rfl) ?_
    refine dk_get (k := 338) hx hb hts iX1_begins_1 hown hK (dk_at338 hW) rfl 1 (by decide) (hts (.fieldLink RX1 11 "DogKings$Asks" "traced" "[I") (List.mem_of_getElem? (i := 2) rfl)) rfl dX1_begins_10 ?_
    refine lv_aload_n hx hb dX1_begins_13 rfl (lv_at hl 0 rfl) ?_
    refine dk_get (k := 338) hx hb hts iX1_begins_1 hown hK (dk_at338 hW) rfl 2 (by decide) (hts (.fieldLink RX1 19 "DogKings$Asks" "tracedCount" "I") (List.mem_of_getElem? (i := 1) rfl)) rfl dX1_begins_14 ?_
    refine lv_topi (fun v3 ev3 => ?_)
    have dv3 : dkN [(0, 0)] v3 := by rw [ev3]; exact np0
    have xv3 : v3 = 0 := dkN_is dv3 rfl
    subst xv3
    refine lv_iload_n hx hb dX1_begins_17 rfl (lv_at hl 1 rfl) ?_
    refine dk_ist (k := 339) hx hb hK hW (fun _ => rfl) (by decide) hS (dkN_in (n := 16) (dkN_lit (x := 0) (0) rfl) rfl) dX1_begins_18 (fun I4 H4 L4 eI4 hW hS => ?_)
    have eI4 : I4 = dkU I0 339 0 23 := eI4
    have hO := dkO_set hO eI4 (dkN_sub (dkN_lit (x := 23) (23) rfl) rfl)
    have hF := dkF_set hF eI4 rfl
    refine lv_aload_n hx hb dX1_begins_19 rfl (lv_at hl 0 rfl) ?_
    refine lv_dup hx hb dX1_begins_20 rfl ?_
    refine dk_get (k := 338) hx hb hts iX1_begins_1 hown hK (dk_at338 hW) rfl 2 (by decide) (hts (.fieldLink RX1 19 "DogKings$Asks" "tracedCount" "I") (List.mem_of_getElem? (i := 1) rfl)) rfl dX1_begins_21 ?_
    refine lv_topi (fun v5 ev5 => ?_)
    have dv5 : dkN [(0, 0)] v5 := by rw [ev5]; exact (by rw [eI4, dkU_n (by decide)]; exact np0)
    have xv5 : v5 = 0 := dkN_is dv5 rfl
    subst xv5
    refine lv_iconst (v := 1) hx hb dX1_begins_24 (by decide) ?_
    refine lv_iadd hx hb dX1_begins_25 ?_
    refine lv_topi (fun v6 ev6 => ?_)
    have dv6 : dkN [(1, 1)] v6 := by rw [ev6]; exact dkN_add (dkN_lit (x := 0) (0) rfl) (dkN_lit (x := 1) (1) rfl) rfl
    have xv6 : v6 = 1 := by rw [ev6]; rfl
    subst xv6
    refine dk_put (k := 338) hx hb hts iX1_begins_1 tyX1 tyX1_ok nmX1 hown hK hW (dk_at338 hW) hS rfl 2 (by decide) (hts (.fieldLink RX1 19 "DogKings$Asks" "tracedCount" "I") (List.mem_of_getElem? (i := 1) rfl)) rfl rfl (Nat.le_of_ble_eq_true rfl) rfl dX1_begins_26 (fun I7 H7 L7 eI7 hW hS => ?_)
    have eI7 : I7 = dkU I4 338 2 1 := eI7
    have hO := dkO_set hO eI7 (dkN_sub (dkN_lit (x := 1) (1) rfl) rfl)
    have hF := dkF_set hF eI7 rfl
    exact W.vret hx hb hr (fun t ht hW9 => ⟨⟨I7, rfl, ⟨hF, hO, ⟨(show dkN [(1, 1)] (I7 338 2) from dkN_sub (by rw [eI7, dkU_ss]; exact (dkN_lit (x := 1) (1) rfl)) rfl), (show dkN [(23, 23)] (I7 339 0) from dkN_sub (by rw [eI7, dkU_n (by decide)]; exact (by rw [eI4, dkU_ss]; exact (dkN_lit (x := 23) (23) rfl))) rfl), (by rw [eI7, dkU_ss]), ((by rw [eI7, dkU_n (by decide)] : I7 339 0 = _).trans (by rw [eI4, dkU_ss])), ((by rw [eI7, dkU_n (by decide)] : I7 339 1 = _).trans ((by rw [eI4, dkU_sn (by decide)] : I4 339 1 = _).trans rfl)), ((by rw [eI7, dkU_n (by decide)] : I7 339 2 = _).trans ((by rw [eI4, dkU_sn (by decide)] : I4 339 2 = _).trans rfl)), ((by rw [eI7, dkU_n (by decide)] : I7 339 3 = _).trans ((by rw [eI4, dkU_sn (by decide)] : I4 339 3 = _).trans rfl)), ((by rw [eI7, dkU_n (by decide)] : I7 339 4 = _).trans ((by rw [eI4, dkU_sn (by decide)] : I4 339 4 = _).trans rfl)), ((by rw [eI7, dkU_n (by decide)] : I7 339 5 = _).trans ((by rw [eI4, dkU_sn (by decide)] : I4 339 5 = _).trans rfl)), ((by rw [eI7, dkU_n (by decide)] : I7 339 6 = _).trans ((by rw [eI4, dkU_sn (by decide)] : I4 339 6 = _).trans rfl)), ((by rw [eI7, dkU_n (by decide)] : I7 339 7 = _).trans ((by rw [eI4, dkU_sn (by decide)] : I4 339 7 = _).trans rfl)), ((by rw [eI7, dkU_n (by decide)] : I7 339 = _).trans (by rw [eI4, dkU_s, show (I0 339) = I0 339 from rfl])), trivial⟩⟩, dkW_eq ht hW⟩, hS.F ht⟩) hS.2.2 dX1_begins_29
set_option maxHeartbeats 4000000 in
set_option maxRecDepth 100000 in
theorem fx_X1_gives_60 (l : Launch) (g : dkG) (z : Nat) (I0 : dkI) (p0 : Int32) (p1 : Int32) (p2 : Int32) (dp0 : dkN [(20, 20)] p0) (dp1 : dkN [(0, 5)] p1) (dp2 : dkN [(2, 2)] p2) (np0 : dkN [(1, 1)] (I0 338 2))  (tp0 : (I0 32 (Int32.toNatClampNeg p1)).toInt = (4 : Int)) (hO : dkOk I0) : Met l yX1_gives wsX1_gives (dkR 1) (dkPc g z [.ref (z + 338), .int p0, .int p1, .int p2] I0) (dkQi g z (fun r I1 => dkF [(338, 338, 2, 2), (339, 339, 1, 1)] I0 I1 ∧ dkOk I1 ∧ ((dkN [(0, 5)] r ∧ dkN [(2, 2)] (I1 338 2) ∧ dkN [(20, 20)] (I1 339 1) ∧ (I0 32 (Int32.toNatClampNeg p1)).toInt = (4 : Int) ∧ r = p1 ∧ I1 338 2 = 2 ∧ I1 339 0 = I0 339 0 ∧ I1 339 1 = 20 ∧ I1 339 2 = I0 339 2 ∧ I1 339 3 = I0 339 3 ∧ I1 339 4 = I0 339 4 ∧ I1 339 5 = I0 339 5 ∧ I1 339 6 = I0 339 6 ∧ I1 339 7 = I0 339 7 ∧ I1 339  = dkV (I0 339) 1 20 ∧ True)))) 0 0 (dkA z) := by
  obtain rfl : p0 = 20 := dkN_is dp0 rfl
  obtain rfl : p2 = 2 := dkN_is dp2 rfl
  refine Met.ofW (cc := cX1_gives) (maxL := 5) (ret := (some .int)) (by decide) rfl ?_
  intro p e s m args below meth c s₁ B hml hv
  obtain ⟨ha, hW, hK, hT⟩ := hv
  have hx := B.exec
  have hb := B.bytes
  have hr := B.returns
  have hts := atoms_spec (ws := wsX1_gives) B.pre
  have hown : s.vm.findClass RX1 = some m.cls := findClass_of_methodNamed B.named
  have hlocks := B.notSynchronized
  have hS : va_S (dkA z) s.heap s.heap [] := va_S.rf
  have hF : dkF [(338, 338, 2, 2), (339, 339, 1, 1)] I0 I0 := dkF_rf _ _
  have hl := lv_entry ([.ref (z + 338), .int 20, .int p1, .int 2]) (n := 5) (Nat.le_of_ble_eq_true rfl)
  have hgo : entryFrame m args 5 = entryFrame m ([.ref (z + 338), .int 20, .int p1, .int 2] : List Value).toArray 5 := by rw [ha]
  rw [hgo, lg_entry_eq]
  generalize (lg_sl ([.ref (z + 338), .int 20, .int p1, .int 2]) ++ List.replicate (5 - (lg_sl ([.ref (z + 338), .int 20, .int p1, .int 2])).length) Slot.unset).toArray = ls at hl ⊢
  have hl : lv_has ls 5 [(0, .ref (z + 338)), (1, .int 20), (2, .int p1), (3, .int 2)] := hl
  refine lv_iload_n hx hb dX1_gives_0 rfl (lv_at hl 3 rfl) ?_
  refine lv_iconst (v := 5) hx hb dX1_gives_1 (by decide) ?_
  refine lv_icmp_le (tgt := 8) hx hb dX1_gives_2 (by decide) (fun c1 => ?_) (fun c1 => ?_)
  ·
    refine lv_aload_n hx hb dX1_gives_8 rfl (lv_at hl 0 rfl) ?_
    refine lv_iload_n hx hb dX1_gives_9 rfl (lv_at hl 1 rfl) ?_
    refine dk_Vv (As := [.int 20]) (rest := []) ⟨hx, hb, hml, hown, hts⟩ (fx_X1_begins_9 l g z I0 20 (dkN_lit (x := 20) (20) rfl) (show dkN [(1, 1)] (I0 338 2) from dkN_sub np0 rfl) hO) (cwV 1 hts gX1_gives_X1_begins rfl rfl rfl (by decide +kernel) ⟨Nat.le_of_ble_eq_true rfl, Nat.le_of_ble_eq_true rfl⟩) (dk_at338 hW) rfl hK hT hW hS rfl hl.1 rfl (Nat.le_of_ble_eq_true rfl) dX1_gives_10 ⟨Nat.zero_le _, Nat.zero_le _⟩ (fun I2 H2 L2 hp2 hW hS => ?_)
    obtain ⟨hF2, hO, hc2⟩ := hp2
    have hF := dkF_call hF hF2 rfl
    obtain ⟨f2_338_2, f2_339_1, xh2_0, xh2_1, xh2_2, xh2_3, xh2_4, xh2_5, xh2_6, xh2_7, xh2_8, xh2_9, -⟩ := hc2
    have y3 : I2 338 2 = 2 := by have h := xh2_0; exact h
    have y4 : I2 339 0 = I0 339 0 := by have h := xh2_1; exact h
    have y5 : I2 339 1 = 20 := by have h := xh2_2; exact h
    have y6 : I2 339 2 = I0 339 2 := by have h := xh2_3; exact h
    have y7 : I2 339 3 = I0 339 3 := by have h := xh2_4; exact h
    have y8 : I2 339 4 = I0 339 4 := by have h := xh2_5; exact h
    have y9 : I2 339 5 = I0 339 5 := by have h := xh2_6; exact h
    have y10 : I2 339 6 = I0 339 6 := by have h := xh2_7; exact h
    have y11 : I2 339 7 = I0 339 7 := by have h := xh2_8; exact h
    have y12 : I2 339 = dkV (I0 339) 1 20 := by have h := xh2_9; exact h
    refine lv_iload_n hx hb dX1_gives_13 rfl (lv_at hl 3 rfl) ?_
    refine lv_iconst (v := 1) hx hb dX1_gives_14 (by decide) ?_
    refine lv_iadd hx hb dX1_gives_15 ?_
    refine lv_topi (fun v13 ev13 => ?_)
    have dv13 : dkN [(3, 3)] v13 := by rw [ev13]; exact dkN_add (dkN_lit (x := 2) (2) rfl) (dkN_lit (x := 1) (1) rfl) rfl
    have xv13 : v13 = 3 := by rw [ev13]; rfl
    subst xv13
    refine lv_istore (lv' := [(4, .int 3), (0, .ref (z + 338)), (1, .int 20), (2, .int p1), (3, .int 2)]) hx hb dX1_gives_16 hl (by decide) rfl (fun ls hl => ?_)
    refine lv_iload_n hx hb dX1_gives_18 rfl (lv_at hl 2 rfl) ?_
    have qc14 : (20 : Int32).toInt = 20 := rfl
    refine lv_tableIn (tgt := 161) hx hb dX1_gives_19 (by rw [qc14]; decide) (by rw [qc14]; decide) (by rw [qc14]; rfl) (by decide) ?_
    refine lv_iload_n hx hb dX1_gives_161 rfl (lv_at hl 3 rfl) ?_
    exact W.iret (v := p1) hx hb hr (fun t ht hW9 => ⟨⟨p1, I2, rfl, ⟨hF, hO, ⟨dkN_sub dp1 rfl, (show dkN [(2, 2)] (I2 338 2) from dkN_sub f2_338_2 rfl), (show dkN [(20, 20)] (I2 339 1) from dkN_sub f2_339_1 rfl), tp0, rfl, y3, y4, y5, y6, y7, y8, y9, y10, y11, y12, trivial⟩⟩, dkW_eq ht hW⟩, hS.F ht⟩) hS.2.2 dX1_gives_162
  ·
    exact (dkN_nil (show dkN [] 2 from dkN_le2 1 (dkN_lit (x := 5) (5) rfl) (dkN_lit (x := 2) (2) rfl) (dkc_nle c1) rfl)).elim
set_option maxHeartbeats 4000000 in
set_option maxRecDepth 100000 in
theorem fx_X1_sizeBody_4 (l : Launch) (g : dkG) (z : Nat) (I0 : dkI) (p0 : Int32) (dp0 : dkN [(0, 5)] p0)  (tp0 : (I0 32 (Int32.toNatClampNeg p0)).toInt = (4 : Int)) (hO : dkOk I0) : Met l yX1_sizeBody wsX1_sizeBody (dkR 0) (dkPc g z [.ref (z + 338), .int p0] I0) (dkQi g z (fun r I1 => dkF [] I0 I1 ∧ dkOk I1 ∧ ((dkN [(13, 13)] r ∧ (I0 32 (Int32.toNatClampNeg p0)).toInt = (4 : Int) ∧ r = 13 ∧ True)))) 0 0 (dkA z) := by
  refine Met.ofW (cc := cX1_sizeBody) (maxL := 3) (ret := (some .int)) (by decide) rfl ?_
  intro p e s m args below meth c s₁ B hml hv
  obtain ⟨ha, hW, hK, hT⟩ := hv
  have hx := B.exec
  have hb := B.bytes
  have hr := B.returns
  have hts := atoms_spec (ws := wsX1_sizeBody) B.pre
  have hown : s.vm.findClass RX1 = some m.cls := findClass_of_methodNamed B.named
  have hlocks := B.notSynchronized
  have hS : va_S (dkA z) s.heap s.heap [] := va_S.rf
  have hF : dkF [] I0 I0 := dkF_rf _ _
  have hl := lv_entry ([.ref (z + 338), .int p0]) (n := 3) (Nat.le_of_ble_eq_true rfl)
  have hgo : entryFrame m args 3 = entryFrame m ([.ref (z + 338), .int p0] : List Value).toArray 3 := by rw [ha]
  rw [hgo, lg_entry_eq]
  generalize (lg_sl ([.ref (z + 338), .int p0]) ++ List.replicate (3 - (lg_sl ([.ref (z + 338), .int p0])).length) Slot.unset).toArray = ls at hl ⊢
  have hl : lv_has ls 3 [(0, .ref (z + 338)), (1, .int p0)] := hl
  refine lv_aload_n hx hb dX1_sizeBody_0 rfl (lv_at hl 0 rfl) ?_
  refine dk_get (k := 338) hx hb hts iX1_sizeBody_1 hown hK (dk_at338 hW) rfl 0 (by decide) (hts (.fieldLink RX1 15 "DogKings$Asks" "now" "LDogKings$Town;") (List.mem_of_getElem? (i := 1) rfl)) rfl dX1_sizeBody_1 ?_
  refine dk_get (k := 25) hx hb hts iX1_sizeBody_4 hown hK (dk_at25 hW) rfl 12 (by decide) (hts (.fieldLink RX1 35 "DogKings$Town" "sort" "[I") (List.mem_of_getElem? (i := 2) rfl)) rfl dX1_sizeBody_4 ?_
  refine lv_iload_n hx hb dX1_sizeBody_7 rfl (lv_at hl 1 rfl) ?_
  refine dk_ild (k := 32) hx hb hK (dk_at32 hW) (dkN_in (n := 6) dp0 rfl) dX1_sizeBody_8 ?_
  refine lv_topi (fun v1 ev1 => ?_)
  have xv1 : v1 = 4 := dk_e0 (by rw [show v1 = I0 32 (Int32.toNatClampNeg p0) from ev1.trans rfl]; exact tp0)
  subst xv1
  refine lv_istore_n (lv' := [(2, .int 4), (0, .ref (z + 338)), (1, .int p0)]) hx hb dX1_sizeBody_9 rfl hl (by decide) rfl (fun ls hl => ?_)
  refine lv_iload_n hx hb dX1_sizeBody_10 rfl (lv_at hl 0 rfl) ?_
  refine lv_if_lt (tgt := 30) hx hb dX1_sizeBody_11 (by decide) (fun c2 => ?_) (fun c2 => ?_)
  ·
    exact (dkN_nil (show dkN [] 4 from dkN_le1 1 (dkN_lit (x := 4) (4) rfl) (dkN_lit (x := 0) (0) rfl) (dkc_lt c2) rfl)).elim
  ·
    refine lv_iload_n hx hb dX1_sizeBody_14 rfl (lv_at hl 0 rfl) ?_
    obtain ⟨a3, hza3, hta3⟩ := hT.1
    refine va_gets hx hb hza3 hS hown (hts (.fieldLink RX1 40 "DogKings$Asks" "SIZE_BODY" "[I") (List.mem_of_getElem? (i := 3) rfl)) (fun _ h => h) dX1_sizeBody_15 ?_
    refine va_tlen hx hb hta3 hS (v := 6) rfl dX1_sizeBody_18 ?_
    refine lv_icmp_ge (tgt := 30) hx hb dX1_sizeBody_19 (by decide) (fun c4 => ?_) (fun c4 => ?_)
    ·
      exact (dkN_nil (show dkN [] 6 from dkN_le1 0 (dkN_lit (x := 6) (6) rfl) (dkN_lit (x := 4) (4) rfl) (dkc_le c4) rfl)).elim
    ·
      obtain ⟨a5, hza5, hta5⟩ := hT.1
      refine va_gets hx hb hza5 hS hown (hts (.fieldLink RX1 40 "DogKings$Asks" "SIZE_BODY" "[I") (List.mem_of_getElem? (i := 3) rfl)) (fun _ h => h) dX1_sizeBody_22 ?_
      refine lv_iload_n hx hb dX1_sizeBody_25 rfl (lv_at hl 0 rfl) ?_
      refine va_ti (v := .int (dkSzI (Int32.toNatClampNeg 4))) hx hb hta5 hS (dkN_in (n := 6) (dkN_lit (x := 4) (4) rfl) rfl) (dkSz_v _) dX1_sizeBody_26 ?_
      refine lv_topi (fun v7 ev7 => ?_)
      have dv7 : dkN [(13, 13)] v7 := by rw [ev7]; exact (dkN_lit (13) rfl)
      have xv7 : v7 = 13 := (ev7.trans rfl)
      subst xv7
      refine lv_goto (tgt := 35) hx hb dX1_sizeBody_27 (by decide) ?_
      exact W.iret (v := 13) hx hb hr (fun t ht hW9 => ⟨⟨13, I0, rfl, ⟨hF, hO, ⟨dkN_sub (dkN_lit (x := 13) (13) rfl) rfl, tp0, rfl, trivial⟩⟩, dkW_eq ht hW⟩, hS.F ht⟩) hS.2.2 dX1_sizeBody_35
set_option maxHeartbeats 4000000 in
set_option maxRecDepth 100000 in
theorem fx_X1_begins_28 (l : Launch) (g : dkG) (z : Nat) (I0 : dkI) (p0 : Int32) (dp0 : dkN [(13, 13)] p0) (np0 : dkN [(2, 2)] (I0 338 2))  (hO : dkOk I0) : Met l yX1_begins wsX1_begins (dkR 0) (dkPc g z [.ref (z + 338), .int p0] I0) (dkQv g z (fun I1 => dkF [(338, 338, 2, 2), (339, 339, 2, 2)] I0 I1 ∧ dkOk I1 ∧ ((dkN [(3, 3)] (I1 338 2) ∧ dkN [(13, 13)] (I1 339 2) ∧ I1 338 2 = 3 ∧ I1 339 0 = I0 339 0 ∧ I1 339 1 = I0 339 1 ∧ I1 339 2 = 13 ∧ I1 339 3 = I0 339 3 ∧ I1 339 4 = I0 339 4 ∧ I1 339 5 = I0 339 5 ∧ I1 339 6 = I0 339 6 ∧ I1 339 7 = I0 339 7 ∧ I1 339  = dkV (I0 339) 2 13 ∧ True)))) 0 0 (dkA z) := by
  obtain rfl : p0 = 13 := dkN_is dp0 rfl
  refine Met.ofW (cc := cX1_begins) (maxL := 2) (ret := none) (by decide) rfl ?_
  intro p e s m args below meth c s₁ B hml hv
  obtain ⟨ha, hW, hK, hT⟩ := hv
  have hx := B.exec
  have hb := B.bytes
  have hr := B.returns
  have hts := atoms_spec (ws := wsX1_begins) B.pre
  have hown : s.vm.findClass RX1 = some m.cls := findClass_of_methodNamed B.named
  have hlocks := B.notSynchronized
  have hS : va_S (dkA z) s.heap s.heap [] := va_S.rf
  have hF : dkF [(338, 338, 2, 2), (339, 339, 2, 2)] I0 I0 := dkF_rf _ _
  have hl := lv_entry ([.ref (z + 338), .int 13]) (n := 2) (Nat.le_of_ble_eq_true rfl)
  have hgo : entryFrame m args 2 = entryFrame m ([.ref (z + 338), .int 13] : List Value).toArray 2 := by rw [ha]
  rw [hgo, lg_entry_eq]
  generalize (lg_sl ([.ref (z + 338), .int 13]) ++ List.replicate (2 - (lg_sl ([.ref (z + 338), .int 13])).length) Slot.unset).toArray = ls at hl ⊢
  have hl : lv_has ls 2 [(0, .ref (z + 338)), (1, .int 13)] := hl
  refine lv_aload_n hx hb dX1_begins_0 rfl (lv_at hl 0 rfl) ?_
  refine dk_get (k := 338) hx hb hts iX1_begins_1 hown hK (dk_at338 hW) rfl 2 (by decide) (hts (.fieldLink RX1 19 "DogKings$Asks" "tracedCount" "I") (List.mem_of_getElem? (i := 1) rfl)) rfl dX1_begins_1 ?_
  refine lv_topi (fun v1 ev1 => ?_)
  have dv1 : dkN [(2, 2)] v1 := by rw [ev1]; exact np0
  have xv1 : v1 = 2 := dkN_is dv1 rfl
  subst xv1
  refine lv_bipush (v := 16) hx hb dX1_begins_4 (by decide) ?_
  refine lv_icmp_ge (tgt := 29) hx hb dX1_begins_6 (by decide) (fun c2 => ?_) (fun c2 => ?_)
  ·
    exact (dkN_nil (show dkN [] 16 from dkN_le1 0 (dkN_lit (x := 16) (16) rfl) (dkN_lit (x := 2) (2) rfl) (dkc_le c2) rfl)).elim
  ·
    refine lv_aload_n hx hb dX1_begins_9 rfl (lv_at hl 0 rfl) ?_
    refine dk_get (k := 338) hx hb hts iX1_begins_1 hown hK (dk_at338 hW) rfl 1 (by decide) (hts (.fieldLink RX1 11 "DogKings$Asks" "traced" "[I") (List.mem_of_getElem? (i := 2) rfl)) rfl dX1_begins_10 ?_
    refine lv_aload_n hx hb dX1_begins_13 rfl (lv_at hl 0 rfl) ?_
    refine dk_get (k := 338) hx hb hts iX1_begins_1 hown hK (dk_at338 hW) rfl 2 (by decide) (hts (.fieldLink RX1 19 "DogKings$Asks" "tracedCount" "I") (List.mem_of_getElem? (i := 1) rfl)) rfl dX1_begins_14 ?_
    refine lv_topi (fun v3 ev3 => ?_)
    have dv3 : dkN [(2, 2)] v3 := by rw [ev3]; exact np0
    have xv3 : v3 = 2 := dkN_is dv3 rfl
    subst xv3
    refine lv_iload_n hx hb dX1_begins_17 rfl (lv_at hl 1 rfl) ?_
    refine dk_ist (k := 339) hx hb hK hW (fun _ => rfl) (by decide) hS (dkN_in (n := 16) (dkN_lit (x := 2) (2) rfl) rfl) dX1_begins_18 (fun I4 H4 L4 eI4 hW hS => ?_)
    have eI4 : I4 = dkU I0 339 2 13 := eI4
    have hO := dkO_set hO eI4 (dkN_sub (dkN_lit (x := 13) (13) rfl) rfl)
    have hF := dkF_set hF eI4 rfl
    refine lv_aload_n hx hb dX1_begins_19 rfl (lv_at hl 0 rfl) ?_
    refine lv_dup hx hb dX1_begins_20 rfl ?_
    refine dk_get (k := 338) hx hb hts iX1_begins_1 hown hK (dk_at338 hW) rfl 2 (by decide) (hts (.fieldLink RX1 19 "DogKings$Asks" "tracedCount" "I") (List.mem_of_getElem? (i := 1) rfl)) rfl dX1_begins_21 ?_
    refine lv_topi (fun v5 ev5 => ?_)
    have dv5 : dkN [(2, 2)] v5 := by rw [ev5]; exact (by rw [eI4, dkU_n (by decide)]; exact np0)
    have xv5 : v5 = 2 := dkN_is dv5 rfl
    subst xv5
    refine lv_iconst (v := 1) hx hb dX1_begins_24 (by decide) ?_
    refine lv_iadd hx hb dX1_begins_25 ?_
    refine lv_topi (fun v6 ev6 => ?_)
    have dv6 : dkN [(3, 3)] v6 := by rw [ev6]; exact dkN_add (dkN_lit (x := 2) (2) rfl) (dkN_lit (x := 1) (1) rfl) rfl
    have xv6 : v6 = 3 := by rw [ev6]; rfl
    subst xv6
    refine dk_put (k := 338) hx hb hts iX1_begins_1 tyX1 tyX1_ok nmX1 hown hK hW (dk_at338 hW) hS rfl 2 (by decide) (hts (.fieldLink RX1 19 "DogKings$Asks" "tracedCount" "I") (List.mem_of_getElem? (i := 1) rfl)) rfl rfl (Nat.le_of_ble_eq_true rfl) rfl dX1_begins_26 (fun I7 H7 L7 eI7 hW hS => ?_)
    have eI7 : I7 = dkU I4 338 2 3 := eI7
    have hO := dkO_set hO eI7 (dkN_sub (dkN_lit (x := 3) (3) rfl) rfl)
    have hF := dkF_set hF eI7 rfl
    exact W.vret hx hb hr (fun t ht hW9 => ⟨⟨I7, rfl, ⟨hF, hO, ⟨(show dkN [(3, 3)] (I7 338 2) from dkN_sub (by rw [eI7, dkU_ss]; exact (dkN_lit (x := 3) (3) rfl)) rfl), (show dkN [(13, 13)] (I7 339 2) from dkN_sub (by rw [eI7, dkU_n (by decide)]; exact (by rw [eI4, dkU_ss]; exact (dkN_lit (x := 13) (13) rfl))) rfl), (by rw [eI7, dkU_ss]), ((by rw [eI7, dkU_n (by decide)] : I7 339 0 = _).trans ((by rw [eI4, dkU_sn (by decide)] : I4 339 0 = _).trans rfl)), ((by rw [eI7, dkU_n (by decide)] : I7 339 1 = _).trans ((by rw [eI4, dkU_sn (by decide)] : I4 339 1 = _).trans rfl)), ((by rw [eI7, dkU_n (by decide)] : I7 339 2 = _).trans (by rw [eI4, dkU_ss])), ((by rw [eI7, dkU_n (by decide)] : I7 339 3 = _).trans ((by rw [eI4, dkU_sn (by decide)] : I4 339 3 = _).trans rfl)), ((by rw [eI7, dkU_n (by decide)] : I7 339 4 = _).trans ((by rw [eI4, dkU_sn (by decide)] : I4 339 4 = _).trans rfl)), ((by rw [eI7, dkU_n (by decide)] : I7 339 5 = _).trans ((by rw [eI4, dkU_sn (by decide)] : I4 339 5 = _).trans rfl)), ((by rw [eI7, dkU_n (by decide)] : I7 339 6 = _).trans ((by rw [eI4, dkU_sn (by decide)] : I4 339 6 = _).trans rfl)), ((by rw [eI7, dkU_n (by decide)] : I7 339 7 = _).trans ((by rw [eI4, dkU_sn (by decide)] : I4 339 7 = _).trans rfl)), ((by rw [eI7, dkU_n (by decide)] : I7 339 = _).trans (by rw [eI4, dkU_s, show (I0 339) = I0 339 from rfl])), trivial⟩⟩, dkW_eq ht hW⟩, hS.F ht⟩) hS.2.2 dX1_begins_29
set_option maxHeartbeats 4000000 in
set_option maxRecDepth 100000 in
theorem fx_X1_begins_29 (l : Launch) (g : dkG) (z : Nat) (I0 : dkI) (p0 : Int32) (dp0 : dkN [(10, 10)] p0) (np0 : dkN [(3, 3)] (I0 338 2))  (hO : dkOk I0) : Met l yX1_begins wsX1_begins (dkR 0) (dkPc g z [.ref (z + 338), .int p0] I0) (dkQv g z (fun I1 => dkF [(338, 338, 2, 2), (339, 339, 3, 3)] I0 I1 ∧ dkOk I1 ∧ ((dkN [(4, 4)] (I1 338 2) ∧ dkN [(10, 10)] (I1 339 3) ∧ I1 338 2 = 4 ∧ I1 339 0 = I0 339 0 ∧ I1 339 1 = I0 339 1 ∧ I1 339 2 = I0 339 2 ∧ I1 339 3 = 10 ∧ I1 339 4 = I0 339 4 ∧ I1 339 5 = I0 339 5 ∧ I1 339 6 = I0 339 6 ∧ I1 339 7 = I0 339 7 ∧ I1 339  = dkV (I0 339) 3 10 ∧ True)))) 0 0 (dkA z) := by
  obtain rfl : p0 = 10 := dkN_is dp0 rfl
  refine Met.ofW (cc := cX1_begins) (maxL := 2) (ret := none) (by decide) rfl ?_
  intro p e s m args below meth c s₁ B hml hv
  obtain ⟨ha, hW, hK, hT⟩ := hv
  have hx := B.exec
  have hb := B.bytes
  have hr := B.returns
  have hts := atoms_spec (ws := wsX1_begins) B.pre
  have hown : s.vm.findClass RX1 = some m.cls := findClass_of_methodNamed B.named
  have hlocks := B.notSynchronized
  have hS : va_S (dkA z) s.heap s.heap [] := va_S.rf
  have hF : dkF [(338, 338, 2, 2), (339, 339, 3, 3)] I0 I0 := dkF_rf _ _
  have hl := lv_entry ([.ref (z + 338), .int 10]) (n := 2) (Nat.le_of_ble_eq_true rfl)
  have hgo : entryFrame m args 2 = entryFrame m ([.ref (z + 338), .int 10] : List Value).toArray 2 := by rw [ha]
  rw [hgo, lg_entry_eq]
  generalize (lg_sl ([.ref (z + 338), .int 10]) ++ List.replicate (2 - (lg_sl ([.ref (z + 338), .int 10])).length) Slot.unset).toArray = ls at hl ⊢
  have hl : lv_has ls 2 [(0, .ref (z + 338)), (1, .int 10)] := hl
  refine lv_aload_n hx hb dX1_begins_0 rfl (lv_at hl 0 rfl) ?_
  refine dk_get (k := 338) hx hb hts iX1_begins_1 hown hK (dk_at338 hW) rfl 2 (by decide) (hts (.fieldLink RX1 19 "DogKings$Asks" "tracedCount" "I") (List.mem_of_getElem? (i := 1) rfl)) rfl dX1_begins_1 ?_
  refine lv_topi (fun v1 ev1 => ?_)
  have dv1 : dkN [(3, 3)] v1 := by rw [ev1]; exact np0
  have xv1 : v1 = 3 := dkN_is dv1 rfl
  subst xv1
  refine lv_bipush (v := 16) hx hb dX1_begins_4 (by decide) ?_
  refine lv_icmp_ge (tgt := 29) hx hb dX1_begins_6 (by decide) (fun c2 => ?_) (fun c2 => ?_)
  ·
    exact (dkN_nil (show dkN [] 16 from dkN_le1 0 (dkN_lit (x := 16) (16) rfl) (dkN_lit (x := 3) (3) rfl) (dkc_le c2) rfl)).elim
  ·
    refine lv_aload_n hx hb dX1_begins_9 rfl (lv_at hl 0 rfl) ?_
    refine dk_get (k := 338) hx hb hts iX1_begins_1 hown hK (dk_at338 hW) rfl 1 (by decide) (hts (.fieldLink RX1 11 "DogKings$Asks" "traced" "[I") (List.mem_of_getElem? (i := 2) rfl)) rfl dX1_begins_10 ?_
    refine lv_aload_n hx hb dX1_begins_13 rfl (lv_at hl 0 rfl) ?_
    refine dk_get (k := 338) hx hb hts iX1_begins_1 hown hK (dk_at338 hW) rfl 2 (by decide) (hts (.fieldLink RX1 19 "DogKings$Asks" "tracedCount" "I") (List.mem_of_getElem? (i := 1) rfl)) rfl dX1_begins_14 ?_
    refine lv_topi (fun v3 ev3 => ?_)
    have dv3 : dkN [(3, 3)] v3 := by rw [ev3]; exact np0
    have xv3 : v3 = 3 := dkN_is dv3 rfl
    subst xv3
    refine lv_iload_n hx hb dX1_begins_17 rfl (lv_at hl 1 rfl) ?_
    refine dk_ist (k := 339) hx hb hK hW (fun _ => rfl) (by decide) hS (dkN_in (n := 16) (dkN_lit (x := 3) (3) rfl) rfl) dX1_begins_18 (fun I4 H4 L4 eI4 hW hS => ?_)
    have eI4 : I4 = dkU I0 339 3 10 := eI4
    have hO := dkO_set hO eI4 (dkN_sub (dkN_lit (x := 10) (10) rfl) rfl)
    have hF := dkF_set hF eI4 rfl
    refine lv_aload_n hx hb dX1_begins_19 rfl (lv_at hl 0 rfl) ?_
    refine lv_dup hx hb dX1_begins_20 rfl ?_
    refine dk_get (k := 338) hx hb hts iX1_begins_1 hown hK (dk_at338 hW) rfl 2 (by decide) (hts (.fieldLink RX1 19 "DogKings$Asks" "tracedCount" "I") (List.mem_of_getElem? (i := 1) rfl)) rfl dX1_begins_21 ?_
    refine lv_topi (fun v5 ev5 => ?_)
    have dv5 : dkN [(3, 3)] v5 := by rw [ev5]; exact (by rw [eI4, dkU_n (by decide)]; exact np0)
    have xv5 : v5 = 3 := dkN_is dv5 rfl
    subst xv5
    refine lv_iconst (v := 1) hx hb dX1_begins_24 (by decide) ?_
    refine lv_iadd hx hb dX1_begins_25 ?_
    refine lv_topi (fun v6 ev6 => ?_)
    have dv6 : dkN [(4, 4)] v6 := by rw [ev6]; exact dkN_add (dkN_lit (x := 3) (3) rfl) (dkN_lit (x := 1) (1) rfl) rfl
    have xv6 : v6 = 4 := by rw [ev6]; rfl
    subst xv6
    refine dk_put (k := 338) hx hb hts iX1_begins_1 tyX1 tyX1_ok nmX1 hown hK hW (dk_at338 hW) hS rfl 2 (by decide) (hts (.fieldLink RX1 19 "DogKings$Asks" "tracedCount" "I") (List.mem_of_getElem? (i := 1) rfl)) rfl rfl (Nat.le_of_ble_eq_true rfl) rfl dX1_begins_26 (fun I7 H7 L7 eI7 hW hS => ?_)
    have eI7 : I7 = dkU I4 338 2 4 := eI7
    have hO := dkO_set hO eI7 (dkN_sub (dkN_lit (x := 4) (4) rfl) rfl)
    have hF := dkF_set hF eI7 rfl
    exact W.vret hx hb hr (fun t ht hW9 => ⟨⟨I7, rfl, ⟨hF, hO, ⟨(show dkN [(4, 4)] (I7 338 2) from dkN_sub (by rw [eI7, dkU_ss]; exact (dkN_lit (x := 4) (4) rfl)) rfl), (show dkN [(10, 10)] (I7 339 3) from dkN_sub (by rw [eI7, dkU_n (by decide)]; exact (by rw [eI4, dkU_ss]; exact (dkN_lit (x := 10) (10) rfl))) rfl), (by rw [eI7, dkU_ss]), ((by rw [eI7, dkU_n (by decide)] : I7 339 0 = _).trans ((by rw [eI4, dkU_sn (by decide)] : I4 339 0 = _).trans rfl)), ((by rw [eI7, dkU_n (by decide)] : I7 339 1 = _).trans ((by rw [eI4, dkU_sn (by decide)] : I4 339 1 = _).trans rfl)), ((by rw [eI7, dkU_n (by decide)] : I7 339 2 = _).trans ((by rw [eI4, dkU_sn (by decide)] : I4 339 2 = _).trans rfl)), ((by rw [eI7, dkU_n (by decide)] : I7 339 3 = _).trans (by rw [eI4, dkU_ss])), ((by rw [eI7, dkU_n (by decide)] : I7 339 4 = _).trans ((by rw [eI4, dkU_sn (by decide)] : I4 339 4 = _).trans rfl)), ((by rw [eI7, dkU_n (by decide)] : I7 339 5 = _).trans ((by rw [eI4, dkU_sn (by decide)] : I4 339 5 = _).trans rfl)), ((by rw [eI7, dkU_n (by decide)] : I7 339 6 = _).trans ((by rw [eI4, dkU_sn (by decide)] : I4 339 6 = _).trans rfl)), ((by rw [eI7, dkU_n (by decide)] : I7 339 7 = _).trans ((by rw [eI4, dkU_sn (by decide)] : I4 339 7 = _).trans rfl)), ((by rw [eI7, dkU_n (by decide)] : I7 339 = _).trans (by rw [eI4, dkU_s, show (I0 339) = I0 339 from rfl])), trivial⟩⟩, dkW_eq ht hW⟩, hS.F ht⟩) hS.2.2 dX1_begins_29
set_option maxHeartbeats 4000000 in
set_option maxRecDepth 100000 in
theorem fx_X1_gives_62 (l : Launch) (g : dkG) (z : Nat) (I0 : dkI) (p0 : Int32) (p1 : Int32) (p2 : Int32) (dp0 : dkN [(10, 10)] p0) (dp1 : dkN [(0, 5)] p1) (dp2 : dkN [(3, 3)] p2) (np0 : dkN [(3, 3)] (I0 338 2))  (tp0 : (I0 32 (Int32.toNatClampNeg p1)).toInt = (4 : Int)) (hO : dkOk I0) : Met l yX1_gives wsX1_gives (dkR 1) (dkPc g z [.ref (z + 338), .int p0, .int p1, .int p2] I0) (dkQi g z (fun r I1 => dkF [(338, 338, 2, 2), (339, 339, 3, 3)] I0 I1 ∧ dkOk I1 ∧ ((True ∧ dkN [(4, 4)] (I1 338 2) ∧ dkN [(10, 10)] (I1 339 3) ∧ (I0 32 (Int32.toNatClampNeg p1)).toInt = (4 : Int) ∧ r = I0 33 (Int32.toNatClampNeg p1) ∧ I1 338 2 = 4 ∧ I1 339 0 = I0 339 0 ∧ I1 339 1 = I0 339 1 ∧ I1 339 2 = I0 339 2 ∧ I1 339 3 = 10 ∧ I1 339 4 = I0 339 4 ∧ I1 339 5 = I0 339 5 ∧ I1 339 6 = I0 339 6 ∧ I1 339 7 = I0 339 7 ∧ I1 339  = dkV (I0 339) 3 10 ∧ True)))) 0 0 (dkA z) := by
  obtain rfl : p0 = 10 := dkN_is dp0 rfl
  obtain rfl : p2 = 3 := dkN_is dp2 rfl
  refine Met.ofW (cc := cX1_gives) (maxL := 5) (ret := (some .int)) (by decide) rfl ?_
  intro p e s m args below meth c s₁ B hml hv
  obtain ⟨ha, hW, hK, hT⟩ := hv
  have hx := B.exec
  have hb := B.bytes
  have hr := B.returns
  have hts := atoms_spec (ws := wsX1_gives) B.pre
  have hown : s.vm.findClass RX1 = some m.cls := findClass_of_methodNamed B.named
  have hlocks := B.notSynchronized
  have hS : va_S (dkA z) s.heap s.heap [] := va_S.rf
  have hF : dkF [(338, 338, 2, 2), (339, 339, 3, 3)] I0 I0 := dkF_rf _ _
  have hl := lv_entry ([.ref (z + 338), .int 10, .int p1, .int 3]) (n := 5) (Nat.le_of_ble_eq_true rfl)
  have hgo : entryFrame m args 5 = entryFrame m ([.ref (z + 338), .int 10, .int p1, .int 3] : List Value).toArray 5 := by rw [ha]
  rw [hgo, lg_entry_eq]
  generalize (lg_sl ([.ref (z + 338), .int 10, .int p1, .int 3]) ++ List.replicate (5 - (lg_sl ([.ref (z + 338), .int 10, .int p1, .int 3])).length) Slot.unset).toArray = ls at hl ⊢
  have hl : lv_has ls 5 [(0, .ref (z + 338)), (1, .int 10), (2, .int p1), (3, .int 3)] := hl
  refine lv_iload_n hx hb dX1_gives_0 rfl (lv_at hl 3 rfl) ?_
  refine lv_iconst (v := 5) hx hb dX1_gives_1 (by decide) ?_
  refine lv_icmp_le (tgt := 8) hx hb dX1_gives_2 (by decide) (fun c1 => ?_) (fun c1 => ?_)
  ·
    refine lv_aload_n hx hb dX1_gives_8 rfl (lv_at hl 0 rfl) ?_
    refine lv_iload_n hx hb dX1_gives_9 rfl (lv_at hl 1 rfl) ?_
    refine dk_Vv (As := [.int 10]) (rest := []) ⟨hx, hb, hml, hown, hts⟩ (fx_X1_begins_29 l g z I0 10 (dkN_lit (x := 10) (10) rfl) (show dkN [(3, 3)] (I0 338 2) from dkN_sub np0 rfl) hO) (cwV 1 hts gX1_gives_X1_begins rfl rfl rfl (by decide +kernel) ⟨Nat.le_of_ble_eq_true rfl, Nat.le_of_ble_eq_true rfl⟩) (dk_at338 hW) rfl hK hT hW hS rfl hl.1 rfl (Nat.le_of_ble_eq_true rfl) dX1_gives_10 ⟨Nat.zero_le _, Nat.zero_le _⟩ (fun I2 H2 L2 hp2 hW hS => ?_)
    obtain ⟨hF2, hO, hc2⟩ := hp2
    have hF := dkF_call hF hF2 rfl
    obtain ⟨f2_338_2, f2_339_3, xh2_0, xh2_1, xh2_2, xh2_3, xh2_4, xh2_5, xh2_6, xh2_7, xh2_8, xh2_9, -⟩ := hc2
    have y3 : I2 338 2 = 4 := by have h := xh2_0; exact h
    have y4 : I2 339 0 = I0 339 0 := by have h := xh2_1; exact h
    have y5 : I2 339 1 = I0 339 1 := by have h := xh2_2; exact h
    have y6 : I2 339 2 = I0 339 2 := by have h := xh2_3; exact h
    have y7 : I2 339 3 = 10 := by have h := xh2_4; exact h
    have y8 : I2 339 4 = I0 339 4 := by have h := xh2_5; exact h
    have y9 : I2 339 5 = I0 339 5 := by have h := xh2_6; exact h
    have y10 : I2 339 6 = I0 339 6 := by have h := xh2_7; exact h
    have y11 : I2 339 7 = I0 339 7 := by have h := xh2_8; exact h
    have y12 : I2 339 = dkV (I0 339) 3 10 := by have h := xh2_9; exact h
    refine lv_iload_n hx hb dX1_gives_13 rfl (lv_at hl 3 rfl) ?_
    refine lv_iconst (v := 1) hx hb dX1_gives_14 (by decide) ?_
    refine lv_iadd hx hb dX1_gives_15 ?_
    refine lv_topi (fun v13 ev13 => ?_)
    have dv13 : dkN [(4, 4)] v13 := by rw [ev13]; exact dkN_add (dkN_lit (x := 3) (3) rfl) (dkN_lit (x := 1) (1) rfl) rfl
    have xv13 : v13 = 4 := by rw [ev13]; rfl
    subst xv13
    refine lv_istore (lv' := [(4, .int 4), (0, .ref (z + 338)), (1, .int 10), (2, .int p1), (3, .int 3)]) hx hb dX1_gives_16 hl (by decide) rfl (fun ls hl => ?_)
    refine lv_iload_n hx hb dX1_gives_18 rfl (lv_at hl 2 rfl) ?_
    have qc14 : (10 : Int32).toInt = 10 := rfl
    refine lv_tableIn (tgt := 92) hx hb dX1_gives_19 (by rw [qc14]; decide) (by rw [qc14]; decide) (by rw [qc14]; rfl) (by decide) ?_
    refine lv_aload_n hx hb dX1_gives_92 rfl (lv_at hl 1 rfl) ?_
    refine dk_get (k := 338) hx hb hts iX1_gives_1 hown hK (dk_at338 hW) rfl 0 (by decide) (hts (.fieldLink RX1 15 "DogKings$Asks" "now" "LDogKings$Town;") (List.mem_of_getElem? (i := 2) rfl)) rfl dX1_gives_93 ?_
    refine dk_get (k := 25) hx hb hts iX1_gives_4 hown hK (dk_at25 hW) rfl 13 (by decide) (hts (.fieldLink RX1 51 "DogKings$Town" "dogHome" "[I") (List.mem_of_getElem? (i := 3) rfl)) rfl dX1_gives_96 ?_
    refine lv_iload_n hx hb dX1_gives_99 rfl (lv_at hl 3 rfl) ?_
    refine dk_ild (k := 33) hx hb hK (dk_at33 hW) (dkN_in (n := 6) dp1 rfl) dX1_gives_100 ?_
    refine lv_topi (fun v15 ev15 => ?_)
    have xv15 : v15 = I0 33 (Int32.toNatClampNeg p1) := ev15.trans ((hF2 33 (Int32.toNatClampNeg p1) (dkNin_k rfl (dkNin_k rfl dkNin_nil))).trans rfl)
    exact W.iret (v := v15) hx hb hr (fun t ht hW9 => ⟨⟨v15, I2, rfl, ⟨hF, hO, ⟨trivial, (show dkN [(4, 4)] (I2 338 2) from dkN_sub f2_338_2 rfl), (show dkN [(10, 10)] (I2 339 3) from dkN_sub f2_339_3 rfl), tp0, xv15, y3, y4, y5, y6, y7, y8, y9, y10, y11, y12, trivial⟩⟩, dkW_eq ht hW⟩, hS.F ht⟩) hS.2.2 dX1_gives_101
  ·
    exact (dkN_nil (show dkN [] 3 from dkN_le2 1 (dkN_lit (x := 5) (5) rfl) (dkN_lit (x := 3) (3) rfl) (dkc_nle c1) rfl)).elim
set_option maxHeartbeats 4000000 in
set_option maxRecDepth 100000 in
theorem fx_X1_gives_61 (l : Launch) (g : dkG) (z : Nat) (I0 : dkI) (p0 : Int32) (p1 : Int32) (p2 : Int32) (dp0 : dkN [(13, 13)] p0) (dp1 : dkN [(0, 5)] p1) (dp2 : dkN [(2, 2)] p2) (np0 : dkN [(2, 2)] (I0 338 2))  (tp0 : (I0 32 (Int32.toNatClampNeg p1)).toInt = (4 : Int)) (hO : dkOk I0) : Met l yX1_gives wsX1_gives (dkR 2) (dkPc g z [.ref (z + 338), .int p0, .int p1, .int p2] I0) (dkQi g z (fun r I1 => dkF [(338, 338, 2, 2), (339, 339, 2, 3)] I0 I1 ∧ dkOk I1 ∧ ((True ∧ dkN [(4, 4)] (I1 338 2) ∧ dkN [(13, 13)] (I1 339 2) ∧ dkN [(10, 10)] (I1 339 3) ∧ (I0 32 (Int32.toNatClampNeg p1)).toInt = (4 : Int) ∧ ((I0 32) (Int32.toNatClampNeg p1)).toInt = (4 : Int) ∧ r = ((I0 33) (Int32.toNatClampNeg p1)) - (100 : Int32) ∧ I1 338 2 = 4 ∧ I1 339 0 = I0 339 0 ∧ I1 339 1 = I0 339 1 ∧ I1 339 2 = 13 ∧ I1 339 3 = 10 ∧ I1 339 4 = I0 339 4 ∧ I1 339 5 = I0 339 5 ∧ I1 339 6 = I0 339 6 ∧ I1 339 7 = I0 339 7 ∧ I1 339  = dkV (dkV (I0 339) 2 13) 3 10 ∧ True)))) 0 0 (dkA z) := by
  obtain rfl : p0 = 13 := dkN_is dp0 rfl
  obtain rfl : p2 = 2 := dkN_is dp2 rfl
  refine Met.ofW (cc := cX1_gives) (maxL := 5) (ret := (some .int)) (by decide) rfl ?_
  intro p e s m args below meth c s₁ B hml hv
  obtain ⟨ha, hW, hK, hT⟩ := hv
  have hx := B.exec
  have hb := B.bytes
  have hr := B.returns
  have hts := atoms_spec (ws := wsX1_gives) B.pre
  have hown : s.vm.findClass RX1 = some m.cls := findClass_of_methodNamed B.named
  have hlocks := B.notSynchronized
  have hS : va_S (dkA z) s.heap s.heap [] := va_S.rf
  have hF : dkF [(338, 338, 2, 2), (339, 339, 2, 3)] I0 I0 := dkF_rf _ _
  have hl := lv_entry ([.ref (z + 338), .int 13, .int p1, .int 2]) (n := 5) (Nat.le_of_ble_eq_true rfl)
  have hgo : entryFrame m args 5 = entryFrame m ([.ref (z + 338), .int 13, .int p1, .int 2] : List Value).toArray 5 := by rw [ha]
  rw [hgo, lg_entry_eq]
  generalize (lg_sl ([.ref (z + 338), .int 13, .int p1, .int 2]) ++ List.replicate (5 - (lg_sl ([.ref (z + 338), .int 13, .int p1, .int 2])).length) Slot.unset).toArray = ls at hl ⊢
  have hl : lv_has ls 5 [(0, .ref (z + 338)), (1, .int 13), (2, .int p1), (3, .int 2)] := hl
  refine lv_iload_n hx hb dX1_gives_0 rfl (lv_at hl 3 rfl) ?_
  refine lv_iconst (v := 5) hx hb dX1_gives_1 (by decide) ?_
  refine lv_icmp_le (tgt := 8) hx hb dX1_gives_2 (by decide) (fun c1 => ?_) (fun c1 => ?_)
  ·
    refine lv_aload_n hx hb dX1_gives_8 rfl (lv_at hl 0 rfl) ?_
    refine lv_iload_n hx hb dX1_gives_9 rfl (lv_at hl 1 rfl) ?_
    refine dk_Vv (As := [.int 13]) (rest := []) ⟨hx, hb, hml, hown, hts⟩ (fx_X1_begins_28 l g z I0 13 (dkN_lit (x := 13) (13) rfl) (show dkN [(2, 2)] (I0 338 2) from dkN_sub np0 rfl) hO) (cwV 1 hts gX1_gives_X1_begins rfl rfl rfl (by decide +kernel) ⟨Nat.le_of_ble_eq_true rfl, Nat.le_of_ble_eq_true rfl⟩) (dk_at338 hW) rfl hK hT hW hS rfl hl.1 rfl (Nat.le_of_ble_eq_true rfl) dX1_gives_10 ⟨Nat.zero_le _, Nat.zero_le _⟩ (fun I2 H2 L2 hp2 hW hS => ?_)
    obtain ⟨hF2, hO, hc2⟩ := hp2
    have hF := dkF_call hF hF2 rfl
    obtain ⟨f2_338_2, f2_339_2, xh2_0, xh2_1, xh2_2, xh2_3, xh2_4, xh2_5, xh2_6, xh2_7, xh2_8, xh2_9, -⟩ := hc2
    have y3 : I2 338 2 = 3 := by have h := xh2_0; exact h
    have y4 : I2 339 0 = I0 339 0 := by have h := xh2_1; exact h
    have y5 : I2 339 1 = I0 339 1 := by have h := xh2_2; exact h
    have y6 : I2 339 2 = 13 := by have h := xh2_3; exact h
    have y7 : I2 339 3 = I0 339 3 := by have h := xh2_4; exact h
    have y8 : I2 339 4 = I0 339 4 := by have h := xh2_5; exact h
    have y9 : I2 339 5 = I0 339 5 := by have h := xh2_6; exact h
    have y10 : I2 339 6 = I0 339 6 := by have h := xh2_7; exact h
    have y11 : I2 339 7 = I0 339 7 := by have h := xh2_8; exact h
    have y12 : I2 339 = dkV (I0 339) 2 13 := by have h := xh2_9; exact h
    refine lv_iload_n hx hb dX1_gives_13 rfl (lv_at hl 3 rfl) ?_
    refine lv_iconst (v := 1) hx hb dX1_gives_14 (by decide) ?_
    refine lv_iadd hx hb dX1_gives_15 ?_
    refine lv_topi (fun v13 ev13 => ?_)
    have dv13 : dkN [(3, 3)] v13 := by rw [ev13]; exact dkN_add (dkN_lit (x := 2) (2) rfl) (dkN_lit (x := 1) (1) rfl) rfl
    have xv13 : v13 = 3 := by rw [ev13]; rfl
    subst xv13
    refine lv_istore (lv' := [(4, .int 3), (0, .ref (z + 338)), (1, .int 13), (2, .int p1), (3, .int 2)]) hx hb dX1_gives_16 hl (by decide) rfl (fun ls hl => ?_)
    refine lv_iload_n hx hb dX1_gives_18 rfl (lv_at hl 2 rfl) ?_
    have qc14 : (13 : Int32).toInt = 13 := rfl
    refine lv_tableIn (tgt := 136) hx hb dX1_gives_19 (by rw [qc14]; decide) (by rw [qc14]; decide) (by rw [qc14]; rfl) (by decide) ?_
    refine lv_aload_n hx hb dX1_gives_136 rfl (lv_at hl 1 rfl) ?_
    refine lv_bipush (v := 10) hx hb dX1_gives_137 (by decide) ?_
    refine lv_iload_n hx hb dX1_gives_139 rfl (lv_at hl 3 rfl) ?_
    refine lv_iload hx hb dX1_gives_140 (lv_at hl 0 rfl) ?_
    refine dk_Vi (As := [.int 10, .int p1, .int 3]) (rest := []) ⟨hx, hb, hml, hown, hts⟩ (fx_X1_gives_62 l g z I2 10 p1 3 (dkN_lit (x := 10) (10) rfl) dp1 (dkN_lit (x := 3) (3) rfl) (show dkN [(3, 3)] (I2 338 2) from dkN_sub f2_338_2 rfl) (by rw [(show I2 32 = I0 32 from ((funext fun j => hF2 32 j (dkNin_k rfl (dkNin_k rfl dkNin_nil))).trans rfl))]; exact tp0) hO) (cwV 3 hts gX1_gives_X1_gives rfl rfl rfl (by decide +kernel) ⟨Nat.le_of_ble_eq_true rfl, Nat.le_of_ble_eq_true rfl⟩) (dk_at338 hW) rfl hK hT hW hS rfl hl.1 rfl (Nat.le_of_ble_eq_true rfl) dX1_gives_142 ⟨Nat.zero_le _, Nat.zero_le _⟩ (fun v15 I15 H15 L15 hp15 hW hS => ?_)
    obtain ⟨hF15, hO, hc15⟩ := hp15
    have hF := dkF_call hF hF15 rfl
    obtain ⟨_, f15_338_2, f15_339_3, x15_0, xr15, xh15_0, xh15_1, xh15_2, xh15_3, xh15_4, xh15_5, xh15_6, xh15_7, xh15_8, xh15_9, -⟩ := hc15
    have w16 : I2 32 = I0 32 := ((funext fun j => hF2 32 j (dkNin_k rfl (dkNin_k rfl dkNin_nil))).trans rfl)
    have q17 : ((I0 32) (Int32.toNatClampNeg p1)).toInt = (4 : Int) := by have h := x15_0; rw [w16] at h; exact h
    have y18 : I15 338 2 = 4 := by have h := xh15_0; exact h
    have w19 : I2 339 0 = I0 339 0 := y4
    have y20 : I15 339 0 = I0 339 0 := by have h := xh15_1; rw [w19] at h; exact h
    have w21 : I2 339 1 = I0 339 1 := y5
    have y22 : I15 339 1 = I0 339 1 := by have h := xh15_2; rw [w21] at h; exact h
    have w23 : I2 339 2 = 13 := y6
    have y24 : I15 339 2 = 13 := by have h := xh15_3; rw [w23] at h; exact h
    have y25 : I15 339 3 = 10 := by have h := xh15_4; exact h
    have w26 : I2 339 4 = I0 339 4 := y8
    have y27 : I15 339 4 = I0 339 4 := by have h := xh15_5; rw [w26] at h; exact h
    have w28 : I2 339 5 = I0 339 5 := y9
    have y29 : I15 339 5 = I0 339 5 := by have h := xh15_6; rw [w28] at h; exact h
    have w30 : I2 339 6 = I0 339 6 := y10
    have y31 : I15 339 6 = I0 339 6 := by have h := xh15_7; rw [w30] at h; exact h
    have w32 : I2 339 7 = I0 339 7 := y11
    have y33 : I15 339 7 = I0 339 7 := by have h := xh15_8; rw [w32] at h; exact h
    have w34 : I2 339 = dkV (I0 339) 2 13 := y12
    have y35 : I15 339 = dkV (dkV (I0 339) 2 13) 3 10 := by have h := xh15_9; rw [w34] at h; exact h
    have w36 : I2 33 = I0 33 := ((funext fun j => hF2 33 j (dkNin_k rfl (dkNin_k rfl dkNin_nil))).trans rfl)
    have xv15 : v15 = (I0 33) (Int32.toNatClampNeg p1) := by have h := xr15; rw [w36] at h; exact h
    refine lv_bipush (v := 100) hx hb dX1_gives_145 (by decide) ?_
    refine lv_isub hx hb dX1_gives_147 ?_
    refine lv_topi (fun v37 ev37 => ?_)
    have xv37 : v37 = ((I0 33) (Int32.toNatClampNeg p1)) - (100 : Int32) := by rw [ev37, xv15]
    exact W.iret (v := v37) hx hb hr (fun t ht hW9 => ⟨⟨v37, I15, rfl, ⟨hF, hO, ⟨trivial, (show dkN [(4, 4)] (I15 338 2) from dkN_sub f15_338_2 rfl), (show dkN [(13, 13)] (I15 339 2) from dkN_sub (by rw [hF15 339 2 rfl]; exact f2_339_2) rfl), (show dkN [(10, 10)] (I15 339 3) from dkN_sub f15_339_3 rfl), tp0, q17, xv37, y18, y20, y22, y24, y25, y27, y29, y31, y33, y35, trivial⟩⟩, dkW_eq ht hW⟩, hS.F ht⟩) hS.2.2 dX1_gives_148
  ·
    exact (dkN_nil (show dkN [] 2 from dkN_le2 1 (dkN_lit (x := 5) (5) rfl) (dkN_lit (x := 2) (2) rfl) (dkc_nle c1) rfl)).elim
set_option maxHeartbeats 4000000 in
set_option maxRecDepth 100000 in
theorem fx_X1_gives_59 (l : Launch) (g : dkG) (z : Nat) (I0 : dkI) (p0 : Int32) (p1 : Int32) (p2 : Int32) (dp0 : dkN [(23, 23)] p0) (dp1 : dkN [(0, 5)] p1) (dp2 : dkN [(1, 1)] p2) (np0 : dkN [(0, 0)] (I0 338 2))  (tp0 : (I0 32 (Int32.toNatClampNeg p1)).toInt = (4 : Int)) (hO : dkOk I0) : Met l yX1_gives wsX1_gives (dkR 3) (dkPc g z [.ref (z + 338), .int p0, .int p1, .int p2] I0) (dkQi g z (fun r I1 => dkF [(338, 338, 2, 2), (339, 339, 0, 3)] I0 I1 ∧ dkOk I1 ∧ ((True ∧ dkN [(4, 4)] (I1 338 2) ∧ dkN [(23, 23)] (I1 339 0) ∧ dkN [(20, 20)] (I1 339 1) ∧ dkN [(13, 13)] (I1 339 2) ∧ dkN [(10, 10)] (I1 339 3) ∧ (I0 32 (Int32.toNatClampNeg p1)).toInt = (4 : Int) ∧ ((I0 32) (Int32.toNatClampNeg p1)).toInt = (4 : Int) ∧ r = p1 - (((I0 33) (Int32.toNatClampNeg p1)) - (100 : Int32)) ∧ I1 338 2 = 4 ∧ I1 339 0 = 23 ∧ I1 339 1 = 20 ∧ I1 339 2 = 13 ∧ I1 339 3 = 10 ∧ I1 339 4 = I0 339 4 ∧ I1 339 5 = I0 339 5 ∧ I1 339 6 = I0 339 6 ∧ I1 339 7 = I0 339 7 ∧ I1 339  = dkV (dkV (dkV (dkV (I0 339) 0 23) 1 20) 2 13) 3 10 ∧ True)))) 0 0 (dkA z) := by
  obtain rfl : p0 = 23 := dkN_is dp0 rfl
  obtain rfl : p2 = 1 := dkN_is dp2 rfl
  refine Met.ofW (cc := cX1_gives) (maxL := 5) (ret := (some .int)) (by decide) rfl ?_
  intro p e s m args below meth c s₁ B hml hv
  obtain ⟨ha, hW, hK, hT⟩ := hv
  have hx := B.exec
  have hb := B.bytes
  have hr := B.returns
  have hts := atoms_spec (ws := wsX1_gives) B.pre
  have hown : s.vm.findClass RX1 = some m.cls := findClass_of_methodNamed B.named
  have hlocks := B.notSynchronized
  have hS : va_S (dkA z) s.heap s.heap [] := va_S.rf
  have hF : dkF [(338, 338, 2, 2), (339, 339, 0, 3)] I0 I0 := dkF_rf _ _
  have hl := lv_entry ([.ref (z + 338), .int 23, .int p1, .int 1]) (n := 5) (Nat.le_of_ble_eq_true rfl)
  have hgo : entryFrame m args 5 = entryFrame m ([.ref (z + 338), .int 23, .int p1, .int 1] : List Value).toArray 5 := by rw [ha]
  rw [hgo, lg_entry_eq]
  generalize (lg_sl ([.ref (z + 338), .int 23, .int p1, .int 1]) ++ List.replicate (5 - (lg_sl ([.ref (z + 338), .int 23, .int p1, .int 1])).length) Slot.unset).toArray = ls at hl ⊢
  have hl : lv_has ls 5 [(0, .ref (z + 338)), (1, .int 23), (2, .int p1), (3, .int 1)] := hl
  refine lv_iload_n hx hb dX1_gives_0 rfl (lv_at hl 3 rfl) ?_
  refine lv_iconst (v := 5) hx hb dX1_gives_1 (by decide) ?_
  refine lv_icmp_le (tgt := 8) hx hb dX1_gives_2 (by decide) (fun c1 => ?_) (fun c1 => ?_)
  ·
    refine lv_aload_n hx hb dX1_gives_8 rfl (lv_at hl 0 rfl) ?_
    refine lv_iload_n hx hb dX1_gives_9 rfl (lv_at hl 1 rfl) ?_
    refine dk_Vv (As := [.int 23]) (rest := []) ⟨hx, hb, hml, hown, hts⟩ (fx_X1_begins_27 l g z I0 23 (dkN_lit (x := 23) (23) rfl) (show dkN [(0, 0)] (I0 338 2) from dkN_sub np0 rfl) hO) (cwV 1 hts gX1_gives_X1_begins rfl rfl rfl (by decide +kernel) ⟨Nat.le_of_ble_eq_true rfl, Nat.le_of_ble_eq_true rfl⟩) (dk_at338 hW) rfl hK hT hW hS rfl hl.1 rfl (Nat.le_of_ble_eq_true rfl) dX1_gives_10 ⟨Nat.zero_le _, Nat.zero_le _⟩ (fun I2 H2 L2 hp2 hW hS => ?_)
    obtain ⟨hF2, hO, hc2⟩ := hp2
    have hF := dkF_call hF hF2 rfl
    obtain ⟨f2_338_2, f2_339_0, xh2_0, xh2_1, xh2_2, xh2_3, xh2_4, xh2_5, xh2_6, xh2_7, xh2_8, xh2_9, -⟩ := hc2
    have y3 : I2 338 2 = 1 := by have h := xh2_0; exact h
    have y4 : I2 339 0 = 23 := by have h := xh2_1; exact h
    have y5 : I2 339 1 = I0 339 1 := by have h := xh2_2; exact h
    have y6 : I2 339 2 = I0 339 2 := by have h := xh2_3; exact h
    have y7 : I2 339 3 = I0 339 3 := by have h := xh2_4; exact h
    have y8 : I2 339 4 = I0 339 4 := by have h := xh2_5; exact h
    have y9 : I2 339 5 = I0 339 5 := by have h := xh2_6; exact h
    have y10 : I2 339 6 = I0 339 6 := by have h := xh2_7; exact h
    have y11 : I2 339 7 = I0 339 7 := by have h := xh2_8; exact h
    have y12 : I2 339 = dkV (I0 339) 0 23 := by have h := xh2_9; exact h
    refine lv_iload_n hx hb dX1_gives_13 rfl (lv_at hl 3 rfl) ?_
    refine lv_iconst (v := 1) hx hb dX1_gives_14 (by decide) ?_
    refine lv_iadd hx hb dX1_gives_15 ?_
    refine lv_topi (fun v13 ev13 => ?_)
    have dv13 : dkN [(2, 2)] v13 := by rw [ev13]; exact dkN_add (dkN_lit (x := 1) (1) rfl) (dkN_lit (x := 1) (1) rfl) rfl
    have xv13 : v13 = 2 := by rw [ev13]; rfl
    subst xv13
    refine lv_istore (lv' := [(4, .int 2), (0, .ref (z + 338)), (1, .int 23), (2, .int p1), (3, .int 1)]) hx hb dX1_gives_16 hl (by decide) rfl (fun ls hl => ?_)
    refine lv_iload_n hx hb dX1_gives_18 rfl (lv_at hl 2 rfl) ?_
    have qc14 : (23 : Int32).toInt = 23 := rfl
    refine lv_tableIn (tgt := 197) hx hb dX1_gives_19 (by rw [qc14]; decide) (by rw [qc14]; decide) (by rw [qc14]; rfl) (by decide) ?_
    refine lv_aload_n hx hb dX1_gives_197 rfl (lv_at hl 1 rfl) ?_
    refine lv_bipush (v := 20) hx hb dX1_gives_198 (by decide) ?_
    refine lv_iload_n hx hb dX1_gives_200 rfl (lv_at hl 3 rfl) ?_
    refine lv_iload hx hb dX1_gives_201 (lv_at hl 0 rfl) ?_
    refine dk_Vi (As := [.int 20, .int p1, .int 2]) (rest := []) ⟨hx, hb, hml, hown, hts⟩ (fx_X1_gives_60 l g z I2 20 p1 2 (dkN_lit (x := 20) (20) rfl) dp1 (dkN_lit (x := 2) (2) rfl) (show dkN [(1, 1)] (I2 338 2) from dkN_sub f2_338_2 rfl) (by rw [(show I2 32 = I0 32 from ((funext fun j => hF2 32 j (dkNin_k rfl (dkNin_k rfl dkNin_nil))).trans rfl))]; exact tp0) hO) (cwV 3 hts gX1_gives_X1_gives rfl rfl rfl (by decide +kernel) ⟨Nat.le_of_ble_eq_true rfl, Nat.le_of_ble_eq_true rfl⟩) (dk_at338 hW) rfl hK hT hW hS rfl hl.1 rfl (Nat.le_of_ble_eq_true rfl) dX1_gives_203 ⟨Nat.zero_le _, Nat.zero_le _⟩ (fun v15 I15 H15 L15 hp15 hW hS => ?_)
    obtain ⟨hF15, hO, hc15⟩ := hp15
    have hF := dkF_call hF hF15 rfl
    obtain ⟨dv15, f15_338_2, f15_339_1, x15_0, xr15, xh15_0, xh15_1, xh15_2, xh15_3, xh15_4, xh15_5, xh15_6, xh15_7, xh15_8, xh15_9, -⟩ := hc15
    have w16 : I2 32 = I0 32 := ((funext fun j => hF2 32 j (dkNin_k rfl (dkNin_k rfl dkNin_nil))).trans rfl)
    have q17 : ((I0 32) (Int32.toNatClampNeg p1)).toInt = (4 : Int) := by have h := x15_0; rw [w16] at h; exact h
    have y18 : I15 338 2 = 2 := by have h := xh15_0; exact h
    have w19 : I2 339 0 = 23 := y4
    have y20 : I15 339 0 = 23 := by have h := xh15_1; rw [w19] at h; exact h
    have y21 : I15 339 1 = 20 := by have h := xh15_2; exact h
    have w22 : I2 339 2 = I0 339 2 := y6
    have y23 : I15 339 2 = I0 339 2 := by have h := xh15_3; rw [w22] at h; exact h
    have w24 : I2 339 3 = I0 339 3 := y7
    have y25 : I15 339 3 = I0 339 3 := by have h := xh15_4; rw [w24] at h; exact h
    have w26 : I2 339 4 = I0 339 4 := y8
    have y27 : I15 339 4 = I0 339 4 := by have h := xh15_5; rw [w26] at h; exact h
    have w28 : I2 339 5 = I0 339 5 := y9
    have y29 : I15 339 5 = I0 339 5 := by have h := xh15_6; rw [w28] at h; exact h
    have w30 : I2 339 6 = I0 339 6 := y10
    have y31 : I15 339 6 = I0 339 6 := by have h := xh15_7; rw [w30] at h; exact h
    have w32 : I2 339 7 = I0 339 7 := y11
    have y33 : I15 339 7 = I0 339 7 := by have h := xh15_8; rw [w32] at h; exact h
    have w34 : I2 339 = dkV (I0 339) 0 23 := y12
    have y35 : I15 339 = dkV (dkV (I0 339) 0 23) 1 20 := by have h := xh15_9; rw [w34] at h; exact h
    have xv15 : v15 = p1 := by have h := xr15; exact h
    refine lv_aload_n hx hb dX1_gives_206 rfl (lv_at hl 1 rfl) ?_
    refine lv_aload_n hx hb dX1_gives_207 rfl (lv_at hl 1 rfl) ?_
    refine lv_iload_n hx hb dX1_gives_208 rfl (lv_at hl 3 rfl) ?_
    refine dk_Vi (As := [.int p1]) (rest := [.ref (z + 338), .int v15]) ⟨hx, hb, hml, hown, hts⟩ (fx_X1_sizeBody_4 l g z I15 p1 dp1 (by rw [(show I15 32 = I0 32 from ((funext fun j => hF15 32 j (dkNin_k rfl (dkNin_k rfl dkNin_nil))).trans ((funext fun j => hF2 32 j (dkNin_k rfl (dkNin_k rfl dkNin_nil))).trans rfl)))]; exact tp0) hO) (cwV 1 hts gX1_gives_X1_sizeBody rfl rfl rfl (by decide +kernel) ⟨Nat.le_of_ble_eq_true rfl, Nat.le_of_ble_eq_true rfl⟩) (dk_at338 hW) rfl hK hT hW hS rfl hl.1 rfl (Nat.le_of_ble_eq_true rfl) dX1_gives_209 ⟨Nat.zero_le _, Nat.zero_le _⟩ (fun v36 I36 H36 L36 hp36 hW hS => ?_)
    obtain ⟨hF36, hO, hc36⟩ := hp36
    have hF := dkF_call hF hF36 rfl
    have eI36 : I15 = I36 := (dkF_nil hF36).symm
    subst eI36
    obtain ⟨dv36, x36_0, xr36, -⟩ := hc36
    have w37 : I15 32 = I0 32 := ((funext fun j => hF15 32 j (dkNin_k rfl (dkNin_k rfl dkNin_nil))).trans ((funext fun j => hF2 32 j (dkNin_k rfl (dkNin_k rfl dkNin_nil))).trans rfl))
    have xv36 : v36 = 13 := by have h := xr36; exact h
    have z38 : v36 = 13 := xv36
    subst z38
    refine lv_iload_n hx hb dX1_gives_212 rfl (lv_at hl 3 rfl) ?_
    refine lv_iload hx hb dX1_gives_213 (lv_at hl 0 rfl) ?_
    refine dk_Vi (As := [.int 13, .int p1, .int 2]) (rest := [.int v15]) ⟨hx, hb, hml, hown, hts⟩ (fx_X1_gives_61 l g z I15 13 p1 2 (dkN_lit (x := 13) (13) rfl) dp1 (dkN_lit (x := 2) (2) rfl) (show dkN [(2, 2)] (I15 338 2) from dkN_sub (by rw [hF36 338 2 rfl]; exact f15_338_2) rfl) (by rw [(show I15 32 = I0 32 from ((funext fun j => hF36 32 j dkNin_nil).trans ((funext fun j => hF15 32 j (dkNin_k rfl (dkNin_k rfl dkNin_nil))).trans ((funext fun j => hF2 32 j (dkNin_k rfl (dkNin_k rfl dkNin_nil))).trans rfl))))]; exact tp0) hO) (cwV 3 hts gX1_gives_X1_gives rfl rfl rfl (by decide +kernel) ⟨Nat.le_of_ble_eq_true rfl, Nat.le_of_ble_eq_true rfl⟩) (dk_at338 hW) rfl hK hT hW hS rfl hl.1 rfl (Nat.le_of_ble_eq_true rfl) dX1_gives_215 ⟨Nat.zero_le _, Nat.zero_le _⟩ (fun v39 I39 H39 L39 hp39 hW hS => ?_)
    obtain ⟨hF39, hO, hc39⟩ := hp39
    have hF := dkF_call hF hF39 rfl
    obtain ⟨_, f39_338_2, f39_339_2, f39_339_3, x39_0, x39_1, xr39, xh39_0, xh39_1, xh39_2, xh39_3, xh39_4, xh39_5, xh39_6, xh39_7, xh39_8, xh39_9, -⟩ := hc39
    have w40 : I15 32 = I0 32 := ((funext fun j => hF36 32 j dkNin_nil).trans ((funext fun j => hF15 32 j (dkNin_k rfl (dkNin_k rfl dkNin_nil))).trans ((funext fun j => hF2 32 j (dkNin_k rfl (dkNin_k rfl dkNin_nil))).trans rfl)))
    have y41 : I39 338 2 = 4 := by have h := xh39_0; exact h
    have w42 : I15 339 0 = 23 := ((hF36 339 0 rfl).trans y20)
    have y43 : I39 339 0 = 23 := by have h := xh39_1; rw [w42] at h; exact h
    have w44 : I15 339 1 = 20 := ((hF36 339 1 rfl).trans y21)
    have y45 : I39 339 1 = 20 := by have h := xh39_2; rw [w44] at h; exact h
    have y46 : I39 339 2 = 13 := by have h := xh39_3; exact h
    have y47 : I39 339 3 = 10 := by have h := xh39_4; exact h
    have w48 : I15 339 4 = I0 339 4 := ((hF36 339 4 rfl).trans y27)
    have y49 : I39 339 4 = I0 339 4 := by have h := xh39_5; rw [w48] at h; exact h
    have w50 : I15 339 5 = I0 339 5 := ((hF36 339 5 rfl).trans y29)
    have y51 : I39 339 5 = I0 339 5 := by have h := xh39_6; rw [w50] at h; exact h
    have w52 : I15 339 6 = I0 339 6 := ((hF36 339 6 rfl).trans y31)
    have y53 : I39 339 6 = I0 339 6 := by have h := xh39_7; rw [w52] at h; exact h
    have w54 : I15 339 7 = I0 339 7 := ((hF36 339 7 rfl).trans y33)
    have y55 : I39 339 7 = I0 339 7 := by have h := xh39_8; rw [w54] at h; exact h
    have w56 : I15 339 = dkV (dkV (I0 339) 0 23) 1 20 := ((funext fun j => hF36 339 j dkNin_nil).trans y35)
    have y57 : I39 339 = dkV (dkV (dkV (dkV (I0 339) 0 23) 1 20) 2 13) 3 10 := by have h := xh39_9; rw [w56] at h; exact h
    have w58 : I15 33 = I0 33 := ((funext fun j => hF36 33 j dkNin_nil).trans ((funext fun j => hF15 33 j (dkNin_k rfl (dkNin_k rfl dkNin_nil))).trans ((funext fun j => hF2 33 j (dkNin_k rfl (dkNin_k rfl dkNin_nil))).trans rfl)))
    have xv39 : v39 = ((I0 33) (Int32.toNatClampNeg p1)) - (100 : Int32) := by have h := xr39; rw [w58] at h; exact h
    refine lv_isub hx hb dX1_gives_218 ?_
    refine lv_topi (fun v59 ev59 => ?_)
    have xv59 : v59 = p1 - (((I0 33) (Int32.toNatClampNeg p1)) - (100 : Int32)) := by rw [ev59, xv15, xv39]
    exact W.iret (v := v59) hx hb hr (fun t ht hW9 => ⟨⟨v59, I39, rfl, ⟨hF, hO, ⟨trivial, (show dkN [(4, 4)] (I39 338 2) from dkN_sub f39_338_2 rfl), (show dkN [(23, 23)] (I39 339 0) from dkN_sub (by rw [hF39 339 0 rfl]; exact (by rw [hF36 339 0 rfl]; exact (by rw [hF15 339 0 rfl]; exact f2_339_0))) rfl), (show dkN [(20, 20)] (I39 339 1) from dkN_sub (by rw [hF39 339 1 rfl]; exact (by rw [hF36 339 1 rfl]; exact f15_339_1)) rfl), (show dkN [(13, 13)] (I39 339 2) from dkN_sub f39_339_2 rfl), (show dkN [(10, 10)] (I39 339 3) from dkN_sub f39_339_3 rfl), tp0, q17, xv59, y41, y43, y45, y46, y47, y49, y51, y53, y55, y57, trivial⟩⟩, dkW_eq ht hW⟩, hS.F ht⟩) hS.2.2 dX1_gives_219
  ·
    exact (dkN_nil (show dkN [] 1 from dkN_le2 1 (dkN_lit (x := 5) (5) rfl) (dkN_lit (x := 1) (1) rfl) (dkc_nle c1) rfl)).elim
set_option maxHeartbeats 4000000 in
set_option maxRecDepth 100000 in
theorem fx_X1_begins_30 (l : Launch) (g : dkG) (z : Nat) (I0 : dkI) (p0 : Int32) (dp0 : dkN [(13, 13)] p0) (np0 : dkN [(0, 0)] (I0 338 2))  (hO : dkOk I0) : Met l yX1_begins wsX1_begins (dkR 0) (dkPc g z [.ref (z + 338), .int p0] I0) (dkQv g z (fun I1 => dkF [(338, 338, 2, 2), (339, 339, 0, 0)] I0 I1 ∧ dkOk I1 ∧ ((dkN [(1, 1)] (I1 338 2) ∧ dkN [(13, 13)] (I1 339 0) ∧ I1 338 2 = 1 ∧ I1 339 0 = 13 ∧ I1 339 1 = I0 339 1 ∧ I1 339 2 = I0 339 2 ∧ I1 339 3 = I0 339 3 ∧ I1 339 4 = I0 339 4 ∧ I1 339 5 = I0 339 5 ∧ I1 339 6 = I0 339 6 ∧ I1 339 7 = I0 339 7 ∧ I1 339  = dkV (I0 339) 0 13 ∧ True)))) 0 0 (dkA z) := by
  obtain rfl : p0 = 13 := dkN_is dp0 rfl
  refine Met.ofW (cc := cX1_begins) (maxL := 2) (ret := none) (by decide) rfl ?_
  intro p e s m args below meth c s₁ B hml hv
  obtain ⟨ha, hW, hK, hT⟩ := hv
  have hx := B.exec
  have hb := B.bytes
  have hr := B.returns
  have hts := atoms_spec (ws := wsX1_begins) B.pre
  have hown : s.vm.findClass RX1 = some m.cls := findClass_of_methodNamed B.named
  have hlocks := B.notSynchronized
  have hS : va_S (dkA z) s.heap s.heap [] := va_S.rf
  have hF : dkF [(338, 338, 2, 2), (339, 339, 0, 0)] I0 I0 := dkF_rf _ _
  have hl := lv_entry ([.ref (z + 338), .int 13]) (n := 2) (Nat.le_of_ble_eq_true rfl)
  have hgo : entryFrame m args 2 = entryFrame m ([.ref (z + 338), .int 13] : List Value).toArray 2 := by rw [ha]
  rw [hgo, lg_entry_eq]
  generalize (lg_sl ([.ref (z + 338), .int 13]) ++ List.replicate (2 - (lg_sl ([.ref (z + 338), .int 13])).length) Slot.unset).toArray = ls at hl ⊢
  have hl : lv_has ls 2 [(0, .ref (z + 338)), (1, .int 13)] := hl
  refine lv_aload_n hx hb dX1_begins_0 rfl (lv_at hl 0 rfl) ?_
  refine dk_get (k := 338) hx hb hts iX1_begins_1 hown hK (dk_at338 hW) rfl 2 (by decide) (hts (.fieldLink RX1 19 "DogKings$Asks" "tracedCount" "I") (List.mem_of_getElem? (i := 1) rfl)) rfl dX1_begins_1 ?_
  refine lv_topi (fun v1 ev1 => ?_)
  have dv1 : dkN [(0, 0)] v1 := by rw [ev1]; exact np0
  have xv1 : v1 = 0 := dkN_is dv1 rfl
  subst xv1
  refine lv_bipush (v := 16) hx hb dX1_begins_4 (by decide) ?_
  refine lv_icmp_ge (tgt := 29) hx hb dX1_begins_6 (by decide) (fun c2 => ?_) (fun c2 => ?_)
  ·
    exact (dkN_nil (show dkN [] 16 from dkN_le1 0 (dkN_lit (x := 16) (16) rfl) (dkN_lit (x := 0) (0) rfl) (dkc_le c2) rfl)).elim
  ·
    refine lv_aload_n hx hb dX1_begins_9 rfl (lv_at hl 0 rfl) ?_
    refine dk_get (k := 338) hx hb hts iX1_begins_1 hown hK (dk_at338 hW) rfl 1 (by decide) (hts (.fieldLink RX1 11 "DogKings$Asks" "traced" "[I") (List.mem_of_getElem? (i := 2) rfl)) rfl dX1_begins_10 ?_
    refine lv_aload_n hx hb dX1_begins_13 rfl (lv_at hl 0 rfl) ?_
    refine dk_get (k := 338) hx hb hts iX1_begins_1 hown hK (dk_at338 hW) rfl 2 (by decide) (hts (.fieldLink RX1 19 "DogKings$Asks" "tracedCount" "I") (List.mem_of_getElem? (i := 1) rfl)) rfl dX1_begins_14 ?_
    refine lv_topi (fun v3 ev3 => ?_)
    have dv3 : dkN [(0, 0)] v3 := by rw [ev3]; exact np0
    have xv3 : v3 = 0 := dkN_is dv3 rfl
    subst xv3
    refine lv_iload_n hx hb dX1_begins_17 rfl (lv_at hl 1 rfl) ?_
    refine dk_ist (k := 339) hx hb hK hW (fun _ => rfl) (by decide) hS (dkN_in (n := 16) (dkN_lit (x := 0) (0) rfl) rfl) dX1_begins_18 (fun I4 H4 L4 eI4 hW hS => ?_)
    have eI4 : I4 = dkU I0 339 0 13 := eI4
    have hO := dkO_set hO eI4 (dkN_sub (dkN_lit (x := 13) (13) rfl) rfl)
    have hF := dkF_set hF eI4 rfl
    refine lv_aload_n hx hb dX1_begins_19 rfl (lv_at hl 0 rfl) ?_
    refine lv_dup hx hb dX1_begins_20 rfl ?_
    refine dk_get (k := 338) hx hb hts iX1_begins_1 hown hK (dk_at338 hW) rfl 2 (by decide) (hts (.fieldLink RX1 19 "DogKings$Asks" "tracedCount" "I") (List.mem_of_getElem? (i := 1) rfl)) rfl dX1_begins_21 ?_
    refine lv_topi (fun v5 ev5 => ?_)
    have dv5 : dkN [(0, 0)] v5 := by rw [ev5]; exact (by rw [eI4, dkU_n (by decide)]; exact np0)
    have xv5 : v5 = 0 := dkN_is dv5 rfl
    subst xv5
    refine lv_iconst (v := 1) hx hb dX1_begins_24 (by decide) ?_
    refine lv_iadd hx hb dX1_begins_25 ?_
    refine lv_topi (fun v6 ev6 => ?_)
    have dv6 : dkN [(1, 1)] v6 := by rw [ev6]; exact dkN_add (dkN_lit (x := 0) (0) rfl) (dkN_lit (x := 1) (1) rfl) rfl
    have xv6 : v6 = 1 := by rw [ev6]; rfl
    subst xv6
    refine dk_put (k := 338) hx hb hts iX1_begins_1 tyX1 tyX1_ok nmX1 hown hK hW (dk_at338 hW) hS rfl 2 (by decide) (hts (.fieldLink RX1 19 "DogKings$Asks" "tracedCount" "I") (List.mem_of_getElem? (i := 1) rfl)) rfl rfl (Nat.le_of_ble_eq_true rfl) rfl dX1_begins_26 (fun I7 H7 L7 eI7 hW hS => ?_)
    have eI7 : I7 = dkU I4 338 2 1 := eI7
    have hO := dkO_set hO eI7 (dkN_sub (dkN_lit (x := 1) (1) rfl) rfl)
    have hF := dkF_set hF eI7 rfl
    exact W.vret hx hb hr (fun t ht hW9 => ⟨⟨I7, rfl, ⟨hF, hO, ⟨(show dkN [(1, 1)] (I7 338 2) from dkN_sub (by rw [eI7, dkU_ss]; exact (dkN_lit (x := 1) (1) rfl)) rfl), (show dkN [(13, 13)] (I7 339 0) from dkN_sub (by rw [eI7, dkU_n (by decide)]; exact (by rw [eI4, dkU_ss]; exact (dkN_lit (x := 13) (13) rfl))) rfl), (by rw [eI7, dkU_ss]), ((by rw [eI7, dkU_n (by decide)] : I7 339 0 = _).trans (by rw [eI4, dkU_ss])), ((by rw [eI7, dkU_n (by decide)] : I7 339 1 = _).trans ((by rw [eI4, dkU_sn (by decide)] : I4 339 1 = _).trans rfl)), ((by rw [eI7, dkU_n (by decide)] : I7 339 2 = _).trans ((by rw [eI4, dkU_sn (by decide)] : I4 339 2 = _).trans rfl)), ((by rw [eI7, dkU_n (by decide)] : I7 339 3 = _).trans ((by rw [eI4, dkU_sn (by decide)] : I4 339 3 = _).trans rfl)), ((by rw [eI7, dkU_n (by decide)] : I7 339 4 = _).trans ((by rw [eI4, dkU_sn (by decide)] : I4 339 4 = _).trans rfl)), ((by rw [eI7, dkU_n (by decide)] : I7 339 5 = _).trans ((by rw [eI4, dkU_sn (by decide)] : I4 339 5 = _).trans rfl)), ((by rw [eI7, dkU_n (by decide)] : I7 339 6 = _).trans ((by rw [eI4, dkU_sn (by decide)] : I4 339 6 = _).trans rfl)), ((by rw [eI7, dkU_n (by decide)] : I7 339 7 = _).trans ((by rw [eI4, dkU_sn (by decide)] : I4 339 7 = _).trans rfl)), ((by rw [eI7, dkU_n (by decide)] : I7 339 = _).trans (by rw [eI4, dkU_s, show (I0 339) = I0 339 from rfl])), trivial⟩⟩, dkW_eq ht hW⟩, hS.F ht⟩) hS.2.2 dX1_begins_29
set_option maxHeartbeats 4000000 in
set_option maxRecDepth 100000 in
theorem fx_X1_gives_64 (l : Launch) (g : dkG) (z : Nat) (I0 : dkI) (p0 : Int32) (p1 : Int32) (p2 : Int32) (dp0 : dkN [(10, 10)] p0) (dp1 : dkN [(0, 5)] p1) (dp2 : dkN [(2, 2)] p2) (np0 : dkN [(1, 1)] (I0 338 2))  (tp0 : (I0 32 (Int32.toNatClampNeg p1)).toInt = (4 : Int)) (hO : dkOk I0) : Met l yX1_gives wsX1_gives (dkR 1) (dkPc g z [.ref (z + 338), .int p0, .int p1, .int p2] I0) (dkQi g z (fun r I1 => dkF [(338, 338, 2, 2), (339, 339, 1, 1)] I0 I1 ∧ dkOk I1 ∧ ((True ∧ dkN [(2, 2)] (I1 338 2) ∧ dkN [(10, 10)] (I1 339 1) ∧ (I0 32 (Int32.toNatClampNeg p1)).toInt = (4 : Int) ∧ r = I0 33 (Int32.toNatClampNeg p1) ∧ I1 338 2 = 2 ∧ I1 339 0 = I0 339 0 ∧ I1 339 1 = 10 ∧ I1 339 2 = I0 339 2 ∧ I1 339 3 = I0 339 3 ∧ I1 339 4 = I0 339 4 ∧ I1 339 5 = I0 339 5 ∧ I1 339 6 = I0 339 6 ∧ I1 339 7 = I0 339 7 ∧ I1 339  = dkV (I0 339) 1 10 ∧ True)))) 0 0 (dkA z) := by
  obtain rfl : p0 = 10 := dkN_is dp0 rfl
  obtain rfl : p2 = 2 := dkN_is dp2 rfl
  refine Met.ofW (cc := cX1_gives) (maxL := 5) (ret := (some .int)) (by decide) rfl ?_
  intro p e s m args below meth c s₁ B hml hv
  obtain ⟨ha, hW, hK, hT⟩ := hv
  have hx := B.exec
  have hb := B.bytes
  have hr := B.returns
  have hts := atoms_spec (ws := wsX1_gives) B.pre
  have hown : s.vm.findClass RX1 = some m.cls := findClass_of_methodNamed B.named
  have hlocks := B.notSynchronized
  have hS : va_S (dkA z) s.heap s.heap [] := va_S.rf
  have hF : dkF [(338, 338, 2, 2), (339, 339, 1, 1)] I0 I0 := dkF_rf _ _
  have hl := lv_entry ([.ref (z + 338), .int 10, .int p1, .int 2]) (n := 5) (Nat.le_of_ble_eq_true rfl)
  have hgo : entryFrame m args 5 = entryFrame m ([.ref (z + 338), .int 10, .int p1, .int 2] : List Value).toArray 5 := by rw [ha]
  rw [hgo, lg_entry_eq]
  generalize (lg_sl ([.ref (z + 338), .int 10, .int p1, .int 2]) ++ List.replicate (5 - (lg_sl ([.ref (z + 338), .int 10, .int p1, .int 2])).length) Slot.unset).toArray = ls at hl ⊢
  have hl : lv_has ls 5 [(0, .ref (z + 338)), (1, .int 10), (2, .int p1), (3, .int 2)] := hl
  refine lv_iload_n hx hb dX1_gives_0 rfl (lv_at hl 3 rfl) ?_
  refine lv_iconst (v := 5) hx hb dX1_gives_1 (by decide) ?_
  refine lv_icmp_le (tgt := 8) hx hb dX1_gives_2 (by decide) (fun c1 => ?_) (fun c1 => ?_)
  ·
    refine lv_aload_n hx hb dX1_gives_8 rfl (lv_at hl 0 rfl) ?_
    refine lv_iload_n hx hb dX1_gives_9 rfl (lv_at hl 1 rfl) ?_
    refine dk_Vv (As := [.int 10]) (rest := []) ⟨hx, hb, hml, hown, hts⟩ (fx_X1_begins_11 l g z I0 10 (dkN_lit (x := 10) (10) rfl) (show dkN [(1, 1)] (I0 338 2) from dkN_sub np0 rfl) hO) (cwV 1 hts gX1_gives_X1_begins rfl rfl rfl (by decide +kernel) ⟨Nat.le_of_ble_eq_true rfl, Nat.le_of_ble_eq_true rfl⟩) (dk_at338 hW) rfl hK hT hW hS rfl hl.1 rfl (Nat.le_of_ble_eq_true rfl) dX1_gives_10 ⟨Nat.zero_le _, Nat.zero_le _⟩ (fun I2 H2 L2 hp2 hW hS => ?_)
    obtain ⟨hF2, hO, hc2⟩ := hp2
    have hF := dkF_call hF hF2 rfl
    obtain ⟨f2_338_2, f2_339_1, xh2_0, xh2_1, xh2_2, xh2_3, xh2_4, xh2_5, xh2_6, xh2_7, xh2_8, xh2_9, -⟩ := hc2
    have y3 : I2 338 2 = 2 := by have h := xh2_0; exact h
    have y4 : I2 339 0 = I0 339 0 := by have h := xh2_1; exact h
    have y5 : I2 339 1 = 10 := by have h := xh2_2; exact h
    have y6 : I2 339 2 = I0 339 2 := by have h := xh2_3; exact h
    have y7 : I2 339 3 = I0 339 3 := by have h := xh2_4; exact h
    have y8 : I2 339 4 = I0 339 4 := by have h := xh2_5; exact h
    have y9 : I2 339 5 = I0 339 5 := by have h := xh2_6; exact h
    have y10 : I2 339 6 = I0 339 6 := by have h := xh2_7; exact h
    have y11 : I2 339 7 = I0 339 7 := by have h := xh2_8; exact h
    have y12 : I2 339 = dkV (I0 339) 1 10 := by have h := xh2_9; exact h
    refine lv_iload_n hx hb dX1_gives_13 rfl (lv_at hl 3 rfl) ?_
    refine lv_iconst (v := 1) hx hb dX1_gives_14 (by decide) ?_
    refine lv_iadd hx hb dX1_gives_15 ?_
    refine lv_topi (fun v13 ev13 => ?_)
    have dv13 : dkN [(3, 3)] v13 := by rw [ev13]; exact dkN_add (dkN_lit (x := 2) (2) rfl) (dkN_lit (x := 1) (1) rfl) rfl
    have xv13 : v13 = 3 := by rw [ev13]; rfl
    subst xv13
    refine lv_istore (lv' := [(4, .int 3), (0, .ref (z + 338)), (1, .int 10), (2, .int p1), (3, .int 2)]) hx hb dX1_gives_16 hl (by decide) rfl (fun ls hl => ?_)
    refine lv_iload_n hx hb dX1_gives_18 rfl (lv_at hl 2 rfl) ?_
    have qc14 : (10 : Int32).toInt = 10 := rfl
    refine lv_tableIn (tgt := 92) hx hb dX1_gives_19 (by rw [qc14]; decide) (by rw [qc14]; decide) (by rw [qc14]; rfl) (by decide) ?_
    refine lv_aload_n hx hb dX1_gives_92 rfl (lv_at hl 1 rfl) ?_
    refine dk_get (k := 338) hx hb hts iX1_gives_1 hown hK (dk_at338 hW) rfl 0 (by decide) (hts (.fieldLink RX1 15 "DogKings$Asks" "now" "LDogKings$Town;") (List.mem_of_getElem? (i := 2) rfl)) rfl dX1_gives_93 ?_
    refine dk_get (k := 25) hx hb hts iX1_gives_4 hown hK (dk_at25 hW) rfl 13 (by decide) (hts (.fieldLink RX1 51 "DogKings$Town" "dogHome" "[I") (List.mem_of_getElem? (i := 3) rfl)) rfl dX1_gives_96 ?_
    refine lv_iload_n hx hb dX1_gives_99 rfl (lv_at hl 3 rfl) ?_
    refine dk_ild (k := 33) hx hb hK (dk_at33 hW) (dkN_in (n := 6) dp1 rfl) dX1_gives_100 ?_
    refine lv_topi (fun v15 ev15 => ?_)
    have xv15 : v15 = I0 33 (Int32.toNatClampNeg p1) := ev15.trans ((hF2 33 (Int32.toNatClampNeg p1) (dkNin_k rfl (dkNin_k rfl dkNin_nil))).trans rfl)
    exact W.iret (v := v15) hx hb hr (fun t ht hW9 => ⟨⟨v15, I2, rfl, ⟨hF, hO, ⟨trivial, (show dkN [(2, 2)] (I2 338 2) from dkN_sub f2_338_2 rfl), (show dkN [(10, 10)] (I2 339 1) from dkN_sub f2_339_1 rfl), tp0, xv15, y3, y4, y5, y6, y7, y8, y9, y10, y11, y12, trivial⟩⟩, dkW_eq ht hW⟩, hS.F ht⟩) hS.2.2 dX1_gives_101
  ·
    exact (dkN_nil (show dkN [] 2 from dkN_le2 1 (dkN_lit (x := 5) (5) rfl) (dkN_lit (x := 2) (2) rfl) (dkc_nle c1) rfl)).elim
set_option maxHeartbeats 4000000 in
set_option maxRecDepth 100000 in
theorem fx_X1_gives_63 (l : Launch) (g : dkG) (z : Nat) (I0 : dkI) (p0 : Int32) (p1 : Int32) (p2 : Int32) (dp0 : dkN [(13, 13)] p0) (dp1 : dkN [(0, 5)] p1) (dp2 : dkN [(1, 1)] p2) (np0 : dkN [(0, 0)] (I0 338 2))  (tp0 : (I0 32 (Int32.toNatClampNeg p1)).toInt = (4 : Int)) (hO : dkOk I0) : Met l yX1_gives wsX1_gives (dkR 2) (dkPc g z [.ref (z + 338), .int p0, .int p1, .int p2] I0) (dkQi g z (fun r I1 => dkF [(338, 338, 2, 2), (339, 339, 0, 1)] I0 I1 ∧ dkOk I1 ∧ ((True ∧ dkN [(2, 2)] (I1 338 2) ∧ dkN [(13, 13)] (I1 339 0) ∧ dkN [(10, 10)] (I1 339 1) ∧ (I0 32 (Int32.toNatClampNeg p1)).toInt = (4 : Int) ∧ ((I0 32) (Int32.toNatClampNeg p1)).toInt = (4 : Int) ∧ r = ((I0 33) (Int32.toNatClampNeg p1)) - (100 : Int32) ∧ I1 338 2 = 2 ∧ I1 339 0 = 13 ∧ I1 339 1 = 10 ∧ I1 339 2 = I0 339 2 ∧ I1 339 3 = I0 339 3 ∧ I1 339 4 = I0 339 4 ∧ I1 339 5 = I0 339 5 ∧ I1 339 6 = I0 339 6 ∧ I1 339 7 = I0 339 7 ∧ I1 339  = dkV (dkV (I0 339) 0 13) 1 10 ∧ True)))) 0 0 (dkA z) := by
  obtain rfl : p0 = 13 := dkN_is dp0 rfl
  obtain rfl : p2 = 1 := dkN_is dp2 rfl
  refine Met.ofW (cc := cX1_gives) (maxL := 5) (ret := (some .int)) (by decide) rfl ?_
  intro p e s m args below meth c s₁ B hml hv
  obtain ⟨ha, hW, hK, hT⟩ := hv
  have hx := B.exec
  have hb := B.bytes
  have hr := B.returns
  have hts := atoms_spec (ws := wsX1_gives) B.pre
  have hown : s.vm.findClass RX1 = some m.cls := findClass_of_methodNamed B.named
  have hlocks := B.notSynchronized
  have hS : va_S (dkA z) s.heap s.heap [] := va_S.rf
  have hF : dkF [(338, 338, 2, 2), (339, 339, 0, 1)] I0 I0 := dkF_rf _ _
  have hl := lv_entry ([.ref (z + 338), .int 13, .int p1, .int 1]) (n := 5) (Nat.le_of_ble_eq_true rfl)
  have hgo : entryFrame m args 5 = entryFrame m ([.ref (z + 338), .int 13, .int p1, .int 1] : List Value).toArray 5 := by rw [ha]
  rw [hgo, lg_entry_eq]
  generalize (lg_sl ([.ref (z + 338), .int 13, .int p1, .int 1]) ++ List.replicate (5 - (lg_sl ([.ref (z + 338), .int 13, .int p1, .int 1])).length) Slot.unset).toArray = ls at hl ⊢
  have hl : lv_has ls 5 [(0, .ref (z + 338)), (1, .int 13), (2, .int p1), (3, .int 1)] := hl
  refine lv_iload_n hx hb dX1_gives_0 rfl (lv_at hl 3 rfl) ?_
  refine lv_iconst (v := 5) hx hb dX1_gives_1 (by decide) ?_
  refine lv_icmp_le (tgt := 8) hx hb dX1_gives_2 (by decide) (fun c1 => ?_) (fun c1 => ?_)
  ·
    refine lv_aload_n hx hb dX1_gives_8 rfl (lv_at hl 0 rfl) ?_
    refine lv_iload_n hx hb dX1_gives_9 rfl (lv_at hl 1 rfl) ?_
    refine dk_Vv (As := [.int 13]) (rest := []) ⟨hx, hb, hml, hown, hts⟩ (fx_X1_begins_30 l g z I0 13 (dkN_lit (x := 13) (13) rfl) (show dkN [(0, 0)] (I0 338 2) from dkN_sub np0 rfl) hO) (cwV 1 hts gX1_gives_X1_begins rfl rfl rfl (by decide +kernel) ⟨Nat.le_of_ble_eq_true rfl, Nat.le_of_ble_eq_true rfl⟩) (dk_at338 hW) rfl hK hT hW hS rfl hl.1 rfl (Nat.le_of_ble_eq_true rfl) dX1_gives_10 ⟨Nat.zero_le _, Nat.zero_le _⟩ (fun I2 H2 L2 hp2 hW hS => ?_)
    obtain ⟨hF2, hO, hc2⟩ := hp2
    have hF := dkF_call hF hF2 rfl
    obtain ⟨f2_338_2, f2_339_0, xh2_0, xh2_1, xh2_2, xh2_3, xh2_4, xh2_5, xh2_6, xh2_7, xh2_8, xh2_9, -⟩ := hc2
    have y3 : I2 338 2 = 1 := by have h := xh2_0; exact h
    have y4 : I2 339 0 = 13 := by have h := xh2_1; exact h
    have y5 : I2 339 1 = I0 339 1 := by have h := xh2_2; exact h
    have y6 : I2 339 2 = I0 339 2 := by have h := xh2_3; exact h
    have y7 : I2 339 3 = I0 339 3 := by have h := xh2_4; exact h
    have y8 : I2 339 4 = I0 339 4 := by have h := xh2_5; exact h
    have y9 : I2 339 5 = I0 339 5 := by have h := xh2_6; exact h
    have y10 : I2 339 6 = I0 339 6 := by have h := xh2_7; exact h
    have y11 : I2 339 7 = I0 339 7 := by have h := xh2_8; exact h
    have y12 : I2 339 = dkV (I0 339) 0 13 := by have h := xh2_9; exact h
    refine lv_iload_n hx hb dX1_gives_13 rfl (lv_at hl 3 rfl) ?_
    refine lv_iconst (v := 1) hx hb dX1_gives_14 (by decide) ?_
    refine lv_iadd hx hb dX1_gives_15 ?_
    refine lv_topi (fun v13 ev13 => ?_)
    have dv13 : dkN [(2, 2)] v13 := by rw [ev13]; exact dkN_add (dkN_lit (x := 1) (1) rfl) (dkN_lit (x := 1) (1) rfl) rfl
    have xv13 : v13 = 2 := by rw [ev13]; rfl
    subst xv13
    refine lv_istore (lv' := [(4, .int 2), (0, .ref (z + 338)), (1, .int 13), (2, .int p1), (3, .int 1)]) hx hb dX1_gives_16 hl (by decide) rfl (fun ls hl => ?_)
    refine lv_iload_n hx hb dX1_gives_18 rfl (lv_at hl 2 rfl) ?_
    have qc14 : (13 : Int32).toInt = 13 := rfl
    refine lv_tableIn (tgt := 136) hx hb dX1_gives_19 (by rw [qc14]; decide) (by rw [qc14]; decide) (by rw [qc14]; rfl) (by decide) ?_
    refine lv_aload_n hx hb dX1_gives_136 rfl (lv_at hl 1 rfl) ?_
    refine lv_bipush (v := 10) hx hb dX1_gives_137 (by decide) ?_
    refine lv_iload_n hx hb dX1_gives_139 rfl (lv_at hl 3 rfl) ?_
    refine lv_iload hx hb dX1_gives_140 (lv_at hl 0 rfl) ?_
    refine dk_Vi (As := [.int 10, .int p1, .int 2]) (rest := []) ⟨hx, hb, hml, hown, hts⟩ (fx_X1_gives_64 l g z I2 10 p1 2 (dkN_lit (x := 10) (10) rfl) dp1 (dkN_lit (x := 2) (2) rfl) (show dkN [(1, 1)] (I2 338 2) from dkN_sub f2_338_2 rfl) (by rw [(show I2 32 = I0 32 from ((funext fun j => hF2 32 j (dkNin_k rfl (dkNin_k rfl dkNin_nil))).trans rfl))]; exact tp0) hO) (cwV 3 hts gX1_gives_X1_gives rfl rfl rfl (by decide +kernel) ⟨Nat.le_of_ble_eq_true rfl, Nat.le_of_ble_eq_true rfl⟩) (dk_at338 hW) rfl hK hT hW hS rfl hl.1 rfl (Nat.le_of_ble_eq_true rfl) dX1_gives_142 ⟨Nat.zero_le _, Nat.zero_le _⟩ (fun v15 I15 H15 L15 hp15 hW hS => ?_)
    obtain ⟨hF15, hO, hc15⟩ := hp15
    have hF := dkF_call hF hF15 rfl
    obtain ⟨_, f15_338_2, f15_339_1, x15_0, xr15, xh15_0, xh15_1, xh15_2, xh15_3, xh15_4, xh15_5, xh15_6, xh15_7, xh15_8, xh15_9, -⟩ := hc15
    have w16 : I2 32 = I0 32 := ((funext fun j => hF2 32 j (dkNin_k rfl (dkNin_k rfl dkNin_nil))).trans rfl)
    have q17 : ((I0 32) (Int32.toNatClampNeg p1)).toInt = (4 : Int) := by have h := x15_0; rw [w16] at h; exact h
    have y18 : I15 338 2 = 2 := by have h := xh15_0; exact h
    have w19 : I2 339 0 = 13 := y4
    have y20 : I15 339 0 = 13 := by have h := xh15_1; rw [w19] at h; exact h
    have y21 : I15 339 1 = 10 := by have h := xh15_2; exact h
    have w22 : I2 339 2 = I0 339 2 := y6
    have y23 : I15 339 2 = I0 339 2 := by have h := xh15_3; rw [w22] at h; exact h
    have w24 : I2 339 3 = I0 339 3 := y7
    have y25 : I15 339 3 = I0 339 3 := by have h := xh15_4; rw [w24] at h; exact h
    have w26 : I2 339 4 = I0 339 4 := y8
    have y27 : I15 339 4 = I0 339 4 := by have h := xh15_5; rw [w26] at h; exact h
    have w28 : I2 339 5 = I0 339 5 := y9
    have y29 : I15 339 5 = I0 339 5 := by have h := xh15_6; rw [w28] at h; exact h
    have w30 : I2 339 6 = I0 339 6 := y10
    have y31 : I15 339 6 = I0 339 6 := by have h := xh15_7; rw [w30] at h; exact h
    have w32 : I2 339 7 = I0 339 7 := y11
    have y33 : I15 339 7 = I0 339 7 := by have h := xh15_8; rw [w32] at h; exact h
    have w34 : I2 339 = dkV (I0 339) 0 13 := y12
    have y35 : I15 339 = dkV (dkV (I0 339) 0 13) 1 10 := by have h := xh15_9; rw [w34] at h; exact h
    have w36 : I2 33 = I0 33 := ((funext fun j => hF2 33 j (dkNin_k rfl (dkNin_k rfl dkNin_nil))).trans rfl)
    have xv15 : v15 = (I0 33) (Int32.toNatClampNeg p1) := by have h := xr15; rw [w36] at h; exact h
    refine lv_bipush (v := 100) hx hb dX1_gives_145 (by decide) ?_
    refine lv_isub hx hb dX1_gives_147 ?_
    refine lv_topi (fun v37 ev37 => ?_)
    have xv37 : v37 = ((I0 33) (Int32.toNatClampNeg p1)) - (100 : Int32) := by rw [ev37, xv15]
    exact W.iret (v := v37) hx hb hr (fun t ht hW9 => ⟨⟨v37, I15, rfl, ⟨hF, hO, ⟨trivial, (show dkN [(2, 2)] (I15 338 2) from dkN_sub f15_338_2 rfl), (show dkN [(13, 13)] (I15 339 0) from dkN_sub (by rw [hF15 339 0 rfl]; exact f2_339_0) rfl), (show dkN [(10, 10)] (I15 339 1) from dkN_sub f15_339_1 rfl), tp0, q17, xv37, y18, y20, y21, y23, y25, y27, y29, y31, y33, y35, trivial⟩⟩, dkW_eq ht hW⟩, hS.F ht⟩) hS.2.2 dX1_gives_148
  ·
    exact (dkN_nil (show dkN [] 1 from dkN_le2 1 (dkN_lit (x := 5) (5) rfl) (dkN_lit (x := 1) (1) rfl) (dkc_nle c1) rfl)).elim
set_option maxHeartbeats 4000000 in
set_option maxRecDepth 100000 in
theorem fx_X1_answer_4 (l : Launch) (g : dkG) (z : Nat) (I0 : dkI) (p0 : Int32) (p1 : Int32) (dp0 : dkN [(0, 5)] p0) (dp1 : dkN [(0, 1)] p1)  (tp0 : (I0 32 (Int32.toNatClampNeg p0)).toInt = (4 : Int)) (hO : dkOk I0) : Met l yX1_answer wsX1_answer (dkR 4) (dkPc g z [.ref (z + 338), .int p0, .int p1] I0) (dkQi g z (fun r I1 => dkF [(338, 338, 2, 2), (339, 339, 0, 3)] I0 I1 ∧ dkOk I1 ∧ ((True ∧ dkN [(1, 1)] p1 ∧ dkN [(4, 4)] (I1 338 2) ∧ dkN [(23, 23)] (I1 339 0) ∧ dkN [(20, 20)] (I1 339 1) ∧ dkN [(13, 13)] (I1 339 2) ∧ dkN [(10, 10)] (I1 339 3) ∧ (I0 32 (Int32.toNatClampNeg p0)).toInt = (4 : Int) ∧ p1.toInt ≠ (0 : Int) ∧ ((I0 32) (Int32.toNatClampNeg p0)).toInt = (4 : Int) ∧ r = p0 - (((I0 33) (Int32.toNatClampNeg p0)) - (100 : Int32)) ∧ I1 338 2 = 4 ∧ I1 339 0 = 23 ∧ I1 339 1 = 20 ∧ I1 339 2 = 13 ∧ I1 339 3 = 10 ∧ I1 339 4 = I0 339 4 ∧ I1 339 5 = I0 339 5 ∧ I1 339 6 = I0 339 6 ∧ I1 339 7 = I0 339 7 ∧ I1 339  = dkV (dkV (dkV (dkV (I0 339) 0 23) 1 20) 2 13) 3 10 ∧ True) ∨ (True ∧ dkN [(0, 0)] p1 ∧ dkN [(2, 2)] (I1 338 2) ∧ dkN [(13, 13)] (I1 339 0) ∧ dkN [(10, 10)] (I1 339 1) ∧ (I0 32 (Int32.toNatClampNeg p0)).toInt = (4 : Int) ∧ p1.toInt = (0 : Int) ∧ ((I0 32) (Int32.toNatClampNeg p0)).toInt = (4 : Int) ∧ r = ((I0 33) (Int32.toNatClampNeg p0)) - (100 : Int32) ∧ I1 338 2 = 2 ∧ I1 339 0 = 13 ∧ I1 339 1 = 10 ∧ I1 339 2 = I0 339 2 ∧ I1 339 3 = I0 339 3 ∧ I1 339 4 = I0 339 4 ∧ I1 339 5 = I0 339 5 ∧ I1 339 6 = I0 339 6 ∧ I1 339 7 = I0 339 7 ∧ I1 339  = dkV (dkV (I0 339) 0 13) 1 10 ∧ True)))) 0 0 (dkA z) := by
  refine Met.ofW (cc := cX1_answer) (maxL := 3) (ret := (some .int)) (by decide) rfl ?_
  intro p e s m args below meth c s₁ B hml hv
  obtain ⟨ha, hW, hK, hT⟩ := hv
  have hx := B.exec
  have hb := B.bytes
  have hr := B.returns
  have hts := atoms_spec (ws := wsX1_answer) B.pre
  have hown : s.vm.findClass RX1 = some m.cls := findClass_of_methodNamed B.named
  have hlocks := B.notSynchronized
  have hS : va_S (dkA z) s.heap s.heap [] := va_S.rf
  have hF : dkF [(338, 338, 2, 2), (339, 339, 0, 3)] I0 I0 := dkF_rf _ _
  have hl := lv_entry ([.ref (z + 338), .int p0, .int p1]) (n := 3) (Nat.le_of_ble_eq_true rfl)
  have hgo : entryFrame m args 3 = entryFrame m ([.ref (z + 338), .int p0, .int p1] : List Value).toArray 3 := by rw [ha]
  rw [hgo, lg_entry_eq]
  generalize (lg_sl ([.ref (z + 338), .int p0, .int p1]) ++ List.replicate (3 - (lg_sl ([.ref (z + 338), .int p0, .int p1])).length) Slot.unset).toArray = ls at hl ⊢
  have hl : lv_has ls 3 [(0, .ref (z + 338)), (1, .int p0), (2, .int p1)] := hl
  refine lv_aload_n hx hb dX1_answer_0 rfl (lv_at hl 0 rfl) ?_
  refine lv_iconst (v := 0) hx hb dX1_answer_1 (by decide) ?_
  refine dk_put (k := 338) hx hb hts iX1_answer_1 tyX1 tyX1_ok nmX1 hown hK hW (dk_at338 hW) hS rfl 2 (by decide) (hts (.fieldLink RX1 19 "DogKings$Asks" "tracedCount" "I") (List.mem_of_getElem? (i := 1) rfl)) rfl rfl (Nat.le_of_ble_eq_true rfl) rfl dX1_answer_2 (fun I1 H1 L1 eI1 hW hS => ?_)
  have eI1 : I1 = dkU I0 338 2 0 := eI1
  have hO := dkO_set hO eI1 (dkN_sub (dkN_lit (x := 0) (0) rfl) rfl)
  have hF := dkF_set hF eI1 rfl
  refine lv_aload_n hx hb dX1_answer_5 rfl (lv_at hl 0 rfl) ?_
  refine lv_iload_n hx hb dX1_answer_6 rfl (lv_at hl 2 rfl) ?_
  refine lv_if_ne (tgt := 18) hx hb dX1_answer_7 (by decide) (fun c2 => ?_) (fun c2 => ?_)
  ·
    have q3 : p1.toInt ≠ (0 : Int) := (dk_ne c2)
    have d4 : dkN [(1, 1)] p1 := dkN_ne1 (0) dp1 (dkN_lit (x := 0) (0) rfl) (dk_ne c2) rfl
    refine lv_aload_n hx hb dX1_answer_18 rfl (lv_at hl 0 rfl) ?_
    refine lv_iload_n hx hb dX1_answer_19 rfl (lv_at hl 1 rfl) ?_
    refine dk_Vi (As := [.int p0]) (rest := [.ref (z + 338)]) ⟨hx, hb, hml, hown, hts⟩ (fx_X1_markBody_4 l g z I1 p0 dp0 (by rw [(show I1 32 = I0 32 from ((by rw [eI1, dkU_n (by decide)] : I1 32 = _).trans rfl))]; exact tp0) hO) (cwV 1 hts gX1_answer_X1_markBody rfl rfl rfl (by decide +kernel) ⟨Nat.le_of_ble_eq_true rfl, Nat.le_of_ble_eq_true rfl⟩) (dk_at338 hW) rfl hK hT hW hS rfl hl.1 rfl (Nat.le_of_ble_eq_true rfl) dX1_answer_20 ⟨Nat.zero_le _, Nat.zero_le _⟩ (fun v5 I5 H5 L5 hp5 hW hS => ?_)
    obtain ⟨hF5, hO, hc5⟩ := hp5
    have hF := dkF_call hF hF5 rfl
    have eI5 : I1 = I5 := (dkF_nil hF5).symm
    subst eI5
    obtain ⟨dv5, x5_0, xr5, -⟩ := hc5
    have w6 : I1 32 = I0 32 := ((by rw [eI1, dkU_n (by decide)] : I1 32 = _).trans rfl)
    have q7 : ((I0 32) (Int32.toNatClampNeg p0)).toInt = (4 : Int) := by have h := x5_0; rw [w6] at h; exact h
    have xv5 : v5 = 23 := by have h := xr5; exact h
    have z8 : v5 = 23 := xv5
    subst z8
    refine lv_iload_n hx hb dX1_answer_23 rfl (lv_at hl 1 rfl) ?_
    refine lv_iconst (v := 1) hx hb dX1_answer_24 (by decide) ?_
    refine dk_Vi (As := [.int 23, .int p0, .int 1]) (rest := []) ⟨hx, hb, hml, hown, hts⟩ (fx_X1_gives_59 l g z I1 23 p0 1 (dkN_lit (x := 23) (23) rfl) dp0 (dkN_lit (x := 1) (1) rfl) (show dkN [(0, 0)] (I1 338 2) from dkN_sub (by rw [hF5 338 2 rfl]; exact (by rw [eI1, dkU_ss]; exact (dkN_lit (x := 0) (0) rfl))) rfl) (by rw [(show I1 32 = I0 32 from ((funext fun j => hF5 32 j dkNin_nil).trans ((by rw [eI1, dkU_n (by decide)] : I1 32 = _).trans rfl)))]; exact tp0) hO) (cwV 3 hts gX1_answer_X1_gives rfl rfl rfl (by decide +kernel) ⟨Nat.le_of_ble_eq_true rfl, Nat.le_of_ble_eq_true rfl⟩) (dk_at338 hW) rfl hK hT hW hS rfl hl.1 rfl (Nat.le_of_ble_eq_true rfl) dX1_answer_25 ⟨Nat.zero_le _, Nat.zero_le _⟩ (fun v9 I9 H9 L9 hp9 hW hS => ?_)
    obtain ⟨hF9, hO, hc9⟩ := hp9
    have hF := dkF_call hF hF9 rfl
    obtain ⟨_, f9_338_2, f9_339_0, f9_339_1, f9_339_2, f9_339_3, x9_0, x9_1, xr9, xh9_0, xh9_1, xh9_2, xh9_3, xh9_4, xh9_5, xh9_6, xh9_7, xh9_8, xh9_9, -⟩ := hc9
    have w10 : I1 32 = I0 32 := ((funext fun j => hF5 32 j dkNin_nil).trans ((by rw [eI1, dkU_n (by decide)] : I1 32 = _).trans rfl))
    have y11 : I9 338 2 = 4 := by have h := xh9_0; exact h
    have y12 : I9 339 0 = 23 := by have h := xh9_1; exact h
    have y13 : I9 339 1 = 20 := by have h := xh9_2; exact h
    have y14 : I9 339 2 = 13 := by have h := xh9_3; exact h
    have y15 : I9 339 3 = 10 := by have h := xh9_4; exact h
    have w16 : I1 339 4 = I0 339 4 := ((hF5 339 4 rfl).trans ((by rw [eI1, dkU_n (by decide)] : I1 339 4 = _).trans rfl))
    have y17 : I9 339 4 = I0 339 4 := by have h := xh9_5; rw [w16] at h; exact h
    have w18 : I1 339 5 = I0 339 5 := ((hF5 339 5 rfl).trans ((by rw [eI1, dkU_n (by decide)] : I1 339 5 = _).trans rfl))
    have y19 : I9 339 5 = I0 339 5 := by have h := xh9_6; rw [w18] at h; exact h
    have w20 : I1 339 6 = I0 339 6 := ((hF5 339 6 rfl).trans ((by rw [eI1, dkU_n (by decide)] : I1 339 6 = _).trans rfl))
    have y21 : I9 339 6 = I0 339 6 := by have h := xh9_7; rw [w20] at h; exact h
    have w22 : I1 339 7 = I0 339 7 := ((hF5 339 7 rfl).trans ((by rw [eI1, dkU_n (by decide)] : I1 339 7 = _).trans rfl))
    have y23 : I9 339 7 = I0 339 7 := by have h := xh9_8; rw [w22] at h; exact h
    have w24 : I1 339 = I0 339 := ((funext fun j => hF5 339 j dkNin_nil).trans ((by rw [eI1, dkU_n (by decide)] : I1 339 = _).trans rfl))
    have y25 : I9 339 = dkV (dkV (dkV (dkV (I0 339) 0 23) 1 20) 2 13) 3 10 := by have h := xh9_9; rw [w24] at h; exact h
    have w26 : I1 33 = I0 33 := ((funext fun j => hF5 33 j dkNin_nil).trans ((by rw [eI1, dkU_n (by decide)] : I1 33 = _).trans rfl))
    have xv9 : v9 = p0 - (((I0 33) (Int32.toNatClampNeg p0)) - (100 : Int32)) := by have h := xr9; rw [w26] at h; exact h
    exact W.iret (v := v9) hx hb hr (fun t ht hW9 => ⟨⟨v9, I9, rfl, ⟨hF, hO, Or.inl ⟨trivial, dkN_sub d4 rfl, (show dkN [(4, 4)] (I9 338 2) from dkN_sub f9_338_2 rfl), (show dkN [(23, 23)] (I9 339 0) from dkN_sub f9_339_0 rfl), (show dkN [(20, 20)] (I9 339 1) from dkN_sub f9_339_1 rfl), (show dkN [(13, 13)] (I9 339 2) from dkN_sub f9_339_2 rfl), (show dkN [(10, 10)] (I9 339 3) from dkN_sub f9_339_3 rfl), tp0, q3, q7, xv9, y11, y12, y13, y14, y15, y17, y19, y21, y23, y25, trivial⟩⟩, dkW_eq ht hW⟩, hS.F ht⟩) hS.2.2 dX1_answer_28
  ·
    have q27 : p1.toInt = (0 : Int) := (congrArg Int32.toInt c2)
    have d28 : dkN [(0, 0)] p1 := dkN_eq1 dp1 (dkN_lit (x := 0) (0) rfl) (congrArg Int32.toInt c2) rfl
    refine lv_aload_n hx hb dX1_answer_10 rfl (lv_at hl 0 rfl) ?_
    refine lv_iload_n hx hb dX1_answer_11 rfl (lv_at hl 1 rfl) ?_
    refine dk_Vi (As := [.int p0]) (rest := [.ref (z + 338)]) ⟨hx, hb, hml, hown, hts⟩ (fx_X1_sizeBody_4 l g z I1 p0 dp0 (by rw [(show I1 32 = I0 32 from ((by rw [eI1, dkU_n (by decide)] : I1 32 = _).trans rfl))]; exact tp0) hO) (cwV 1 hts gX1_answer_X1_sizeBody rfl rfl rfl (by decide +kernel) ⟨Nat.le_of_ble_eq_true rfl, Nat.le_of_ble_eq_true rfl⟩) (dk_at338 hW) rfl hK hT hW hS rfl hl.1 rfl (Nat.le_of_ble_eq_true rfl) dX1_answer_12 ⟨Nat.zero_le _, Nat.zero_le _⟩ (fun v29 I29 H29 L29 hp29 hW hS => ?_)
    obtain ⟨hF29, hO, hc29⟩ := hp29
    have hF := dkF_call hF hF29 rfl
    have eI29 : I1 = I29 := (dkF_nil hF29).symm
    subst eI29
    obtain ⟨dv29, x29_0, xr29, -⟩ := hc29
    have w30 : I1 32 = I0 32 := ((by rw [eI1, dkU_n (by decide)] : I1 32 = _).trans rfl)
    have q31 : ((I0 32) (Int32.toNatClampNeg p0)).toInt = (4 : Int) := by have h := x29_0; rw [w30] at h; exact h
    have xv29 : v29 = 13 := by have h := xr29; exact h
    have z32 : v29 = 13 := xv29
    subst z32
    refine lv_goto (tgt := 23) hx hb dX1_answer_15 (by decide) ?_
    refine lv_iload_n hx hb dX1_answer_23 rfl (lv_at hl 1 rfl) ?_
    refine lv_iconst (v := 1) hx hb dX1_answer_24 (by decide) ?_
    refine dk_Vi (As := [.int 13, .int p0, .int 1]) (rest := []) ⟨hx, hb, hml, hown, hts⟩ (fx_X1_gives_63 l g z I1 13 p0 1 (dkN_lit (x := 13) (13) rfl) dp0 (dkN_lit (x := 1) (1) rfl) (show dkN [(0, 0)] (I1 338 2) from dkN_sub (by rw [hF29 338 2 rfl]; exact (by rw [eI1, dkU_ss]; exact (dkN_lit (x := 0) (0) rfl))) rfl) (by rw [(show I1 32 = I0 32 from ((funext fun j => hF29 32 j dkNin_nil).trans ((by rw [eI1, dkU_n (by decide)] : I1 32 = _).trans rfl)))]; exact tp0) hO) (cwV 3 hts gX1_answer_X1_gives rfl rfl rfl (by decide +kernel) ⟨Nat.le_of_ble_eq_true rfl, Nat.le_of_ble_eq_true rfl⟩) (dk_at338 hW) rfl hK hT hW hS rfl hl.1 rfl (Nat.le_of_ble_eq_true rfl) dX1_answer_25 ⟨Nat.zero_le _, Nat.zero_le _⟩ (fun v33 I33 H33 L33 hp33 hW hS => ?_)
    obtain ⟨hF33, hO, hc33⟩ := hp33
    have hF := dkF_call hF hF33 rfl
    obtain ⟨_, f33_338_2, f33_339_0, f33_339_1, x33_0, x33_1, xr33, xh33_0, xh33_1, xh33_2, xh33_3, xh33_4, xh33_5, xh33_6, xh33_7, xh33_8, xh33_9, -⟩ := hc33
    have w34 : I1 32 = I0 32 := ((funext fun j => hF29 32 j dkNin_nil).trans ((by rw [eI1, dkU_n (by decide)] : I1 32 = _).trans rfl))
    have y35 : I33 338 2 = 2 := by have h := xh33_0; exact h
    have y36 : I33 339 0 = 13 := by have h := xh33_1; exact h
    have y37 : I33 339 1 = 10 := by have h := xh33_2; exact h
    have w38 : I1 339 2 = I0 339 2 := ((hF29 339 2 rfl).trans ((by rw [eI1, dkU_n (by decide)] : I1 339 2 = _).trans rfl))
    have y39 : I33 339 2 = I0 339 2 := by have h := xh33_3; rw [w38] at h; exact h
    have w40 : I1 339 3 = I0 339 3 := ((hF29 339 3 rfl).trans ((by rw [eI1, dkU_n (by decide)] : I1 339 3 = _).trans rfl))
    have y41 : I33 339 3 = I0 339 3 := by have h := xh33_4; rw [w40] at h; exact h
    have w42 : I1 339 4 = I0 339 4 := ((hF29 339 4 rfl).trans ((by rw [eI1, dkU_n (by decide)] : I1 339 4 = _).trans rfl))
    have y43 : I33 339 4 = I0 339 4 := by have h := xh33_5; rw [w42] at h; exact h
    have w44 : I1 339 5 = I0 339 5 := ((hF29 339 5 rfl).trans ((by rw [eI1, dkU_n (by decide)] : I1 339 5 = _).trans rfl))
    have y45 : I33 339 5 = I0 339 5 := by have h := xh33_6; rw [w44] at h; exact h
    have w46 : I1 339 6 = I0 339 6 := ((hF29 339 6 rfl).trans ((by rw [eI1, dkU_n (by decide)] : I1 339 6 = _).trans rfl))
    have y47 : I33 339 6 = I0 339 6 := by have h := xh33_7; rw [w46] at h; exact h
    have w48 : I1 339 7 = I0 339 7 := ((hF29 339 7 rfl).trans ((by rw [eI1, dkU_n (by decide)] : I1 339 7 = _).trans rfl))
    have y49 : I33 339 7 = I0 339 7 := by have h := xh33_8; rw [w48] at h; exact h
    have w50 : I1 339 = I0 339 := ((funext fun j => hF29 339 j dkNin_nil).trans ((by rw [eI1, dkU_n (by decide)] : I1 339 = _).trans rfl))
    have y51 : I33 339 = dkV (dkV (I0 339) 0 13) 1 10 := by have h := xh33_9; rw [w50] at h; exact h
    have w52 : I1 33 = I0 33 := ((funext fun j => hF29 33 j dkNin_nil).trans ((by rw [eI1, dkU_n (by decide)] : I1 33 = _).trans rfl))
    have xv33 : v33 = ((I0 33) (Int32.toNatClampNeg p0)) - (100 : Int32) := by have h := xr33; rw [w52] at h; exact h
    exact W.iret (v := v33) hx hb hr (fun t ht hW9 => ⟨⟨v33, I33, rfl, ⟨hF, hO, Or.inr (⟨trivial, dkN_sub d28 rfl, (show dkN [(2, 2)] (I33 338 2) from dkN_sub f33_338_2 rfl), (show dkN [(13, 13)] (I33 339 0) from dkN_sub f33_339_0 rfl), (show dkN [(10, 10)] (I33 339 1) from dkN_sub f33_339_1 rfl), tp0, q27, q31, xv33, y35, y36, y37, y39, y41, y43, y45, y47, y49, y51, trivial⟩)⟩, dkW_eq ht hW⟩, hS.F ht⟩) hS.2.2 dX1_answer_28
set_option maxHeartbeats 4000000 in
set_option maxRecDepth 100000 in
theorem fx_X5_ask_6 (l : Launch) (g : dkG) (z : Nat) (I0 : dkI) (p0 : Int32) (p1 : Int32)  (tp0 : (I0 32 (Int32.toNatClampNeg p0)).toInt = (4 : Int)) (hO : dkOk I0) : Met l yX5_ask wsX5_ask (dkR 5) (dkPc g z [.ref (z + 0), .int p0, .int p1] I0) (dkQi g z (fun r I1 => dkF [(338, 338, 2, 2), (339, 339, 0, 3)] I0 I1 ∧ dkOk I1 ∧ ((dkN [(-1000001, -1000001)] r ∧ dkN [(-2147483648, -1)] p0 ∧ (I0 32 (Int32.toNatClampNeg p0)).toInt = (4 : Int) ∧ p0.toInt + 1 ≤ (0 : Int) ∧ r = (-1000001) ∧ I1 338 2 = I0 338 2 ∧ I1 339 0 = I0 339 0 ∧ I1 339 1 = I0 339 1 ∧ I1 339 2 = I0 339 2 ∧ I1 339 3 = I0 339 3 ∧ I1 339 4 = I0 339 4 ∧ I1 339 5 = I0 339 5 ∧ I1 339 6 = I0 339 6 ∧ I1 339 7 = I0 339 7 ∧ I1 339  = I0 339 ∧ True) ∨ (dkN [(-1000001, -1000001)] r ∧ dkN [(0, 2147483647)] p0 ∧ (I0 32 (Int32.toNatClampNeg p0)).toInt = (4 : Int) ∧ (0 : Int) + 0 ≤ p0.toInt ∧ (I0 25 11).toInt + 0 ≤ p0.toInt ∧ r = (-1000001) ∧ I1 338 2 = I0 338 2 ∧ I1 339 0 = I0 339 0 ∧ I1 339 1 = I0 339 1 ∧ I1 339 2 = I0 339 2 ∧ I1 339 3 = I0 339 3 ∧ I1 339 4 = I0 339 4 ∧ I1 339 5 = I0 339 5 ∧ I1 339 6 = I0 339 6 ∧ I1 339 7 = I0 339 7 ∧ I1 339  = I0 339 ∧ True) ∨ (dkN [(-1000001, -1000001)] r ∧ dkN [(0, 5)] p0 ∧ dkN [(-2147483648, -1)] p1 ∧ dkN [(1, 6)] (I1 25 11) ∧ (I0 32 (Int32.toNatClampNeg p0)).toInt = (4 : Int) ∧ (0 : Int) + 0 ≤ p0.toInt ∧ p0.toInt + 1 ≤ (I0 25 11).toInt ∧ p1.toInt + 1 ≤ (0 : Int) ∧ r = (-1000001) ∧ I1 338 2 = I0 338 2 ∧ I1 339 0 = I0 339 0 ∧ I1 339 1 = I0 339 1 ∧ I1 339 2 = I0 339 2 ∧ I1 339 3 = I0 339 3 ∧ I1 339 4 = I0 339 4 ∧ I1 339 5 = I0 339 5 ∧ I1 339 6 = I0 339 6 ∧ I1 339 7 = I0 339 7 ∧ I1 339  = I0 339 ∧ True) ∨ (dkN [(-1000001, -1000001)] r ∧ dkN [(0, 5)] p0 ∧ dkN [(2, 2147483647)] p1 ∧ dkN [(1, 6)] (I1 25 11) ∧ (I0 32 (Int32.toNatClampNeg p0)).toInt = (4 : Int) ∧ (0 : Int) + 0 ≤ p0.toInt ∧ p0.toInt + 1 ≤ (I0 25 11).toInt ∧ (0 : Int) + 0 ≤ p1.toInt ∧ (1 : Int) + 1 ≤ p1.toInt ∧ r = (-1000001) ∧ I1 338 2 = I0 338 2 ∧ I1 339 0 = I0 339 0 ∧ I1 339 1 = I0 339 1 ∧ I1 339 2 = I0 339 2 ∧ I1 339 3 = I0 339 3 ∧ I1 339 4 = I0 339 4 ∧ I1 339 5 = I0 339 5 ∧ I1 339 6 = I0 339 6 ∧ I1 339 7 = I0 339 7 ∧ I1 339  = I0 339 ∧ True) ∨ (True ∧ dkN [(0, 5)] p0 ∧ dkN [(1, 1)] p1 ∧ dkN [(1, 6)] (I1 25 11) ∧ dkN [(4, 4)] (I1 338 2) ∧ dkN [(23, 23)] (I1 339 0) ∧ dkN [(20, 20)] (I1 339 1) ∧ dkN [(13, 13)] (I1 339 2) ∧ dkN [(10, 10)] (I1 339 3) ∧ (I0 32 (Int32.toNatClampNeg p0)).toInt = (4 : Int) ∧ (0 : Int) + 0 ≤ p0.toInt ∧ p0.toInt + 1 ≤ (I0 25 11).toInt ∧ (0 : Int) + 0 ≤ p1.toInt ∧ p1.toInt + 0 ≤ (1 : Int) ∧ p1.toInt ≠ (0 : Int) ∧ ((I0 32) (Int32.toNatClampNeg p0)).toInt = (4 : Int) ∧ r = p0 - (((I0 33) (Int32.toNatClampNeg p0)) - (100 : Int32)) ∧ I1 338 2 = 4 ∧ I1 339 0 = 23 ∧ I1 339 1 = 20 ∧ I1 339 2 = 13 ∧ I1 339 3 = 10 ∧ I1 339 4 = I0 339 4 ∧ I1 339 5 = I0 339 5 ∧ I1 339 6 = I0 339 6 ∧ I1 339 7 = I0 339 7 ∧ I1 339  = dkV (dkV (dkV (dkV (I0 339) 0 23) 1 20) 2 13) 3 10 ∧ True) ∨ (True ∧ dkN [(0, 5)] p0 ∧ dkN [(0, 0)] p1 ∧ dkN [(1, 6)] (I1 25 11) ∧ dkN [(2, 2)] (I1 338 2) ∧ dkN [(13, 13)] (I1 339 0) ∧ dkN [(10, 10)] (I1 339 1) ∧ (I0 32 (Int32.toNatClampNeg p0)).toInt = (4 : Int) ∧ (0 : Int) + 0 ≤ p0.toInt ∧ p0.toInt + 1 ≤ (I0 25 11).toInt ∧ (0 : Int) + 0 ≤ p1.toInt ∧ p1.toInt + 0 ≤ (1 : Int) ∧ p1.toInt = (0 : Int) ∧ ((I0 32) (Int32.toNatClampNeg p0)).toInt = (4 : Int) ∧ r = ((I0 33) (Int32.toNatClampNeg p0)) - (100 : Int32) ∧ I1 338 2 = 2 ∧ I1 339 0 = 13 ∧ I1 339 1 = 10 ∧ I1 339 2 = I0 339 2 ∧ I1 339 3 = I0 339 3 ∧ I1 339 4 = I0 339 4 ∧ I1 339 5 = I0 339 5 ∧ I1 339 6 = I0 339 6 ∧ I1 339 7 = I0 339 7 ∧ I1 339  = dkV (dkV (I0 339) 0 13) 1 10 ∧ True)))) 0 0 (dkA z) := by
  refine Met.ofW (cc := cX5_ask) (maxL := 3) (ret := (some .int)) (by decide) rfl ?_
  intro p e s m args below meth c s₁ B hml hv
  obtain ⟨ha, hW, hK, hT⟩ := hv
  have hx := B.exec
  have hb := B.bytes
  have hr := B.returns
  have hts := atoms_spec (ws := wsX5_ask) B.pre
  have hown : s.vm.findClass RX5 = some m.cls := findClass_of_methodNamed B.named
  have hlocks := B.notSynchronized
  have hS : va_S (dkA z) s.heap s.heap [] := va_S.rf
  have hF : dkF [(338, 338, 2, 2), (339, 339, 0, 3)] I0 I0 := dkF_rf _ _
  have hl := lv_entry ([.ref (z + 0), .int p0, .int p1]) (n := 3) (Nat.le_of_ble_eq_true rfl)
  have hgo : entryFrame m args 3 = entryFrame m ([.ref (z + 0), .int p0, .int p1] : List Value).toArray 3 := by rw [ha]
  rw [hgo, lg_entry_eq]
  generalize (lg_sl ([.ref (z + 0), .int p0, .int p1]) ++ List.replicate (3 - (lg_sl ([.ref (z + 0), .int p0, .int p1])).length) Slot.unset).toArray = ls at hl ⊢
  have hl : lv_has ls 3 [(0, .ref (z + 0)), (1, .int p0), (2, .int p1)] := hl
  refine lv_aload_n hx hb dX5_ask_0 rfl (lv_at hl 0 rfl) ?_
  refine lv_iload_n hx hb dX5_ask_1 rfl (lv_at hl 1 rfl) ?_
  refine dk_Vi (As := [.int p0]) (rest := []) ⟨hx, hb, hml, hown, hts⟩ (fx_X5_isDog_1 l g z I0 p0 hO) (cwV 1 hts gX5_ask_X5_isDog rfl rfl rfl (by decide +kernel) ⟨Nat.le_of_ble_eq_true rfl, Nat.le_of_ble_eq_true rfl⟩) (dk_at0 hW) rfl hK hT hW hS rfl hl.1 rfl (Nat.le_of_ble_eq_true rfl) dX5_ask_2 ⟨Nat.zero_le _, Nat.zero_le _⟩ (fun v1 I1 H1 L1 hp1 hW hS => ?_)
  obtain ⟨hF1, hO, hc1⟩ := hp1
  have hF := dkF_call hF hF1 rfl
  have eI1 : I0 = I1 := (dkF_nil hF1).symm
  subst eI1
  rcases hc1 with ⟨dv1, a1_0, x1_0, xr1, -⟩ | hc1
  ·
    have q2 : p0.toInt + 1 ≤ (0 : Int) := x1_0
    have xv1 : v1 = 0 := by have h := xr1; exact h
    have d3 : dkN [(-2147483648, -1)] p0 := dkN_eq1 (dkN_top p0) a1_0 rfl rfl
    have z4 : v1 = 0 := xv1
    subst z4
    refine lv_if_eq (tgt := 28) hx hb dX5_ask_5 (by decide) (fun c5 => ?_) (fun c5 => ?_)
    ·
      refine lv_ldc (v := (-1000001)) hx hb hown (hts (.constant RX5 70 (-1000001)) (List.mem_of_getElem? (i := 2) rfl)) dX5_ask_28 ?_
      exact W.iret (v := (-1000001)) hx hb hr (fun t ht hW9 => ⟨⟨(-1000001), I0, rfl, ⟨hF, hO, Or.inl ⟨dkN_sub (dkN_lit (x := (-1000001)) (-1000001) rfl) rfl, dkN_sub d3 rfl, tp0, q2, rfl, rfl, rfl, rfl, rfl, rfl, rfl, rfl, rfl, rfl, rfl, trivial⟩⟩, dkW_eq ht hW⟩, hS.F ht⟩) hS.2.2 dX5_ask_30
    ·
      exact (dkN_nil (show dkN [] 0 from dkN_ne1 (0) (dkN_lit (x := 0) (0) rfl) (dkN_lit (x := 0) (0) rfl) (dk_ne c5) rfl)).elim
  rcases hc1 with ⟨dv1, a1_0, x1_0, x1_1, xr1, -⟩ | hc1
  ·
    have q6 : (0 : Int) + 0 ≤ p0.toInt := x1_0
    have q7 : (I0 25 11).toInt + 0 ≤ p0.toInt := x1_1
    have xv1 : v1 = 0 := by have h := xr1; exact h
    have d8 : dkN [(0, 2147483647)] p0 := dkN_eq1 (dkN_top p0) a1_0 rfl rfl
    have z9 : v1 = 0 := xv1
    subst z9
    refine lv_if_eq (tgt := 28) hx hb dX5_ask_5 (by decide) (fun c10 => ?_) (fun c10 => ?_)
    ·
      refine lv_ldc (v := (-1000001)) hx hb hown (hts (.constant RX5 70 (-1000001)) (List.mem_of_getElem? (i := 2) rfl)) dX5_ask_28 ?_
      exact W.iret (v := (-1000001)) hx hb hr (fun t ht hW9 => ⟨⟨(-1000001), I0, rfl, ⟨hF, hO, Or.inr (Or.inl ⟨dkN_sub (dkN_lit (x := (-1000001)) (-1000001) rfl) rfl, dkN_sub d8 rfl, tp0, q6, q7, rfl, rfl, rfl, rfl, rfl, rfl, rfl, rfl, rfl, rfl, rfl, trivial⟩)⟩, dkW_eq ht hW⟩, hS.F ht⟩) hS.2.2 dX5_ask_30
    ·
      exact (dkN_nil (show dkN [] 0 from dkN_ne1 (0) (dkN_lit (x := 0) (0) rfl) (dkN_lit (x := 0) (0) rfl) (dk_ne c10) rfl)).elim
  ·
    obtain ⟨dv1, a1_0, f1_25_11, x1_0, x1_1, xr1, -⟩ := hc1
    have q11 : (0 : Int) + 0 ≤ p0.toInt := x1_0
    have q12 : p0.toInt + 1 ≤ (I0 25 11).toInt := x1_1
    have xv1 : v1 = 1 := by have h := xr1; exact h
    have d13 : dkN [(0, 5)] p0 := dkN_eq1 (dkN_top p0) a1_0 rfl rfl
    have z14 : v1 = 1 := xv1
    subst z14
    refine lv_if_eq (tgt := 28) hx hb dX5_ask_5 (by decide) (fun c15 => ?_) (fun c15 => ?_)
    ·
      exact (dkN_nil (show dkN [] 1 from dkN_eq1 (dkN_lit (x := 1) (1) rfl) (dkN_lit (x := 0) (0) rfl) (congrArg Int32.toInt c15) rfl)).elim
    ·
      refine lv_iload_n hx hb dX5_ask_8 rfl (lv_at hl 2 rfl) ?_
      refine lv_iconst (v := 1) hx hb dX5_ask_9 (by decide) ?_
      refine dk_Si (As := [.int p1, .int 1]) (rest := []) ⟨hx, hb, hml, hown, hts⟩ (fx_X5_isUpTo_13 l g z I0 p1 1 (dkN_lit (x := 1) (1) rfl) hO) (va_cwS 2 hts gX5_ask_X5_isUpTo rfl rfl rfl (by decide +kernel) ⟨Nat.le_of_ble_eq_true rfl, Nat.le_of_ble_eq_true rfl⟩) hK hT hW hS rfl hl.1 rfl (Nat.le_of_ble_eq_true rfl) dX5_ask_10 ⟨Nat.zero_le _, Nat.zero_le _⟩ (fun v16 I16 H16 L16 hp16 hW hS => ?_)
      obtain ⟨hF16, hO, hc16⟩ := hp16
      have hF := dkF_call hF hF16 rfl
      have eI16 : I0 = I16 := (dkF_nil hF16).symm
      subst eI16
      rcases hc16 with ⟨dv16, a16_0, x16_0, xr16, -⟩ | hc16
      ·
        have q17 : p1.toInt + 1 ≤ (0 : Int) := x16_0
        have xv16 : v16 = 0 := by have h := xr16; exact h
        have d18 : dkN [(-2147483648, -1)] p1 := dkN_eq1 (dkN_top p1) a16_0 rfl rfl
        have z19 : v16 = 0 := xv16
        subst z19
        refine lv_if_eq (tgt := 28) hx hb dX5_ask_13 (by decide) (fun c20 => ?_) (fun c20 => ?_)
        ·
          refine lv_ldc (v := (-1000001)) hx hb hown (hts (.constant RX5 70 (-1000001)) (List.mem_of_getElem? (i := 2) rfl)) dX5_ask_28 ?_
          exact W.iret (v := (-1000001)) hx hb hr (fun t ht hW9 => ⟨⟨(-1000001), I0, rfl, ⟨hF, hO, Or.inr (Or.inr (Or.inl ⟨dkN_sub (dkN_lit (x := (-1000001)) (-1000001) rfl) rfl, dkN_sub d13 rfl, dkN_sub d18 rfl, (show dkN [(1, 6)] (I0 25 11) from dkN_sub (by rw [hF16 25 11 rfl]; exact f1_25_11) rfl), tp0, q11, q12, q17, rfl, rfl, rfl, rfl, rfl, rfl, rfl, rfl, rfl, rfl, rfl, trivial⟩))⟩, dkW_eq ht hW⟩, hS.F ht⟩) hS.2.2 dX5_ask_30
        ·
          exact (dkN_nil (show dkN [] 0 from dkN_ne1 (0) (dkN_lit (x := 0) (0) rfl) (dkN_lit (x := 0) (0) rfl) (dk_ne c20) rfl)).elim
      rcases hc16 with ⟨dv16, a16_0, x16_0, x16_1, xr16, -⟩ | hc16
      ·
        have q21 : (0 : Int) + 0 ≤ p1.toInt := x16_0
        have q22 : (1 : Int) + 1 ≤ p1.toInt := x16_1
        have xv16 : v16 = 0 := by have h := xr16; exact h
        have d23 : dkN [(2, 2147483647)] p1 := dkN_eq1 (dkN_top p1) a16_0 rfl rfl
        have z24 : v16 = 0 := xv16
        subst z24
        refine lv_if_eq (tgt := 28) hx hb dX5_ask_13 (by decide) (fun c25 => ?_) (fun c25 => ?_)
        ·
          refine lv_ldc (v := (-1000001)) hx hb hown (hts (.constant RX5 70 (-1000001)) (List.mem_of_getElem? (i := 2) rfl)) dX5_ask_28 ?_
          exact W.iret (v := (-1000001)) hx hb hr (fun t ht hW9 => ⟨⟨(-1000001), I0, rfl, ⟨hF, hO, Or.inr (Or.inr (Or.inr (Or.inl ⟨dkN_sub (dkN_lit (x := (-1000001)) (-1000001) rfl) rfl, dkN_sub d13 rfl, dkN_sub d23 rfl, (show dkN [(1, 6)] (I0 25 11) from dkN_sub (by rw [hF16 25 11 rfl]; exact f1_25_11) rfl), tp0, q11, q12, q21, q22, rfl, rfl, rfl, rfl, rfl, rfl, rfl, rfl, rfl, rfl, rfl, trivial⟩)))⟩, dkW_eq ht hW⟩, hS.F ht⟩) hS.2.2 dX5_ask_30
        ·
          exact (dkN_nil (show dkN [] 0 from dkN_ne1 (0) (dkN_lit (x := 0) (0) rfl) (dkN_lit (x := 0) (0) rfl) (dk_ne c25) rfl)).elim
      ·
        obtain ⟨dv16, a16_0, x16_0, x16_1, xr16, -⟩ := hc16
        have q26 : (0 : Int) + 0 ≤ p1.toInt := x16_0
        have q27 : p1.toInt + 0 ≤ (1 : Int) := x16_1
        have xv16 : v16 = 1 := by have h := xr16; exact h
        have d28 : dkN [(0, 1)] p1 := dkN_eq1 (dkN_top p1) a16_0 rfl rfl
        have z29 : v16 = 1 := xv16
        subst z29
        refine lv_if_eq (tgt := 28) hx hb dX5_ask_13 (by decide) (fun c30 => ?_) (fun c30 => ?_)
        ·
          exact (dkN_nil (show dkN [] 1 from dkN_eq1 (dkN_lit (x := 1) (1) rfl) (dkN_lit (x := 0) (0) rfl) (congrArg Int32.toInt c30) rfl)).elim
        ·
          refine lv_aload_n hx hb dX5_ask_16 rfl (lv_at hl 0 rfl) ?_
          refine dk_get (k := 0) hx hb hts iX5_ask_5 hown hK (dk_at0 hW) rfl 9 (by decide) (hts (.fieldLink RX5 58 "DogKings" "asks" "LDogKings$Asks;") (List.mem_of_getElem? (i := 1) rfl)) rfl dX5_ask_17 ?_
          refine lv_iload_n hx hb dX5_ask_20 rfl (lv_at hl 1 rfl) ?_
          refine lv_iload_n hx hb dX5_ask_21 rfl (lv_at hl 2 rfl) ?_
          refine dk_Vi (As := [.int p0, .int p1]) (rest := []) ⟨hx, hb, hml, hown, hts⟩ (fx_X1_answer_4 l g z I0 p0 p1 d13 d28 tp0 hO) (cwV 2 hts gX5_ask_X1_answer rfl rfl rfl (by decide +kernel) ⟨Nat.le_of_ble_eq_true rfl, Nat.le_of_ble_eq_true rfl⟩) (dk_at338 hW) rfl hK hT hW hS rfl hl.1 rfl (Nat.le_of_ble_eq_true rfl) dX5_ask_22 ⟨Nat.zero_le _, Nat.zero_le _⟩ (fun v31 I31 H31 L31 hp31 hW hS => ?_)
          obtain ⟨hF31, hO, hc31⟩ := hp31
          have hF := dkF_call hF hF31 rfl
          rcases hc31 with ⟨_, a31_1, f31_338_2, f31_339_0, f31_339_1, f31_339_2, f31_339_3, x31_0, x31_1, x31_2, xr31, xh31_0, xh31_1, xh31_2, xh31_3, xh31_4, xh31_5, xh31_6, xh31_7, xh31_8, xh31_9, -⟩ | hc31
          ·
            have q32 : p1.toInt ≠ (0 : Int) := x31_1
            have q33 : ((I0 32) (Int32.toNatClampNeg p0)).toInt = (4 : Int) := x31_2
            have y34 : I31 338 2 = 4 := by have h := xh31_0; exact h
            have y35 : I31 339 0 = 23 := by have h := xh31_1; exact h
            have y36 : I31 339 1 = 20 := by have h := xh31_2; exact h
            have y37 : I31 339 2 = 13 := by have h := xh31_3; exact h
            have y38 : I31 339 3 = 10 := by have h := xh31_4; exact h
            have y39 : I31 339 4 = I0 339 4 := by have h := xh31_5; exact h
            have y40 : I31 339 5 = I0 339 5 := by have h := xh31_6; exact h
            have y41 : I31 339 6 = I0 339 6 := by have h := xh31_7; exact h
            have y42 : I31 339 7 = I0 339 7 := by have h := xh31_8; exact h
            have y43 : I31 339 = dkV (dkV (dkV (dkV (I0 339) 0 23) 1 20) 2 13) 3 10 := by have h := xh31_9; exact h
            have xv31 : v31 = p0 - (((I0 33) (Int32.toNatClampNeg p0)) - (100 : Int32)) := by have h := xr31; exact h
            have d44 : dkN [(1, 1)] p1 := dkN_eq1 d28 a31_1 rfl rfl
            refine lv_goto (tgt := 30) hx hb dX5_ask_25 (by decide) ?_
            exact W.iret (v := v31) hx hb hr (fun t ht hW9 => ⟨⟨v31, I31, rfl, ⟨hF, hO, Or.inr (Or.inr (Or.inr (Or.inr (Or.inl ⟨trivial, dkN_sub d13 rfl, dkN_sub d44 rfl, (show dkN [(1, 6)] (I31 25 11) from dkN_sub (by rw [hF31 25 11 rfl]; exact (by rw [hF16 25 11 rfl]; exact f1_25_11)) rfl), (show dkN [(4, 4)] (I31 338 2) from dkN_sub f31_338_2 rfl), (show dkN [(23, 23)] (I31 339 0) from dkN_sub f31_339_0 rfl), (show dkN [(20, 20)] (I31 339 1) from dkN_sub f31_339_1 rfl), (show dkN [(13, 13)] (I31 339 2) from dkN_sub f31_339_2 rfl), (show dkN [(10, 10)] (I31 339 3) from dkN_sub f31_339_3 rfl), tp0, q11, q12, q26, q27, q32, q33, xv31, y34, y35, y36, y37, y38, y39, y40, y41, y42, y43, trivial⟩))))⟩, dkW_eq ht hW⟩, hS.F ht⟩) hS.2.2 dX5_ask_30
          ·
            obtain ⟨_, a31_1, f31_338_2, f31_339_0, f31_339_1, x31_0, x31_1, x31_2, xr31, xh31_0, xh31_1, xh31_2, xh31_3, xh31_4, xh31_5, xh31_6, xh31_7, xh31_8, xh31_9, -⟩ := hc31
            have q45 : p1.toInt = (0 : Int) := x31_1
            have q46 : ((I0 32) (Int32.toNatClampNeg p0)).toInt = (4 : Int) := x31_2
            have y47 : I31 338 2 = 2 := by have h := xh31_0; exact h
            have y48 : I31 339 0 = 13 := by have h := xh31_1; exact h
            have y49 : I31 339 1 = 10 := by have h := xh31_2; exact h
            have y50 : I31 339 2 = I0 339 2 := by have h := xh31_3; exact h
            have y51 : I31 339 3 = I0 339 3 := by have h := xh31_4; exact h
            have y52 : I31 339 4 = I0 339 4 := by have h := xh31_5; exact h
            have y53 : I31 339 5 = I0 339 5 := by have h := xh31_6; exact h
            have y54 : I31 339 6 = I0 339 6 := by have h := xh31_7; exact h
            have y55 : I31 339 7 = I0 339 7 := by have h := xh31_8; exact h
            have y56 : I31 339 = dkV (dkV (I0 339) 0 13) 1 10 := by have h := xh31_9; exact h
            have xv31 : v31 = ((I0 33) (Int32.toNatClampNeg p0)) - (100 : Int32) := by have h := xr31; exact h
            have d57 : dkN [(0, 0)] p1 := dkN_eq1 d28 a31_1 rfl rfl
            refine lv_goto (tgt := 30) hx hb dX5_ask_25 (by decide) ?_
            exact W.iret (v := v31) hx hb hr (fun t ht hW9 => ⟨⟨v31, I31, rfl, ⟨hF, hO, Or.inr (Or.inr (Or.inr (Or.inr (Or.inr (⟨trivial, dkN_sub d13 rfl, dkN_sub d57 rfl, (show dkN [(1, 6)] (I31 25 11) from dkN_sub (by rw [hF31 25 11 rfl]; exact (by rw [hF16 25 11 rfl]; exact f1_25_11)) rfl), (show dkN [(2, 2)] (I31 338 2) from dkN_sub f31_338_2 rfl), (show dkN [(13, 13)] (I31 339 0) from dkN_sub f31_339_0 rfl), (show dkN [(10, 10)] (I31 339 1) from dkN_sub f31_339_1 rfl), tp0, q11, q12, q26, q27, q45, q46, xv31, y47, y48, y49, y50, y51, y52, y53, y54, y55, y56, trivial⟩)))))⟩, dkW_eq ht hW⟩, hS.F ht⟩) hS.2.2 dX5_ask_30
