set_option maxHeartbeats 4000000 in
set_option maxRecDepth 100000 in
theorem fx_X1_gives_43 (l : Launch) (g : dkG) (z : Nat) (I0 : dkI) (p0 : Int32) (p1 : Int32) (p2 : Int32) (dp0 : dkN [(21, 21)] p0) (dp1 : dkN [(0, 5)] p1) (dp2 : dkN [(2, 2)] p2) (np0 : dkN [(1, 1)] (I0 338 2))  (tp0 : (I0 32 (Int32.toNatClampNeg p1)).toInt = (2 : Int)) (hO : dkOk I0) : Met l yX1_gives wsX1_gives (dkR 2) (dkPc g z [.ref (z + 338), .int p0, .int p1, .int p2] I0) (dkQi g z (fun r I1 => dkF [(338, 338, 2, 2), (339, 339, 1, 2)] I0 I1 ∧ dkOk I1 ∧ ((True ∧ dkN [(3, 3)] (I1 338 2) ∧ dkN [(21, 21)] (I1 339 1) ∧ dkN [(20, 20)] (I1 339 2) ∧ (I0 32 (Int32.toNatClampNeg p1)).toInt = (2 : Int) ∧ ((I0 32) (Int32.toNatClampNeg p1)).toInt = (2 : Int) ∧ r = p1 + (I0 34 (Int32.toNatClampNeg p1)) ∧ I1 338 2 = 3 ∧ I1 339 0 = I0 339 0 ∧ I1 339 1 = 21 ∧ I1 339 2 = 20 ∧ I1 339 3 = I0 339 3 ∧ I1 339 4 = I0 339 4 ∧ I1 339 5 = I0 339 5 ∧ I1 339 6 = I0 339 6 ∧ I1 339 7 = I0 339 7 ∧ I1 339  = dkV (dkV (I0 339) 1 21) 2 20 ∧ True)))) 0 0 (dkA z) := by
  obtain rfl : p0 = 21 := dkN_is dp0 rfl
  obtain rfl : p2 = 2 := dkN_is dp2 rfl
  refine Met.ofW (cc := cX1_gives) (maxL := 5) (ret := (some .int)) (by decide) rfl ?_
  intro p e s m args below meth c s₁ B hml hv
  obtain ⟨ha, hW, hK, hT⟩ := hv
  have hx := B.exec
  have hb := B.bytes
  have hr := B.returns
  have hts := atoms_spec (ws := wsX1_gives) B.pre
  have hown : s.vm.findClass RX1 = some m.cls := findClass_of_methodNamed B.named
  have hlocks := B.notSynchronized
  have hS : va_S (dkA z) s.heap s.heap [] := va_S.rf
  have hF : dkF [(338, 338, 2, 2), (339, 339, 1, 2)] I0 I0 := dkF_rf _ _
  have hl := lv_entry ([.ref (z + 338), .int 21, .int p1, .int 2]) (n := 5) (Nat.le_of_ble_eq_true rfl)
  have hgo : entryFrame m args 5 = entryFrame m ([.ref (z + 338), .int 21, .int p1, .int 2] : List Value).toArray 5 := by rw [ha]
  rw [hgo, lg_entry_eq]
  generalize (lg_sl ([.ref (z + 338), .int 21, .int p1, .int 2]) ++ List.replicate (5 - (lg_sl ([.ref (z + 338), .int 21, .int p1, .int 2])).length) Slot.unset).toArray = ls at hl ⊢
  have hl : lv_has ls 5 [(0, .ref (z + 338)), (1, .int 21), (2, .int p1), (3, .int 2)] := hl
  refine lv_iload_n hx hb dX1_gives_0 rfl (lv_at hl 3 rfl) ?_
  refine lv_iconst (v := 5) hx hb dX1_gives_1 (by decide) ?_
  refine lv_icmp_le (tgt := 8) hx hb dX1_gives_2 (by decide) (fun c1 => ?_) (fun c1 => ?_)
  ·
    refine lv_aload_n hx hb dX1_gives_8 rfl (lv_at hl 0 rfl) ?_
    refine lv_iload_n hx hb dX1_gives_9 rfl (lv_at hl 1 rfl) ?_
    refine dk_Vv (As := [.int 21]) (rest := []) ⟨hx, hb, hml, hown, hts⟩ (fx_X1_begins_15 l g z I0 21 (dkN_lit (x := 21) (21) rfl) (show dkN [(1, 1)] (I0 338 2) from dkN_sub np0 rfl) hO) (cwV 1 hts gX1_gives_X1_begins rfl rfl rfl (by decide +kernel) ⟨Nat.le_of_ble_eq_true rfl, Nat.le_of_ble_eq_true rfl⟩) (dk_at338 hW) rfl hK hT hW hS rfl hl.1 rfl (Nat.le_of_ble_eq_true rfl) dX1_gives_10 ⟨Nat.zero_le _, Nat.zero_le _⟩ (fun I2 H2 L2 hp2 hW hS => ?_)
    obtain ⟨hF2, hO, hc2⟩ := hp2
    have hF := dkF_call hF hF2 rfl
    obtain ⟨f2_338_2, f2_339_1, xh2_0, xh2_1, xh2_2, xh2_3, xh2_4, xh2_5, xh2_6, xh2_7, xh2_8, xh2_9, -⟩ := hc2
    have y3 : I2 338 2 = 2 := by have h := xh2_0; exact h
    have y4 : I2 339 0 = I0 339 0 := by have h := xh2_1; exact h
    have y5 : I2 339 1 = 21 := by have h := xh2_2; exact h
    have y6 : I2 339 2 = I0 339 2 := by have h := xh2_3; exact h
    have y7 : I2 339 3 = I0 339 3 := by have h := xh2_4; exact h
    have y8 : I2 339 4 = I0 339 4 := by have h := xh2_5; exact h
    have y9 : I2 339 5 = I0 339 5 := by have h := xh2_6; exact h
    have y10 : I2 339 6 = I0 339 6 := by have h := xh2_7; exact h
    have y11 : I2 339 7 = I0 339 7 := by have h := xh2_8; exact h
    have y12 : I2 339 = dkV (I0 339) 1 21 := by have h := xh2_9; exact h
    refine lv_iload_n hx hb dX1_gives_13 rfl (lv_at hl 3 rfl) ?_
    refine lv_iconst (v := 1) hx hb dX1_gives_14 (by decide) ?_
    refine lv_iadd hx hb dX1_gives_15 ?_
    refine lv_topi (fun v13 ev13 => ?_)
    have dv13 : dkN [(3, 3)] v13 := by rw [ev13]; exact dkN_add (dkN_lit (x := 2) (2) rfl) (dkN_lit (x := 1) (1) rfl) rfl
    have xv13 : v13 = 3 := by rw [ev13]; rfl
    subst xv13
    refine lv_istore (lv' := [(4, .int 3), (0, .ref (z + 338)), (1, .int 21), (2, .int p1), (3, .int 2)]) hx hb dX1_gives_16 hl (by decide) rfl (fun ls hl => ?_)
    refine lv_iload_n hx hb dX1_gives_18 rfl (lv_at hl 2 rfl) ?_
    have qc14 : (21 : Int32).toInt = 21 := rfl
    refine lv_tableIn (tgt := 163) hx hb dX1_gives_19 (by rw [qc14]; decide) (by rw [qc14]; decide) (by rw [qc14]; rfl) (by decide) ?_
    refine lv_aload_n hx hb dX1_gives_163 rfl (lv_at hl 1 rfl) ?_
    refine lv_bipush (v := 20) hx hb dX1_gives_164 (by decide) ?_
    refine lv_iload_n hx hb dX1_gives_166 rfl (lv_at hl 3 rfl) ?_
    refine lv_iload hx hb dX1_gives_167 (lv_at hl 0 rfl) ?_
    refine dk_Vi (As := [.int 20, .int p1, .int 3]) (rest := []) ⟨hx, hb, hml, hown, hts⟩ (fx_X1_gives_44 l g z I2 20 p1 3 (dkN_lit (x := 20) (20) rfl) dp1 (dkN_lit (x := 3) (3) rfl) (show dkN [(2, 2)] (I2 338 2) from dkN_sub f2_338_2 rfl) (by rw [(show I2 32 = I0 32 from ((funext fun j => hF2 32 j (dkNin_k rfl (dkNin_k rfl dkNin_nil))).trans rfl))]; exact tp0) hO) (cwV 3 hts gX1_gives_X1_gives rfl rfl rfl (by decide +kernel) ⟨Nat.le_of_ble_eq_true rfl, Nat.le_of_ble_eq_true rfl⟩) (dk_at338 hW) rfl hK hT hW hS rfl hl.1 rfl (Nat.le_of_ble_eq_true rfl) dX1_gives_169 ⟨Nat.zero_le _, Nat.zero_le _⟩ (fun v15 I15 H15 L15 hp15 hW hS => ?_)
    obtain ⟨hF15, hO, hc15⟩ := hp15
    have hF := dkF_call hF hF15 rfl
    obtain ⟨dv15, f15_338_2, f15_339_2, x15_0, xr15, xh15_0, xh15_1, xh15_2, xh15_3, xh15_4, xh15_5, xh15_6, xh15_7, xh15_8, xh15_9, -⟩ := hc15
    have w16 : I2 32 = I0 32 := ((funext fun j => hF2 32 j (dkNin_k rfl (dkNin_k rfl dkNin_nil))).trans rfl)
    have q17 : ((I0 32) (Int32.toNatClampNeg p1)).toInt = (2 : Int) := by have h := x15_0; rw [w16] at h; exact h
    have y18 : I15 338 2 = 3 := by have h := xh15_0; exact h
    have w19 : I2 339 0 = I0 339 0 := y4
    have y20 : I15 339 0 = I0 339 0 := by have h := xh15_1; rw [w19] at h; exact h
    have w21 : I2 339 1 = 21 := y5
    have y22 : I15 339 1 = 21 := by have h := xh15_2; rw [w21] at h; exact h
    have y23 : I15 339 2 = 20 := by have h := xh15_3; exact h
    have w24 : I2 339 3 = I0 339 3 := y7
    have y25 : I15 339 3 = I0 339 3 := by have h := xh15_4; rw [w24] at h; exact h
    have w26 : I2 339 4 = I0 339 4 := y8
    have y27 : I15 339 4 = I0 339 4 := by have h := xh15_5; rw [w26] at h; exact h
    have w28 : I2 339 5 = I0 339 5 := y9
    have y29 : I15 339 5 = I0 339 5 := by have h := xh15_6; rw [w28] at h; exact h
    have w30 : I2 339 6 = I0 339 6 := y10
    have y31 : I15 339 6 = I0 339 6 := by have h := xh15_7; rw [w30] at h; exact h
    have w32 : I2 339 7 = I0 339 7 := y11
    have y33 : I15 339 7 = I0 339 7 := by have h := xh15_8; rw [w32] at h; exact h
    have w34 : I2 339 = dkV (I0 339) 1 21 := y12
    have y35 : I15 339 = dkV (dkV (I0 339) 1 21) 2 20 := by have h := xh15_9; rw [w34] at h; exact h
    have xv15 : v15 = p1 := by have h := xr15; exact h
    refine lv_aload_n hx hb dX1_gives_172 rfl (lv_at hl 1 rfl) ?_
    refine dk_get (k := 338) hx hb hts iX1_gives_1 hown hK (dk_at338 hW) rfl 0 (by decide) (hts (.fieldLink RX1 15 "DogKings$Asks" "now" "LDogKings$Town;") (List.mem_of_getElem? (i := 2) rfl)) rfl dX1_gives_173 ?_
    refine dk_get (k := 25) hx hb hts iX1_gives_4 hown hK (dk_at25 hW) rfl 14 (by decide) (hts (.fieldLink RX1 54 "DogKings$Town" "dogAt" "[I") (List.mem_of_getElem? (i := 4) rfl)) rfl dX1_gives_176 ?_
    refine lv_iload_n hx hb dX1_gives_179 rfl (lv_at hl 3 rfl) ?_
    refine dk_ild (k := 34) hx hb hK (dk_at34 hW) (dkN_in (n := 6) dp1 rfl) dX1_gives_180 ?_
    refine lv_topi (fun v36 ev36 => ?_)
    have xv36 : v36 = I0 34 (Int32.toNatClampNeg p1) := ev36.trans ((hF15 34 (Int32.toNatClampNeg p1) (dkNin_k rfl (dkNin_k rfl dkNin_nil))).trans ((hF2 34 (Int32.toNatClampNeg p1) (dkNin_k rfl (dkNin_k rfl dkNin_nil))).trans rfl))
    refine lv_iadd hx hb dX1_gives_181 ?_
    refine lv_topi (fun v37 ev37 => ?_)
    have xv37 : v37 = p1 + (I0 34 (Int32.toNatClampNeg p1)) := by rw [ev37, xv15, xv36]
    exact W.iret (v := v37) hx hb hr (fun t ht hW9 => ⟨⟨v37, I15, rfl, ⟨hF, hO, ⟨trivial, (show dkN [(3, 3)] (I15 338 2) from dkN_sub f15_338_2 rfl), (show dkN [(21, 21)] (I15 339 1) from dkN_sub (by rw [hF15 339 1 rfl]; exact f2_339_1) rfl), (show dkN [(20, 20)] (I15 339 2) from dkN_sub f15_339_2 rfl), tp0, q17, xv37, y18, y20, y22, y23, y25, y27, y29, y31, y33, y35, trivial⟩⟩, dkW_eq ht hW⟩, hS.F ht⟩) hS.2.2 dX1_gives_182
  ·
    exact (dkN_nil (show dkN [] 2 from dkN_le2 1 (dkN_lit (x := 5) (5) rfl) (dkN_lit (x := 2) (2) rfl) (dkc_nle c1) rfl)).elim
set_option maxHeartbeats 4000000 in
set_option maxRecDepth 100000 in
theorem fx_X1_gives_42 (l : Launch) (g : dkG) (z : Nat) (I0 : dkI) (p0 : Int32) (p1 : Int32) (p2 : Int32) (dp0 : dkN [(24, 24)] p0) (dp1 : dkN [(0, 5)] p1) (dp2 : dkN [(1, 1)] p2) (np0 : dkN [(0, 0)] (I0 338 2))  (tp0 : (I0 32 (Int32.toNatClampNeg p1)).toInt = (2 : Int)) (hO : dkOk I0) : Met l yX1_gives wsX1_gives (dkR 3) (dkPc g z [.ref (z + 338), .int p0, .int p1, .int p2] I0) (dkQi g z (fun r I1 => dkF [(338, 338, 2, 2), (339, 339, 0, 2)] I0 I1 ∧ dkOk I1 ∧ ((True ∧ dkN [(3, 3)] (I1 338 2) ∧ dkN [(24, 24)] (I1 339 0) ∧ dkN [(21, 21)] (I1 339 1) ∧ dkN [(20, 20)] (I1 339 2) ∧ (I0 32 (Int32.toNatClampNeg p1)).toInt = (2 : Int) ∧ ((I0 32) (Int32.toNatClampNeg p1)).toInt = (2 : Int) ∧ r = (2 : Int32) * (p1 + ((I0 34) (Int32.toNatClampNeg p1))) ∧ I1 338 2 = 3 ∧ I1 339 0 = 24 ∧ I1 339 1 = 21 ∧ I1 339 2 = 20 ∧ I1 339 3 = I0 339 3 ∧ I1 339 4 = I0 339 4 ∧ I1 339 5 = I0 339 5 ∧ I1 339 6 = I0 339 6 ∧ I1 339 7 = I0 339 7 ∧ I1 339  = dkV (dkV (dkV (I0 339) 0 24) 1 21) 2 20 ∧ True)))) 0 0 (dkA z) := by
  obtain rfl : p0 = 24 := dkN_is dp0 rfl
  obtain rfl : p2 = 1 := dkN_is dp2 rfl
  refine Met.ofW (cc := cX1_gives) (maxL := 5) (ret := (some .int)) (by decide) rfl ?_
  intro p e s m args below meth c s₁ B hml hv
  obtain ⟨ha, hW, hK, hT⟩ := hv
  have hx := B.exec
  have hb := B.bytes
  have hr := B.returns
  have hts := atoms_spec (ws := wsX1_gives) B.pre
  have hown : s.vm.findClass RX1 = some m.cls := findClass_of_methodNamed B.named
  have hlocks := B.notSynchronized
  have hS : va_S (dkA z) s.heap s.heap [] := va_S.rf
  have hF : dkF [(338, 338, 2, 2), (339, 339, 0, 2)] I0 I0 := dkF_rf _ _
  have hl := lv_entry ([.ref (z + 338), .int 24, .int p1, .int 1]) (n := 5) (Nat.le_of_ble_eq_true rfl)
  have hgo : entryFrame m args 5 = entryFrame m ([.ref (z + 338), .int 24, .int p1, .int 1] : List Value).toArray 5 := by rw [ha]
  rw [hgo, lg_entry_eq]
  generalize (lg_sl ([.ref (z + 338), .int 24, .int p1, .int 1]) ++ List.replicate (5 - (lg_sl ([.ref (z + 338), .int 24, .int p1, .int 1])).length) Slot.unset).toArray = ls at hl ⊢
  have hl : lv_has ls 5 [(0, .ref (z + 338)), (1, .int 24), (2, .int p1), (3, .int 1)] := hl
  refine lv_iload_n hx hb dX1_gives_0 rfl (lv_at hl 3 rfl) ?_
  refine lv_iconst (v := 5) hx hb dX1_gives_1 (by decide) ?_
  refine lv_icmp_le (tgt := 8) hx hb dX1_gives_2 (by decide) (fun c1 => ?_) (fun c1 => ?_)
  ·
    refine lv_aload_n hx hb dX1_gives_8 rfl (lv_at hl 0 rfl) ?_
    refine lv_iload_n hx hb dX1_gives_9 rfl (lv_at hl 1 rfl) ?_
    refine dk_Vv (As := [.int 24]) (rest := []) ⟨hx, hb, hml, hown, hts⟩ (fx_X1_begins_14 l g z I0 24 (dkN_lit (x := 24) (24) rfl) (show dkN [(0, 0)] (I0 338 2) from dkN_sub np0 rfl) hO) (cwV 1 hts gX1_gives_X1_begins rfl rfl rfl (by decide +kernel) ⟨Nat.le_of_ble_eq_true rfl, Nat.le_of_ble_eq_true rfl⟩) (dk_at338 hW) rfl hK hT hW hS rfl hl.1 rfl (Nat.le_of_ble_eq_true rfl) dX1_gives_10 ⟨Nat.zero_le _, Nat.zero_le _⟩ (fun I2 H2 L2 hp2 hW hS => ?_)
    obtain ⟨hF2, hO, hc2⟩ := hp2
    have hF := dkF_call hF hF2 rfl
    obtain ⟨f2_338_2, f2_339_0, xh2_0, xh2_1, xh2_2, xh2_3, xh2_4, xh2_5, xh2_6, xh2_7, xh2_8, xh2_9, -⟩ := hc2
    have y3 : I2 338 2 = 1 := by have h := xh2_0; exact h
    have y4 : I2 339 0 = 24 := by have h := xh2_1; exact h
    have y5 : I2 339 1 = I0 339 1 := by have h := xh2_2; exact h
    have y6 : I2 339 2 = I0 339 2 := by have h := xh2_3; exact h
    have y7 : I2 339 3 = I0 339 3 := by have h := xh2_4; exact h
    have y8 : I2 339 4 = I0 339 4 := by have h := xh2_5; exact h
    have y9 : I2 339 5 = I0 339 5 := by have h := xh2_6; exact h
    have y10 : I2 339 6 = I0 339 6 := by have h := xh2_7; exact h
    have y11 : I2 339 7 = I0 339 7 := by have h := xh2_8; exact h
    have y12 : I2 339 = dkV (I0 339) 0 24 := by have h := xh2_9; exact h
    refine lv_iload_n hx hb dX1_gives_13 rfl (lv_at hl 3 rfl) ?_
    refine lv_iconst (v := 1) hx hb dX1_gives_14 (by decide) ?_
    refine lv_iadd hx hb dX1_gives_15 ?_
    refine lv_topi (fun v13 ev13 => ?_)
    have dv13 : dkN [(2, 2)] v13 := by rw [ev13]; exact dkN_add (dkN_lit (x := 1) (1) rfl) (dkN_lit (x := 1) (1) rfl) rfl
    have xv13 : v13 = 2 := by rw [ev13]; rfl
    subst xv13
    refine lv_istore (lv' := [(4, .int 2), (0, .ref (z + 338)), (1, .int 24), (2, .int p1), (3, .int 1)]) hx hb dX1_gives_16 hl (by decide) rfl (fun ls hl => ?_)
    refine lv_iload_n hx hb dX1_gives_18 rfl (lv_at hl 2 rfl) ?_
    have qc14 : (24 : Int32).toInt = 24 := rfl
    refine lv_tableIn (tgt := 220) hx hb dX1_gives_19 (by rw [qc14]; decide) (by rw [qc14]; decide) (by rw [qc14]; rfl) (by decide) ?_
    refine lv_iconst (v := 2) hx hb dX1_gives_220 (by decide) ?_
    refine lv_aload_n hx hb dX1_gives_221 rfl (lv_at hl 1 rfl) ?_
    refine lv_bipush (v := 21) hx hb dX1_gives_222 (by decide) ?_
    refine lv_iload_n hx hb dX1_gives_224 rfl (lv_at hl 3 rfl) ?_
    refine lv_iload hx hb dX1_gives_225 (lv_at hl 0 rfl) ?_
    refine dk_Vi (As := [.int 21, .int p1, .int 2]) (rest := [.int 2]) ⟨hx, hb, hml, hown, hts⟩ (fx_X1_gives_43 l g z I2 21 p1 2 (dkN_lit (x := 21) (21) rfl) dp1 (dkN_lit (x := 2) (2) rfl) (show dkN [(1, 1)] (I2 338 2) from dkN_sub f2_338_2 rfl) (by rw [(show I2 32 = I0 32 from ((funext fun j => hF2 32 j (dkNin_k rfl (dkNin_k rfl dkNin_nil))).trans rfl))]; exact tp0) hO) (cwV 3 hts gX1_gives_X1_gives rfl rfl rfl (by decide +kernel) ⟨Nat.le_of_ble_eq_true rfl, Nat.le_of_ble_eq_true rfl⟩) (dk_at338 hW) rfl hK hT hW hS rfl hl.1 rfl (Nat.le_of_ble_eq_true rfl) dX1_gives_227 ⟨Nat.zero_le _, Nat.zero_le _⟩ (fun v15 I15 H15 L15 hp15 hW hS => ?_)
    obtain ⟨hF15, hO, hc15⟩ := hp15
    have hF := dkF_call hF hF15 rfl
    obtain ⟨_, f15_338_2, f15_339_1, f15_339_2, x15_0, x15_1, xr15, xh15_0, xh15_1, xh15_2, xh15_3, xh15_4, xh15_5, xh15_6, xh15_7, xh15_8, xh15_9, -⟩ := hc15
    have w16 : I2 32 = I0 32 := ((funext fun j => hF2 32 j (dkNin_k rfl (dkNin_k rfl dkNin_nil))).trans rfl)
    have q17 : ((I0 32) (Int32.toNatClampNeg p1)).toInt = (2 : Int) := by have h := x15_0; rw [w16] at h; exact h
    have y18 : I15 338 2 = 3 := by have h := xh15_0; exact h
    have w19 : I2 339 0 = 24 := y4
    have y20 : I15 339 0 = 24 := by have h := xh15_1; rw [w19] at h; exact h
    have y21 : I15 339 1 = 21 := by have h := xh15_2; exact h
    have y22 : I15 339 2 = 20 := by have h := xh15_3; exact h
    have w23 : I2 339 3 = I0 339 3 := y7
    have y24 : I15 339 3 = I0 339 3 := by have h := xh15_4; rw [w23] at h; exact h
    have w25 : I2 339 4 = I0 339 4 := y8
    have y26 : I15 339 4 = I0 339 4 := by have h := xh15_5; rw [w25] at h; exact h
    have w27 : I2 339 5 = I0 339 5 := y9
    have y28 : I15 339 5 = I0 339 5 := by have h := xh15_6; rw [w27] at h; exact h
    have w29 : I2 339 6 = I0 339 6 := y10
    have y30 : I15 339 6 = I0 339 6 := by have h := xh15_7; rw [w29] at h; exact h
    have w31 : I2 339 7 = I0 339 7 := y11
    have y32 : I15 339 7 = I0 339 7 := by have h := xh15_8; rw [w31] at h; exact h
    have w33 : I2 339 = dkV (I0 339) 0 24 := y12
    have y34 : I15 339 = dkV (dkV (dkV (I0 339) 0 24) 1 21) 2 20 := by have h := xh15_9; rw [w33] at h; exact h
    have w35 : I2 34 = I0 34 := ((funext fun j => hF2 34 j (dkNin_k rfl (dkNin_k rfl dkNin_nil))).trans rfl)
    have xv15 : v15 = p1 + ((I0 34) (Int32.toNatClampNeg p1)) := by have h := xr15; rw [w35] at h; exact h
    refine lv_imul hx hb dX1_gives_230 ?_
    refine lv_topi (fun v36 ev36 => ?_)
    have xv36 : v36 = (2 : Int32) * (p1 + ((I0 34) (Int32.toNatClampNeg p1))) := by rw [ev36, xv15]
    exact W.iret (v := v36) hx hb hr (fun t ht hW9 => ⟨⟨v36, I15, rfl, ⟨hF, hO, ⟨trivial, (show dkN [(3, 3)] (I15 338 2) from dkN_sub f15_338_2 rfl), (show dkN [(24, 24)] (I15 339 0) from dkN_sub (by rw [hF15 339 0 rfl]; exact f2_339_0) rfl), (show dkN [(21, 21)] (I15 339 1) from dkN_sub f15_339_1 rfl), (show dkN [(20, 20)] (I15 339 2) from dkN_sub f15_339_2 rfl), tp0, q17, xv36, y18, y20, y21, y22, y24, y26, y28, y30, y32, y34, trivial⟩⟩, dkW_eq ht hW⟩, hS.F ht⟩) hS.2.2 dX1_gives_231
  ·
    exact (dkN_nil (show dkN [] 1 from dkN_le2 1 (dkN_lit (x := 5) (5) rfl) (dkN_lit (x := 1) (1) rfl) (dkc_nle c1) rfl)).elim
set_option maxHeartbeats 4000000 in
set_option maxRecDepth 100000 in
theorem fx_X1_sizeBody_2 (l : Launch) (g : dkG) (z : Nat) (I0 : dkI) (p0 : Int32) (dp0 : dkN [(0, 5)] p0)  (tp0 : (I0 32 (Int32.toNatClampNeg p0)).toInt = (2 : Int)) (hO : dkOk I0) : Met l yX1_sizeBody wsX1_sizeBody (dkR 0) (dkPc g z [.ref (z + 338), .int p0] I0) (dkQi g z (fun r I1 => dkF [] I0 I1 ∧ dkOk I1 ∧ ((dkN [(12, 12)] r ∧ (I0 32 (Int32.toNatClampNeg p0)).toInt = (2 : Int) ∧ r = 12 ∧ True)))) 0 0 (dkA z) := by
  refine Met.ofW (cc := cX1_sizeBody) (maxL := 3) (ret := (some .int)) (by decide) rfl ?_
  intro p e s m args below meth c s₁ B hml hv
  obtain ⟨ha, hW, hK, hT⟩ := hv
  have hx := B.exec
  have hb := B.bytes
  have hr := B.returns
  have hts := atoms_spec (ws := wsX1_sizeBody) B.pre
  have hown : s.vm.findClass RX1 = some m.cls := findClass_of_methodNamed B.named
  have hlocks := B.notSynchronized
  have hS : va_S (dkA z) s.heap s.heap [] := va_S.rf
  have hF : dkF [] I0 I0 := dkF_rf _ _
  have hl := lv_entry ([.ref (z + 338), .int p0]) (n := 3) (Nat.le_of_ble_eq_true rfl)
  have hgo : entryFrame m args 3 = entryFrame m ([.ref (z + 338), .int p0] : List Value).toArray 3 := by rw [ha]
  rw [hgo, lg_entry_eq]
  generalize (lg_sl ([.ref (z + 338), .int p0]) ++ List.replicate (3 - (lg_sl ([.ref (z + 338), .int p0])).length) Slot.unset).toArray = ls at hl ⊢
  have hl : lv_has ls 3 [(0, .ref (z + 338)), (1, .int p0)] := hl
  refine lv_aload_n hx hb dX1_sizeBody_0 rfl (lv_at hl 0 rfl) ?_
  refine dk_get (k := 338) hx hb hts iX1_sizeBody_1 hown hK (dk_at338 hW) rfl 0 (by decide) (hts (.fieldLink RX1 15 "DogKings$Asks" "now" "LDogKings$Town;") (List.mem_of_getElem? (i := 1) rfl)) rfl dX1_sizeBody_1 ?_
  refine dk_get (k := 25) hx hb hts iX1_sizeBody_4 hown hK (dk_at25 hW) rfl 12 (by decide) (hts (.fieldLink RX1 35 "DogKings$Town" "sort" "[I") (List.mem_of_getElem? (i := 2) rfl)) rfl dX1_sizeBody_4 ?_
  refine lv_iload_n hx hb dX1_sizeBody_7 rfl (lv_at hl 1 rfl) ?_
  refine dk_ild (k := 32) hx hb hK (dk_at32 hW) (dkN_in (n := 6) dp0 rfl) dX1_sizeBody_8 ?_
  refine lv_topi (fun v1 ev1 => ?_)
  have xv1 : v1 = 2 := dk_e0 (by rw [show v1 = I0 32 (Int32.toNatClampNeg p0) from ev1.trans rfl]; exact tp0)
  subst xv1
  refine lv_istore_n (lv' := [(2, .int 2), (0, .ref (z + 338)), (1, .int p0)]) hx hb dX1_sizeBody_9 rfl hl (by decide) rfl (fun ls hl => ?_)
  refine lv_iload_n hx hb dX1_sizeBody_10 rfl (lv_at hl 0 rfl) ?_
  refine lv_if_lt (tgt := 30) hx hb dX1_sizeBody_11 (by decide) (fun c2 => ?_) (fun c2 => ?_)
  ·
    exact (dkN_nil (show dkN [] 2 from dkN_le1 1 (dkN_lit (x := 2) (2) rfl) (dkN_lit (x := 0) (0) rfl) (dkc_lt c2) rfl)).elim
  ·
    refine lv_iload_n hx hb dX1_sizeBody_14 rfl (lv_at hl 0 rfl) ?_
    obtain ⟨a3, hza3, hta3⟩ := hT.1
    refine va_gets hx hb hza3 hS hown (hts (.fieldLink RX1 40 "DogKings$Asks" "SIZE_BODY" "[I") (List.mem_of_getElem? (i := 3) rfl)) (fun _ h => h) dX1_sizeBody_15 ?_
    refine va_tlen hx hb hta3 hS (v := 6) rfl dX1_sizeBody_18 ?_
    refine lv_icmp_ge (tgt := 30) hx hb dX1_sizeBody_19 (by decide) (fun c4 => ?_) (fun c4 => ?_)
    ·
      exact (dkN_nil (show dkN [] 6 from dkN_le1 0 (dkN_lit (x := 6) (6) rfl) (dkN_lit (x := 2) (2) rfl) (dkc_le c4) rfl)).elim
    ·
      obtain ⟨a5, hza5, hta5⟩ := hT.1
      refine va_gets hx hb hza5 hS hown (hts (.fieldLink RX1 40 "DogKings$Asks" "SIZE_BODY" "[I") (List.mem_of_getElem? (i := 3) rfl)) (fun _ h => h) dX1_sizeBody_22 ?_
      refine lv_iload_n hx hb dX1_sizeBody_25 rfl (lv_at hl 0 rfl) ?_
      refine va_ti (v := .int (dkSzI (Int32.toNatClampNeg 2))) hx hb hta5 hS (dkN_in (n := 6) (dkN_lit (x := 2) (2) rfl) rfl) (dkSz_v _) dX1_sizeBody_26 ?_
      refine lv_topi (fun v7 ev7 => ?_)
      have dv7 : dkN [(12, 12)] v7 := by rw [ev7]; exact (dkN_lit (12) rfl)
      have xv7 : v7 = 12 := (ev7.trans rfl)
      subst xv7
      refine lv_goto (tgt := 35) hx hb dX1_sizeBody_27 (by decide) ?_
      exact W.iret (v := 12) hx hb hr (fun t ht hW9 => ⟨⟨12, I0, rfl, ⟨hF, hO, ⟨dkN_sub (dkN_lit (x := 12) (12) rfl) rfl, tp0, rfl, trivial⟩⟩, dkW_eq ht hW⟩, hS.F ht⟩) hS.2.2 dX1_sizeBody_35
set_option maxHeartbeats 4000000 in
set_option maxRecDepth 100000 in
theorem fx_X1_begins_17 (l : Launch) (g : dkG) (z : Nat) (I0 : dkI) (p0 : Int32) (dp0 : dkN [(12, 12)] p0) (np0 : dkN [(0, 0)] (I0 338 2))  (hO : dkOk I0) : Met l yX1_begins wsX1_begins (dkR 0) (dkPc g z [.ref (z + 338), .int p0] I0) (dkQv g z (fun I1 => dkF [(338, 338, 2, 2), (339, 339, 0, 0)] I0 I1 ∧ dkOk I1 ∧ ((dkN [(1, 1)] (I1 338 2) ∧ dkN [(12, 12)] (I1 339 0) ∧ I1 338 2 = 1 ∧ I1 339 0 = 12 ∧ I1 339 1 = I0 339 1 ∧ I1 339 2 = I0 339 2 ∧ I1 339 3 = I0 339 3 ∧ I1 339 4 = I0 339 4 ∧ I1 339 5 = I0 339 5 ∧ I1 339 6 = I0 339 6 ∧ I1 339 7 = I0 339 7 ∧ I1 339  = dkV (I0 339) 0 12 ∧ True)))) 0 0 (dkA z) := by
  obtain rfl : p0 = 12 := dkN_is dp0 rfl
  refine Met.ofW (cc := cX1_begins) (maxL := 2) (ret := none) (by decide) rfl ?_
  intro p e s m args below meth c s₁ B hml hv
  obtain ⟨ha, hW, hK, hT⟩ := hv
  have hx := B.exec
  have hb := B.bytes
  have hr := B.returns
  have hts := atoms_spec (ws := wsX1_begins) B.pre
  have hown : s.vm.findClass RX1 = some m.cls := findClass_of_methodNamed B.named
  have hlocks := B.notSynchronized
  have hS : va_S (dkA z) s.heap s.heap [] := va_S.rf
  have hF : dkF [(338, 338, 2, 2), (339, 339, 0, 0)] I0 I0 := dkF_rf _ _
  have hl := lv_entry ([.ref (z + 338), .int 12]) (n := 2) (Nat.le_of_ble_eq_true rfl)
  have hgo : entryFrame m args 2 = entryFrame m ([.ref (z + 338), .int 12] : List Value).toArray 2 := by rw [ha]
  rw [hgo, lg_entry_eq]
  generalize (lg_sl ([.ref (z + 338), .int 12]) ++ List.replicate (2 - (lg_sl ([.ref (z + 338), .int 12])).length) Slot.unset).toArray = ls at hl ⊢
  have hl : lv_has ls 2 [(0, .ref (z + 338)), (1, .int 12)] := hl
  refine lv_aload_n hx hb dX1_begins_0 rfl (lv_at hl 0 rfl) ?_
  refine dk_get (k := 338) hx hb hts iX1_begins_1 hown hK (dk_at338 hW) rfl 2 (by decide) (hts (.fieldLink RX1 19 "DogKings$Asks" "tracedCount" "I") (List.mem_of_getElem? (i := 1) rfl)) rfl dX1_begins_1 ?_
  refine lv_topi (fun v1 ev1 => ?_)
  have dv1 : dkN [(0, 0)] v1 := by rw [ev1]; exact np0
  have xv1 : v1 = 0 := dkN_is dv1 rfl
  subst xv1
  refine lv_bipush (v := 16) hx hb dX1_begins_4 (by decide) ?_
  refine lv_icmp_ge (tgt := 29) hx hb dX1_begins_6 (by decide) (fun c2 => ?_) (fun c2 => ?_)
  ·
    exact (dkN_nil (show dkN [] 16 from dkN_le1 0 (dkN_lit (x := 16) (16) rfl) (dkN_lit (x := 0) (0) rfl) (dkc_le c2) rfl)).elim
  ·
    refine lv_aload_n hx hb dX1_begins_9 rfl (lv_at hl 0 rfl) ?_
    refine dk_get (k := 338) hx hb hts iX1_begins_1 hown hK (dk_at338 hW) rfl 1 (by decide) (hts (.fieldLink RX1 11 "DogKings$Asks" "traced" "[I") (List.mem_of_getElem? (i := 2) rfl)) rfl dX1_begins_10 ?_
    refine lv_aload_n hx hb dX1_begins_13 rfl (lv_at hl 0 rfl) ?_
    refine dk_get (k := 338) hx hb hts iX1_begins_1 hown hK (dk_at338 hW) rfl 2 (by decide) (hts (.fieldLink RX1 19 "DogKings$Asks" "tracedCount" "I") (List.mem_of_getElem? (i := 1) rfl)) rfl dX1_begins_14 ?_
    refine lv_topi (fun v3 ev3 => ?_)
    have dv3 : dkN [(0, 0)] v3 := by rw [ev3]; exact np0
    have xv3 : v3 = 0 := dkN_is dv3 rfl
    subst xv3
    refine lv_iload_n hx hb dX1_begins_17 rfl (lv_at hl 1 rfl) ?_
    refine dk_ist (k := 339) hx hb hK hW (fun _ => rfl) (by decide) hS (dkN_in (n := 16) (dkN_lit (x := 0) (0) rfl) rfl) dX1_begins_18 (fun I4 H4 L4 eI4 hW hS => ?_)
    have eI4 : I4 = dkU I0 339 0 12 := eI4
    have hO := dkO_set hO eI4 (dkN_sub (dkN_lit (x := 12) (12) rfl) rfl)
    have hF := dkF_set hF eI4 rfl
    refine lv_aload_n hx hb dX1_begins_19 rfl (lv_at hl 0 rfl) ?_
    refine lv_dup hx hb dX1_begins_20 rfl ?_
    refine dk_get (k := 338) hx hb hts iX1_begins_1 hown hK (dk_at338 hW) rfl 2 (by decide) (hts (.fieldLink RX1 19 "DogKings$Asks" "tracedCount" "I") (List.mem_of_getElem? (i := 1) rfl)) rfl dX1_begins_21 ?_
    refine lv_topi (fun v5 ev5 => ?_)
    have dv5 : dkN [(0, 0)] v5 := by rw [ev5]; exact (by rw [eI4, dkU_n (by decide)]; exact np0)
    have xv5 : v5 = 0 := dkN_is dv5 rfl
    subst xv5
    refine lv_iconst (v := 1) hx hb dX1_begins_24 (by decide) ?_
    refine lv_iadd hx hb dX1_begins_25 ?_
    refine lv_topi (fun v6 ev6 => ?_)
    have dv6 : dkN [(1, 1)] v6 := by rw [ev6]; exact dkN_add (dkN_lit (x := 0) (0) rfl) (dkN_lit (x := 1) (1) rfl) rfl
    have xv6 : v6 = 1 := by rw [ev6]; rfl
    subst xv6
    refine dk_put (k := 338) hx hb hts iX1_begins_1 tyX1 tyX1_ok nmX1 hown hK hW (dk_at338 hW) hS rfl 2 (by decide) (hts (.fieldLink RX1 19 "DogKings$Asks" "tracedCount" "I") (List.mem_of_getElem? (i := 1) rfl)) rfl rfl (Nat.le_of_ble_eq_true rfl) rfl dX1_begins_26 (fun I7 H7 L7 eI7 hW hS => ?_)
    have eI7 : I7 = dkU I4 338 2 1 := eI7
    have hO := dkO_set hO eI7 (dkN_sub (dkN_lit (x := 1) (1) rfl) rfl)
    have hF := dkF_set hF eI7 rfl
    exact W.vret hx hb hr (fun t ht hW9 => ⟨⟨I7, rfl, ⟨hF, hO, ⟨(show dkN [(1, 1)] (I7 338 2) from dkN_sub (by rw [eI7, dkU_ss]; exact (dkN_lit (x := 1) (1) rfl)) rfl), (show dkN [(12, 12)] (I7 339 0) from dkN_sub (by rw [eI7, dkU_n (by decide)]; exact (by rw [eI4, dkU_ss]; exact (dkN_lit (x := 12) (12) rfl))) rfl), (by rw [eI7, dkU_ss]), ((by rw [eI7, dkU_n (by decide)] : I7 339 0 = _).trans (by rw [eI4, dkU_ss])), ((by rw [eI7, dkU_n (by decide)] : I7 339 1 = _).trans ((by rw [eI4, dkU_sn (by decide)] : I4 339 1 = _).trans rfl)), ((by rw [eI7, dkU_n (by decide)] : I7 339 2 = _).trans ((by rw [eI4, dkU_sn (by decide)] : I4 339 2 = _).trans rfl)), ((by rw [eI7, dkU_n (by decide)] : I7 339 3 = _).trans ((by rw [eI4, dkU_sn (by decide)] : I4 339 3 = _).trans rfl)), ((by rw [eI7, dkU_n (by decide)] : I7 339 4 = _).trans ((by rw [eI4, dkU_sn (by decide)] : I4 339 4 = _).trans rfl)), ((by rw [eI7, dkU_n (by decide)] : I7 339 5 = _).trans ((by rw [eI4, dkU_sn (by decide)] : I4 339 5 = _).trans rfl)), ((by rw [eI7, dkU_n (by decide)] : I7 339 6 = _).trans ((by rw [eI4, dkU_sn (by decide)] : I4 339 6 = _).trans rfl)), ((by rw [eI7, dkU_n (by decide)] : I7 339 7 = _).trans ((by rw [eI4, dkU_sn (by decide)] : I4 339 7 = _).trans rfl)), ((by rw [eI7, dkU_n (by decide)] : I7 339 = _).trans (by rw [eI4, dkU_s, show (I0 339) = I0 339 from rfl])), trivial⟩⟩, dkW_eq ht hW⟩, hS.F ht⟩) hS.2.2 dX1_begins_29
set_option maxHeartbeats 4000000 in
set_option maxRecDepth 100000 in
theorem fx_X1_begins_18 (l : Launch) (g : dkG) (z : Nat) (I0 : dkI) (p0 : Int32) (dp0 : dkN [(11, 11)] p0) (np0 : dkN [(1, 1)] (I0 338 2))  (hO : dkOk I0) : Met l yX1_begins wsX1_begins (dkR 0) (dkPc g z [.ref (z + 338), .int p0] I0) (dkQv g z (fun I1 => dkF [(338, 338, 2, 2), (339, 339, 1, 1)] I0 I1 ∧ dkOk I1 ∧ ((dkN [(2, 2)] (I1 338 2) ∧ dkN [(11, 11)] (I1 339 1) ∧ I1 338 2 = 2 ∧ I1 339 0 = I0 339 0 ∧ I1 339 1 = 11 ∧ I1 339 2 = I0 339 2 ∧ I1 339 3 = I0 339 3 ∧ I1 339 4 = I0 339 4 ∧ I1 339 5 = I0 339 5 ∧ I1 339 6 = I0 339 6 ∧ I1 339 7 = I0 339 7 ∧ I1 339  = dkV (I0 339) 1 11 ∧ True)))) 0 0 (dkA z) := by
  obtain rfl : p0 = 11 := dkN_is dp0 rfl
  refine Met.ofW (cc := cX1_begins) (maxL := 2) (ret := none) (by decide) rfl ?_
  intro p e s m args below meth c s₁ B hml hv
  obtain ⟨ha, hW, hK, hT⟩ := hv
  have hx := B.exec
  have hb := B.bytes
  have hr := B.returns
  have hts := atoms_spec (ws := wsX1_begins) B.pre
  have hown : s.vm.findClass RX1 = some m.cls := findClass_of_methodNamed B.named
  have hlocks := B.notSynchronized
  have hS : va_S (dkA z) s.heap s.heap [] := va_S.rf
  have hF : dkF [(338, 338, 2, 2), (339, 339, 1, 1)] I0 I0 := dkF_rf _ _
  have hl := lv_entry ([.ref (z + 338), .int 11]) (n := 2) (Nat.le_of_ble_eq_true rfl)
  have hgo : entryFrame m args 2 = entryFrame m ([.ref (z + 338), .int 11] : List Value).toArray 2 := by rw [ha]
  rw [hgo, lg_entry_eq]
  generalize (lg_sl ([.ref (z + 338), .int 11]) ++ List.replicate (2 - (lg_sl ([.ref (z + 338), .int 11])).length) Slot.unset).toArray = ls at hl ⊢
  have hl : lv_has ls 2 [(0, .ref (z + 338)), (1, .int 11)] := hl
  refine lv_aload_n hx hb dX1_begins_0 rfl (lv_at hl 0 rfl) ?_
  refine dk_get (k := 338) hx hb hts iX1_begins_1 hown hK (dk_at338 hW) rfl 2 (by decide) (hts (.fieldLink RX1 19 "DogKings$Asks" "tracedCount" "I") (List.mem_of_getElem? (i := 1) rfl)) rfl dX1_begins_1 ?_
  refine lv_topi (fun v1 ev1 => ?_)
  have dv1 : dkN [(1, 1)] v1 := by rw [ev1]; exact np0
  have xv1 : v1 = 1 := dkN_is dv1 rfl
  subst xv1
  refine lv_bipush (v := 16) hx hb dX1_begins_4 (by decide) ?_
  refine lv_icmp_ge (tgt := 29) hx hb dX1_begins_6 (by decide) (fun c2 => ?_) (fun c2 => ?_)
  ·
    exact (dkN_nil (show dkN [] 16 from dkN_le1 0 (dkN_lit (x := 16) (16) rfl) (dkN_lit (x := 1) (1) rfl) (dkc_le c2) rfl)).elim
  ·
    refine lv_aload_n hx hb dX1_begins_9 rfl (lv_at hl 0 rfl) ?_
    refine dk_get (k := 338) hx hb hts iX1_begins_1 hown hK (dk_at338 hW) rfl 1 (by decide) (hts (.fieldLink RX1 11 "DogKings$Asks" "traced" "[I") (List.mem_of_getElem? (i := 2) rfl)) rfl dX1_begins_10 ?_
    refine lv_aload_n hx hb dX1_begins_13 rfl (lv_at hl 0 rfl) ?_
    refine dk_get (k := 338) hx hb hts iX1_begins_1 hown hK (dk_at338 hW) rfl 2 (by decide) (hts (.fieldLink RX1 19 "DogKings$Asks" "tracedCount" "I") (List.mem_of_getElem? (i := 1) rfl)) rfl dX1_begins_14 ?_
    refine lv_topi (fun v3 ev3 => ?_)
    have dv3 : dkN [(1, 1)] v3 := by rw [ev3]; exact np0
    have xv3 : v3 = 1 := dkN_is dv3 rfl
    subst xv3
    refine lv_iload_n hx hb dX1_begins_17 rfl (lv_at hl 1 rfl) ?_
    refine dk_ist (k := 339) hx hb hK hW (fun _ => rfl) (by decide) hS (dkN_in (n := 16) (dkN_lit (x := 1) (1) rfl) rfl) dX1_begins_18 (fun I4 H4 L4 eI4 hW hS => ?_)
    have eI4 : I4 = dkU I0 339 1 11 := eI4
    have hO := dkO_set hO eI4 (dkN_sub (dkN_lit (x := 11) (11) rfl) rfl)
    have hF := dkF_set hF eI4 rfl
    refine lv_aload_n hx hb dX1_begins_19 rfl (lv_at hl 0 rfl) ?_
    refine lv_dup hx hb dX1_begins_20 rfl ?_
    refine dk_get (k := 338) hx hb hts iX1_begins_1 hown hK (dk_at338 hW) rfl 2 (by decide) (hts (.fieldLink RX1 19 "DogKings$Asks" "tracedCount" "I") (List.mem_of_getElem? (i := 1) rfl)) rfl dX1_begins_21 ?_
    refine lv_topi (fun v5 ev5 => ?_)
    have dv5 : dkN [(1, 1)] v5 := by rw [ev5]; exact (by rw [eI4, dkU_n (by decide)]; exact np0)
    have xv5 : v5 = 1 := dkN_is dv5 rfl
    subst xv5
    refine lv_iconst (v := 1) hx hb dX1_begins_24 (by decide) ?_
    refine lv_iadd hx hb dX1_begins_25 ?_
    refine lv_topi (fun v6 ev6 => ?_)
    have dv6 : dkN [(2, 2)] v6 := by rw [ev6]; exact dkN_add (dkN_lit (x := 1) (1) rfl) (dkN_lit (x := 1) (1) rfl) rfl
    have xv6 : v6 = 2 := by rw [ev6]; rfl
    subst xv6
    refine dk_put (k := 338) hx hb hts iX1_begins_1 tyX1 tyX1_ok nmX1 hown hK hW (dk_at338 hW) hS rfl 2 (by decide) (hts (.fieldLink RX1 19 "DogKings$Asks" "tracedCount" "I") (List.mem_of_getElem? (i := 1) rfl)) rfl rfl (Nat.le_of_ble_eq_true rfl) rfl dX1_begins_26 (fun I7 H7 L7 eI7 hW hS => ?_)
    have eI7 : I7 = dkU I4 338 2 2 := eI7
    have hO := dkO_set hO eI7 (dkN_sub (dkN_lit (x := 2) (2) rfl) rfl)
    have hF := dkF_set hF eI7 rfl
    exact W.vret hx hb hr (fun t ht hW9 => ⟨⟨I7, rfl, ⟨hF, hO, ⟨(show dkN [(2, 2)] (I7 338 2) from dkN_sub (by rw [eI7, dkU_ss]; exact (dkN_lit (x := 2) (2) rfl)) rfl), (show dkN [(11, 11)] (I7 339 1) from dkN_sub (by rw [eI7, dkU_n (by decide)]; exact (by rw [eI4, dkU_ss]; exact (dkN_lit (x := 11) (11) rfl))) rfl), (by rw [eI7, dkU_ss]), ((by rw [eI7, dkU_n (by decide)] : I7 339 0 = _).trans ((by rw [eI4, dkU_sn (by decide)] : I4 339 0 = _).trans rfl)), ((by rw [eI7, dkU_n (by decide)] : I7 339 1 = _).trans (by rw [eI4, dkU_ss])), ((by rw [eI7, dkU_n (by decide)] : I7 339 2 = _).trans ((by rw [eI4, dkU_sn (by decide)] : I4 339 2 = _).trans rfl)), ((by rw [eI7, dkU_n (by decide)] : I7 339 3 = _).trans ((by rw [eI4, dkU_sn (by decide)] : I4 339 3 = _).trans rfl)), ((by rw [eI7, dkU_n (by decide)] : I7 339 4 = _).trans ((by rw [eI4, dkU_sn (by decide)] : I4 339 4 = _).trans rfl)), ((by rw [eI7, dkU_n (by decide)] : I7 339 5 = _).trans ((by rw [eI4, dkU_sn (by decide)] : I4 339 5 = _).trans rfl)), ((by rw [eI7, dkU_n (by decide)] : I7 339 6 = _).trans ((by rw [eI4, dkU_sn (by decide)] : I4 339 6 = _).trans rfl)), ((by rw [eI7, dkU_n (by decide)] : I7 339 7 = _).trans ((by rw [eI4, dkU_sn (by decide)] : I4 339 7 = _).trans rfl)), ((by rw [eI7, dkU_n (by decide)] : I7 339 = _).trans (by rw [eI4, dkU_s, show (I0 339) = I0 339 from rfl])), trivial⟩⟩, dkW_eq ht hW⟩, hS.F ht⟩) hS.2.2 dX1_begins_29
set_option maxHeartbeats 4000000 in
set_option maxRecDepth 100000 in
theorem fx_X1_begins_19 (l : Launch) (g : dkG) (z : Nat) (I0 : dkI) (p0 : Int32) (dp0 : dkN [(10, 10)] p0) (np0 : dkN [(2, 2)] (I0 338 2))  (hO : dkOk I0) : Met l yX1_begins wsX1_begins (dkR 0) (dkPc g z [.ref (z + 338), .int p0] I0) (dkQv g z (fun I1 => dkF [(338, 338, 2, 2), (339, 339, 2, 2)] I0 I1 ∧ dkOk I1 ∧ ((dkN [(3, 3)] (I1 338 2) ∧ dkN [(10, 10)] (I1 339 2) ∧ I1 338 2 = 3 ∧ I1 339 0 = I0 339 0 ∧ I1 339 1 = I0 339 1 ∧ I1 339 2 = 10 ∧ I1 339 3 = I0 339 3 ∧ I1 339 4 = I0 339 4 ∧ I1 339 5 = I0 339 5 ∧ I1 339 6 = I0 339 6 ∧ I1 339 7 = I0 339 7 ∧ I1 339  = dkV (I0 339) 2 10 ∧ True)))) 0 0 (dkA z) := by
  obtain rfl : p0 = 10 := dkN_is dp0 rfl
  refine Met.ofW (cc := cX1_begins) (maxL := 2) (ret := none) (by decide) rfl ?_
  intro p e s m args below meth c s₁ B hml hv
  obtain ⟨ha, hW, hK, hT⟩ := hv
  have hx := B.exec
  have hb := B.bytes
  have hr := B.returns
  have hts := atoms_spec (ws := wsX1_begins) B.pre
  have hown : s.vm.findClass RX1 = some m.cls := findClass_of_methodNamed B.named
  have hlocks := B.notSynchronized
  have hS : va_S (dkA z) s.heap s.heap [] := va_S.rf
  have hF : dkF [(338, 338, 2, 2), (339, 339, 2, 2)] I0 I0 := dkF_rf _ _
  have hl := lv_entry ([.ref (z + 338), .int 10]) (n := 2) (Nat.le_of_ble_eq_true rfl)
  have hgo : entryFrame m args 2 = entryFrame m ([.ref (z + 338), .int 10] : List Value).toArray 2 := by rw [ha]
  rw [hgo, lg_entry_eq]
  generalize (lg_sl ([.ref (z + 338), .int 10]) ++ List.replicate (2 - (lg_sl ([.ref (z + 338), .int 10])).length) Slot.unset).toArray = ls at hl ⊢
  have hl : lv_has ls 2 [(0, .ref (z + 338)), (1, .int 10)] := hl
  refine lv_aload_n hx hb dX1_begins_0 rfl (lv_at hl 0 rfl) ?_
  refine dk_get (k := 338) hx hb hts iX1_begins_1 hown hK (dk_at338 hW) rfl 2 (by decide) (hts (.fieldLink RX1 19 "DogKings$Asks" "tracedCount" "I") (List.mem_of_getElem? (i := 1) rfl)) rfl dX1_begins_1 ?_
  refine lv_topi (fun v1 ev1 => ?_)
  have dv1 : dkN [(2, 2)] v1 := by rw [ev1]; exact np0
  have xv1 : v1 = 2 := dkN_is dv1 rfl
  subst xv1
  refine lv_bipush (v := 16) hx hb dX1_begins_4 (by decide) ?_
  refine lv_icmp_ge (tgt := 29) hx hb dX1_begins_6 (by decide) (fun c2 => ?_) (fun c2 => ?_)
  ·
    exact (dkN_nil (show dkN [] 16 from dkN_le1 0 (dkN_lit (x := 16) (16) rfl) (dkN_lit (x := 2) (2) rfl) (dkc_le c2) rfl)).elim
  ·
    refine lv_aload_n hx hb dX1_begins_9 rfl (lv_at hl 0 rfl) ?_
    refine dk_get (k := 338) hx hb hts iX1_begins_1 hown hK (dk_at338 hW) rfl 1 (by decide) (hts (.fieldLink RX1 11 "DogKings$Asks" "traced" "[I") (List.mem_of_getElem? (i := 2) rfl)) rfl dX1_begins_10 ?_
    refine lv_aload_n hx hb dX1_begins_13 rfl (lv_at hl 0 rfl) ?_
    refine dk_get (k := 338) hx hb hts iX1_begins_1 hown hK (dk_at338 hW) rfl 2 (by decide) (hts (.fieldLink RX1 19 "DogKings$Asks" "tracedCount" "I") (List.mem_of_getElem? (i := 1) rfl)) rfl dX1_begins_14 ?_
    refine lv_topi (fun v3 ev3 => ?_)
    have dv3 : dkN [(2, 2)] v3 := by rw [ev3]; exact np0
    have xv3 : v3 = 2 := dkN_is dv3 rfl
    subst xv3
    refine lv_iload_n hx hb dX1_begins_17 rfl (lv_at hl 1 rfl) ?_
    refine dk_ist (k := 339) hx hb hK hW (fun _ => rfl) (by decide) hS (dkN_in (n := 16) (dkN_lit (x := 2) (2) rfl) rfl) dX1_begins_18 (fun I4 H4 L4 eI4 hW hS => ?_)
    have eI4 : I4 = dkU I0 339 2 10 := eI4
    have hO := dkO_set hO eI4 (dkN_sub (dkN_lit (x := 10) (10) rfl) rfl)
    have hF := dkF_set hF eI4 rfl
    refine lv_aload_n hx hb dX1_begins_19 rfl (lv_at hl 0 rfl) ?_
    refine lv_dup hx hb dX1_begins_20 rfl ?_
    refine dk_get (k := 338) hx hb hts iX1_begins_1 hown hK (dk_at338 hW) rfl 2 (by decide) (hts (.fieldLink RX1 19 "DogKings$Asks" "tracedCount" "I") (List.mem_of_getElem? (i := 1) rfl)) rfl dX1_begins_21 ?_
    refine lv_topi (fun v5 ev5 => ?_)
    have dv5 : dkN [(2, 2)] v5 := by rw [ev5]; exact (by rw [eI4, dkU_n (by decide)]; exact np0)
    have xv5 : v5 = 2 := dkN_is dv5 rfl
    subst xv5
    refine lv_iconst (v := 1) hx hb dX1_begins_24 (by decide) ?_
    refine lv_iadd hx hb dX1_begins_25 ?_
    refine lv_topi (fun v6 ev6 => ?_)
    have dv6 : dkN [(3, 3)] v6 := by rw [ev6]; exact dkN_add (dkN_lit (x := 2) (2) rfl) (dkN_lit (x := 1) (1) rfl) rfl
    have xv6 : v6 = 3 := by rw [ev6]; rfl
    subst xv6
    refine dk_put (k := 338) hx hb hts iX1_begins_1 tyX1 tyX1_ok nmX1 hown hK hW (dk_at338 hW) hS rfl 2 (by decide) (hts (.fieldLink RX1 19 "DogKings$Asks" "tracedCount" "I") (List.mem_of_getElem? (i := 1) rfl)) rfl rfl (Nat.le_of_ble_eq_true rfl) rfl dX1_begins_26 (fun I7 H7 L7 eI7 hW hS => ?_)
    have eI7 : I7 = dkU I4 338 2 3 := eI7
    have hO := dkO_set hO eI7 (dkN_sub (dkN_lit (x := 3) (3) rfl) rfl)
    have hF := dkF_set hF eI7 rfl
    exact W.vret hx hb hr (fun t ht hW9 => ⟨⟨I7, rfl, ⟨hF, hO, ⟨(show dkN [(3, 3)] (I7 338 2) from dkN_sub (by rw [eI7, dkU_ss]; exact (dkN_lit (x := 3) (3) rfl)) rfl), (show dkN [(10, 10)] (I7 339 2) from dkN_sub (by rw [eI7, dkU_n (by decide)]; exact (by rw [eI4, dkU_ss]; exact (dkN_lit (x := 10) (10) rfl))) rfl), (by rw [eI7, dkU_ss]), ((by rw [eI7, dkU_n (by decide)] : I7 339 0 = _).trans ((by rw [eI4, dkU_sn (by decide)] : I4 339 0 = _).trans rfl)), ((by rw [eI7, dkU_n (by decide)] : I7 339 1 = _).trans ((by rw [eI4, dkU_sn (by decide)] : I4 339 1 = _).trans rfl)), ((by rw [eI7, dkU_n (by decide)] : I7 339 2 = _).trans (by rw [eI4, dkU_ss])), ((by rw [eI7, dkU_n (by decide)] : I7 339 3 = _).trans ((by rw [eI4, dkU_sn (by decide)] : I4 339 3 = _).trans rfl)), ((by rw [eI7, dkU_n (by decide)] : I7 339 4 = _).trans ((by rw [eI4, dkU_sn (by decide)] : I4 339 4 = _).trans rfl)), ((by rw [eI7, dkU_n (by decide)] : I7 339 5 = _).trans ((by rw [eI4, dkU_sn (by decide)] : I4 339 5 = _).trans rfl)), ((by rw [eI7, dkU_n (by decide)] : I7 339 6 = _).trans ((by rw [eI4, dkU_sn (by decide)] : I4 339 6 = _).trans rfl)), ((by rw [eI7, dkU_n (by decide)] : I7 339 7 = _).trans ((by rw [eI4, dkU_sn (by decide)] : I4 339 7 = _).trans rfl)), ((by rw [eI7, dkU_n (by decide)] : I7 339 = _).trans (by rw [eI4, dkU_s, show (I0 339) = I0 339 from rfl])), trivial⟩⟩, dkW_eq ht hW⟩, hS.F ht⟩) hS.2.2 dX1_begins_29
set_option maxHeartbeats 4000000 in
set_option maxRecDepth 100000 in
theorem fx_X1_gives_47 (l : Launch) (g : dkG) (z : Nat) (I0 : dkI) (p0 : Int32) (p1 : Int32) (p2 : Int32) (dp0 : dkN [(10, 10)] p0) (dp1 : dkN [(0, 5)] p1) (dp2 : dkN [(3, 3)] p2) (np0 : dkN [(2, 2)] (I0 338 2))  (tp0 : (I0 32 (Int32.toNatClampNeg p1)).toInt = (2 : Int)) (hO : dkOk I0) : Met l yX1_gives wsX1_gives (dkR 1) (dkPc g z [.ref (z + 338), .int p0, .int p1, .int p2] I0) (dkQi g z (fun r I1 => dkF [(338, 338, 2, 2), (339, 339, 2, 2)] I0 I1 ∧ dkOk I1 ∧ ((True ∧ dkN [(3, 3)] (I1 338 2) ∧ dkN [(10, 10)] (I1 339 2) ∧ (I0 32 (Int32.toNatClampNeg p1)).toInt = (2 : Int) ∧ r = I0 33 (Int32.toNatClampNeg p1) ∧ I1 338 2 = 3 ∧ I1 339 0 = I0 339 0 ∧ I1 339 1 = I0 339 1 ∧ I1 339 2 = 10 ∧ I1 339 3 = I0 339 3 ∧ I1 339 4 = I0 339 4 ∧ I1 339 5 = I0 339 5 ∧ I1 339 6 = I0 339 6 ∧ I1 339 7 = I0 339 7 ∧ I1 339  = dkV (I0 339) 2 10 ∧ True)))) 0 0 (dkA z) := by
  obtain rfl : p0 = 10 := dkN_is dp0 rfl
  obtain rfl : p2 = 3 := dkN_is dp2 rfl
  refine Met.ofW (cc := cX1_gives) (maxL := 5) (ret := (some .int)) (by decide) rfl ?_
  intro p e s m args below meth c s₁ B hml hv
  obtain ⟨ha, hW, hK, hT⟩ := hv
  have hx := B.exec
  have hb := B.bytes
  have hr := B.returns
  have hts := atoms_spec (ws := wsX1_gives) B.pre
  have hown : s.vm.findClass RX1 = some m.cls := findClass_of_methodNamed B.named
  have hlocks := B.notSynchronized
  have hS : va_S (dkA z) s.heap s.heap [] := va_S.rf
  have hF : dkF [(338, 338, 2, 2), (339, 339, 2, 2)] I0 I0 := dkF_rf _ _
  have hl := lv_entry ([.ref (z + 338), .int 10, .int p1, .int 3]) (n := 5) (Nat.le_of_ble_eq_true rfl)
  have hgo : entryFrame m args 5 = entryFrame m ([.ref (z + 338), .int 10, .int p1, .int 3] : List Value).toArray 5 := by rw [ha]
  rw [hgo, lg_entry_eq]
  generalize (lg_sl ([.ref (z + 338), .int 10, .int p1, .int 3]) ++ List.replicate (5 - (lg_sl ([.ref (z + 338), .int 10, .int p1, .int 3])).length) Slot.unset).toArray = ls at hl ⊢
  have hl : lv_has ls 5 [(0, .ref (z + 338)), (1, .int 10), (2, .int p1), (3, .int 3)] := hl
  refine lv_iload_n hx hb dX1_gives_0 rfl (lv_at hl 3 rfl) ?_
  refine lv_iconst (v := 5) hx hb dX1_gives_1 (by decide) ?_
  refine lv_icmp_le (tgt := 8) hx hb dX1_gives_2 (by decide) (fun c1 => ?_) (fun c1 => ?_)
  ·
    refine lv_aload_n hx hb dX1_gives_8 rfl (lv_at hl 0 rfl) ?_
    refine lv_iload_n hx hb dX1_gives_9 rfl (lv_at hl 1 rfl) ?_
    refine dk_Vv (As := [.int 10]) (rest := []) ⟨hx, hb, hml, hown, hts⟩ (fx_X1_begins_19 l g z I0 10 (dkN_lit (x := 10) (10) rfl) (show dkN [(2, 2)] (I0 338 2) from dkN_sub np0 rfl) hO) (cwV 1 hts gX1_gives_X1_begins rfl rfl rfl (by decide +kernel) ⟨Nat.le_of_ble_eq_true rfl, Nat.le_of_ble_eq_true rfl⟩) (dk_at338 hW) rfl hK hT hW hS rfl hl.1 rfl (Nat.le_of_ble_eq_true rfl) dX1_gives_10 ⟨Nat.zero_le _, Nat.zero_le _⟩ (fun I2 H2 L2 hp2 hW hS => ?_)
    obtain ⟨hF2, hO, hc2⟩ := hp2
    have hF := dkF_call hF hF2 rfl
    obtain ⟨f2_338_2, f2_339_2, xh2_0, xh2_1, xh2_2, xh2_3, xh2_4, xh2_5, xh2_6, xh2_7, xh2_8, xh2_9, -⟩ := hc2
    have y3 : I2 338 2 = 3 := by have h := xh2_0; exact h
    have y4 : I2 339 0 = I0 339 0 := by have h := xh2_1; exact h
    have y5 : I2 339 1 = I0 339 1 := by have h := xh2_2; exact h
    have y6 : I2 339 2 = 10 := by have h := xh2_3; exact h
    have y7 : I2 339 3 = I0 339 3 := by have h := xh2_4; exact h
    have y8 : I2 339 4 = I0 339 4 := by have h := xh2_5; exact h
    have y9 : I2 339 5 = I0 339 5 := by have h := xh2_6; exact h
    have y10 : I2 339 6 = I0 339 6 := by have h := xh2_7; exact h
    have y11 : I2 339 7 = I0 339 7 := by have h := xh2_8; exact h
    have y12 : I2 339 = dkV (I0 339) 2 10 := by have h := xh2_9; exact h
    refine lv_iload_n hx hb dX1_gives_13 rfl (lv_at hl 3 rfl) ?_
    refine lv_iconst (v := 1) hx hb dX1_gives_14 (by decide) ?_
    refine lv_iadd hx hb dX1_gives_15 ?_
    refine lv_topi (fun v13 ev13 => ?_)
    have dv13 : dkN [(4, 4)] v13 := by rw [ev13]; exact dkN_add (dkN_lit (x := 3) (3) rfl) (dkN_lit (x := 1) (1) rfl) rfl
    have xv13 : v13 = 4 := by rw [ev13]; rfl
    subst xv13
    refine lv_istore (lv' := [(4, .int 4), (0, .ref (z + 338)), (1, .int 10), (2, .int p1), (3, .int 3)]) hx hb dX1_gives_16 hl (by decide) rfl (fun ls hl => ?_)
    refine lv_iload_n hx hb dX1_gives_18 rfl (lv_at hl 2 rfl) ?_
    have qc14 : (10 : Int32).toInt = 10 := rfl
    refine lv_tableIn (tgt := 92) hx hb dX1_gives_19 (by rw [qc14]; decide) (by rw [qc14]; decide) (by rw [qc14]; rfl) (by decide) ?_
    refine lv_aload_n hx hb dX1_gives_92 rfl (lv_at hl 1 rfl) ?_
    refine dk_get (k := 338) hx hb hts iX1_gives_1 hown hK (dk_at338 hW) rfl 0 (by decide) (hts (.fieldLink RX1 15 "DogKings$Asks" "now" "LDogKings$Town;") (List.mem_of_getElem? (i := 2) rfl)) rfl dX1_gives_93 ?_
    refine dk_get (k := 25) hx hb hts iX1_gives_4 hown hK (dk_at25 hW) rfl 13 (by decide) (hts (.fieldLink RX1 51 "DogKings$Town" "dogHome" "[I") (List.mem_of_getElem? (i := 3) rfl)) rfl dX1_gives_96 ?_
    refine lv_iload_n hx hb dX1_gives_99 rfl (lv_at hl 3 rfl) ?_
    refine dk_ild (k := 33) hx hb hK (dk_at33 hW) (dkN_in (n := 6) dp1 rfl) dX1_gives_100 ?_
    refine lv_topi (fun v15 ev15 => ?_)
    have xv15 : v15 = I0 33 (Int32.toNatClampNeg p1) := ev15.trans ((hF2 33 (Int32.toNatClampNeg p1) (dkNin_k rfl (dkNin_k rfl dkNin_nil))).trans rfl)
    exact W.iret (v := v15) hx hb hr (fun t ht hW9 => ⟨⟨v15, I2, rfl, ⟨hF, hO, ⟨trivial, (show dkN [(3, 3)] (I2 338 2) from dkN_sub f2_338_2 rfl), (show dkN [(10, 10)] (I2 339 2) from dkN_sub f2_339_2 rfl), tp0, xv15, y3, y4, y5, y6, y7, y8, y9, y10, y11, y12, trivial⟩⟩, dkW_eq ht hW⟩, hS.F ht⟩) hS.2.2 dX1_gives_101
  ·
    exact (dkN_nil (show dkN [] 3 from dkN_le2 1 (dkN_lit (x := 5) (5) rfl) (dkN_lit (x := 3) (3) rfl) (dkc_nle c1) rfl)).elim
set_option maxHeartbeats 4000000 in
set_option maxRecDepth 100000 in
theorem fx_X1_begins_20 (l : Launch) (g : dkG) (z : Nat) (I0 : dkI) (p0 : Int32) (dp0 : dkN [(24, 24)] p0) (np0 : dkN [(3, 3)] (I0 338 2))  (hO : dkOk I0) : Met l yX1_begins wsX1_begins (dkR 0) (dkPc g z [.ref (z + 338), .int p0] I0) (dkQv g z (fun I1 => dkF [(338, 338, 2, 2), (339, 339, 3, 3)] I0 I1 ∧ dkOk I1 ∧ ((dkN [(4, 4)] (I1 338 2) ∧ dkN [(24, 24)] (I1 339 3) ∧ I1 338 2 = 4 ∧ I1 339 0 = I0 339 0 ∧ I1 339 1 = I0 339 1 ∧ I1 339 2 = I0 339 2 ∧ I1 339 3 = 24 ∧ I1 339 4 = I0 339 4 ∧ I1 339 5 = I0 339 5 ∧ I1 339 6 = I0 339 6 ∧ I1 339 7 = I0 339 7 ∧ I1 339  = dkV (I0 339) 3 24 ∧ True)))) 0 0 (dkA z) := by
  obtain rfl : p0 = 24 := dkN_is dp0 rfl
  refine Met.ofW (cc := cX1_begins) (maxL := 2) (ret := none) (by decide) rfl ?_
  intro p e s m args below meth c s₁ B hml hv
  obtain ⟨ha, hW, hK, hT⟩ := hv
  have hx := B.exec
  have hb := B.bytes
  have hr := B.returns
  have hts := atoms_spec (ws := wsX1_begins) B.pre
  have hown : s.vm.findClass RX1 = some m.cls := findClass_of_methodNamed B.named
  have hlocks := B.notSynchronized
  have hS : va_S (dkA z) s.heap s.heap [] := va_S.rf
  have hF : dkF [(338, 338, 2, 2), (339, 339, 3, 3)] I0 I0 := dkF_rf _ _
  have hl := lv_entry ([.ref (z + 338), .int 24]) (n := 2) (Nat.le_of_ble_eq_true rfl)
  have hgo : entryFrame m args 2 = entryFrame m ([.ref (z + 338), .int 24] : List Value).toArray 2 := by rw [ha]
  rw [hgo, lg_entry_eq]
  generalize (lg_sl ([.ref (z + 338), .int 24]) ++ List.replicate (2 - (lg_sl ([.ref (z + 338), .int 24])).length) Slot.unset).toArray = ls at hl ⊢
  have hl : lv_has ls 2 [(0, .ref (z + 338)), (1, .int 24)] := hl
  refine lv_aload_n hx hb dX1_begins_0 rfl (lv_at hl 0 rfl) ?_
  refine dk_get (k := 338) hx hb hts iX1_begins_1 hown hK (dk_at338 hW) rfl 2 (by decide) (hts (.fieldLink RX1 19 "DogKings$Asks" "tracedCount" "I") (List.mem_of_getElem? (i := 1) rfl)) rfl dX1_begins_1 ?_
  refine lv_topi (fun v1 ev1 => ?_)
  have dv1 : dkN [(3, 3)] v1 := by rw [ev1]; exact np0
  have xv1 : v1 = 3 := dkN_is dv1 rfl
  subst xv1
  refine lv_bipush (v := 16) hx hb dX1_begins_4 (by decide) ?_
  refine lv_icmp_ge (tgt := 29) hx hb dX1_begins_6 (by decide) (fun c2 => ?_) (fun c2 => ?_)
  ·
    exact (dkN_nil (show dkN [] 16 from dkN_le1 0 (dkN_lit (x := 16) (16) rfl) (dkN_lit (x := 3) (3) rfl) (dkc_le c2) rfl)).elim
  ·
    refine lv_aload_n hx hb dX1_begins_9 rfl (lv_at hl 0 rfl) ?_
    refine dk_get (k := 338) hx hb hts iX1_begins_1 hown hK (dk_at338 hW) rfl 1 (by decide) (hts (.fieldLink RX1 11 "DogKings$Asks" "traced" "[I") (List.mem_of_getElem? (i := 2) rfl)) rfl dX1_begins_10 ?_
    refine lv_aload_n hx hb dX1_begins_13 rfl (lv_at hl 0 rfl) ?_
    refine dk_get (k := 338) hx hb hts iX1_begins_1 hown hK (dk_at338 hW) rfl 2 (by decide) (hts (.fieldLink RX1 19 "DogKings$Asks" "tracedCount" "I") (List.mem_of_getElem? (i := 1) rfl)) rfl dX1_begins_14 ?_
    refine lv_topi (fun v3 ev3 => ?_)
    have dv3 : dkN [(3, 3)] v3 := by rw [ev3]; exact np0
    have xv3 : v3 = 3 := dkN_is dv3 rfl
    subst xv3
    refine lv_iload_n hx hb dX1_begins_17 rfl (lv_at hl 1 rfl) ?_
    refine dk_ist (k := 339) hx hb hK hW (fun _ => rfl) (by decide) hS (dkN_in (n := 16) (dkN_lit (x := 3) (3) rfl) rfl) dX1_begins_18 (fun I4 H4 L4 eI4 hW hS => ?_)
    have eI4 : I4 = dkU I0 339 3 24 := eI4
    have hO := dkO_set hO eI4 (dkN_sub (dkN_lit (x := 24) (24) rfl) rfl)
    have hF := dkF_set hF eI4 rfl
    refine lv_aload_n hx hb dX1_begins_19 rfl (lv_at hl 0 rfl) ?_
    refine lv_dup hx hb dX1_begins_20 rfl ?_
    refine dk_get (k := 338) hx hb hts iX1_begins_1 hown hK (dk_at338 hW) rfl 2 (by decide) (hts (.fieldLink RX1 19 "DogKings$Asks" "tracedCount" "I") (List.mem_of_getElem? (i := 1) rfl)) rfl dX1_begins_21 ?_
    refine lv_topi (fun v5 ev5 => ?_)
    have dv5 : dkN [(3, 3)] v5 := by rw [ev5]; exact (by rw [eI4, dkU_n (by decide)]; exact np0)
    have xv5 : v5 = 3 := dkN_is dv5 rfl
    subst xv5
    refine lv_iconst (v := 1) hx hb dX1_begins_24 (by decide) ?_
    refine lv_iadd hx hb dX1_begins_25 ?_
    refine lv_topi (fun v6 ev6 => ?_)
    have dv6 : dkN [(4, 4)] v6 := by rw [ev6]; exact dkN_add (dkN_lit (x := 3) (3) rfl) (dkN_lit (x := 1) (1) rfl) rfl
    have xv6 : v6 = 4 := by rw [ev6]; rfl
    subst xv6
    refine dk_put (k := 338) hx hb hts iX1_begins_1 tyX1 tyX1_ok nmX1 hown hK hW (dk_at338 hW) hS rfl 2 (by decide) (hts (.fieldLink RX1 19 "DogKings$Asks" "tracedCount" "I") (List.mem_of_getElem? (i := 1) rfl)) rfl rfl (Nat.le_of_ble_eq_true rfl) rfl dX1_begins_26 (fun I7 H7 L7 eI7 hW hS => ?_)
    have eI7 : I7 = dkU I4 338 2 4 := eI7
    have hO := dkO_set hO eI7 (dkN_sub (dkN_lit (x := 4) (4) rfl) rfl)
    have hF := dkF_set hF eI7 rfl
    exact W.vret hx hb hr (fun t ht hW9 => ⟨⟨I7, rfl, ⟨hF, hO, ⟨(show dkN [(4, 4)] (I7 338 2) from dkN_sub (by rw [eI7, dkU_ss]; exact (dkN_lit (x := 4) (4) rfl)) rfl), (show dkN [(24, 24)] (I7 339 3) from dkN_sub (by rw [eI7, dkU_n (by decide)]; exact (by rw [eI4, dkU_ss]; exact (dkN_lit (x := 24) (24) rfl))) rfl), (by rw [eI7, dkU_ss]), ((by rw [eI7, dkU_n (by decide)] : I7 339 0 = _).trans ((by rw [eI4, dkU_sn (by decide)] : I4 339 0 = _).trans rfl)), ((by rw [eI7, dkU_n (by decide)] : I7 339 1 = _).trans ((by rw [eI4, dkU_sn (by decide)] : I4 339 1 = _).trans rfl)), ((by rw [eI7, dkU_n (by decide)] : I7 339 2 = _).trans ((by rw [eI4, dkU_sn (by decide)] : I4 339 2 = _).trans rfl)), ((by rw [eI7, dkU_n (by decide)] : I7 339 3 = _).trans (by rw [eI4, dkU_ss])), ((by rw [eI7, dkU_n (by decide)] : I7 339 4 = _).trans ((by rw [eI4, dkU_sn (by decide)] : I4 339 4 = _).trans rfl)), ((by rw [eI7, dkU_n (by decide)] : I7 339 5 = _).trans ((by rw [eI4, dkU_sn (by decide)] : I4 339 5 = _).trans rfl)), ((by rw [eI7, dkU_n (by decide)] : I7 339 6 = _).trans ((by rw [eI4, dkU_sn (by decide)] : I4 339 6 = _).trans rfl)), ((by rw [eI7, dkU_n (by decide)] : I7 339 7 = _).trans ((by rw [eI4, dkU_sn (by decide)] : I4 339 7 = _).trans rfl)), ((by rw [eI7, dkU_n (by decide)] : I7 339 = _).trans (by rw [eI4, dkU_s, show (I0 339) = I0 339 from rfl])), trivial⟩⟩, dkW_eq ht hW⟩, hS.F ht⟩) hS.2.2 dX1_begins_29
set_option maxHeartbeats 4000000 in
set_option maxRecDepth 100000 in
theorem fx_X1_begins_21 (l : Launch) (g : dkG) (z : Nat) (I0 : dkI) (p0 : Int32) (dp0 : dkN [(21, 21)] p0) (np0 : dkN [(4, 4)] (I0 338 2))  (hO : dkOk I0) : Met l yX1_begins wsX1_begins (dkR 0) (dkPc g z [.ref (z + 338), .int p0] I0) (dkQv g z (fun I1 => dkF [(338, 338, 2, 2), (339, 339, 4, 4)] I0 I1 ∧ dkOk I1 ∧ ((dkN [(5, 5)] (I1 338 2) ∧ dkN [(21, 21)] (I1 339 4) ∧ I1 338 2 = 5 ∧ I1 339 0 = I0 339 0 ∧ I1 339 1 = I0 339 1 ∧ I1 339 2 = I0 339 2 ∧ I1 339 3 = I0 339 3 ∧ I1 339 4 = 21 ∧ I1 339 5 = I0 339 5 ∧ I1 339 6 = I0 339 6 ∧ I1 339 7 = I0 339 7 ∧ I1 339  = dkV (I0 339) 4 21 ∧ True)))) 0 0 (dkA z) := by
  obtain rfl : p0 = 21 := dkN_is dp0 rfl
  refine Met.ofW (cc := cX1_begins) (maxL := 2) (ret := none) (by decide) rfl ?_
  intro p e s m args below meth c s₁ B hml hv
  obtain ⟨ha, hW, hK, hT⟩ := hv
  have hx := B.exec
  have hb := B.bytes
  have hr := B.returns
  have hts := atoms_spec (ws := wsX1_begins) B.pre
  have hown : s.vm.findClass RX1 = some m.cls := findClass_of_methodNamed B.named
  have hlocks := B.notSynchronized
  have hS : va_S (dkA z) s.heap s.heap [] := va_S.rf
  have hF : dkF [(338, 338, 2, 2), (339, 339, 4, 4)] I0 I0 := dkF_rf _ _
  have hl := lv_entry ([.ref (z + 338), .int 21]) (n := 2) (Nat.le_of_ble_eq_true rfl)
  have hgo : entryFrame m args 2 = entryFrame m ([.ref (z + 338), .int 21] : List Value).toArray 2 := by rw [ha]
  rw [hgo, lg_entry_eq]
  generalize (lg_sl ([.ref (z + 338), .int 21]) ++ List.replicate (2 - (lg_sl ([.ref (z + 338), .int 21])).length) Slot.unset).toArray = ls at hl ⊢
  have hl : lv_has ls 2 [(0, .ref (z + 338)), (1, .int 21)] := hl
  refine lv_aload_n hx hb dX1_begins_0 rfl (lv_at hl 0 rfl) ?_
  refine dk_get (k := 338) hx hb hts iX1_begins_1 hown hK (dk_at338 hW) rfl 2 (by decide) (hts (.fieldLink RX1 19 "DogKings$Asks" "tracedCount" "I") (List.mem_of_getElem? (i := 1) rfl)) rfl dX1_begins_1 ?_
  refine lv_topi (fun v1 ev1 => ?_)
  have dv1 : dkN [(4, 4)] v1 := by rw [ev1]; exact np0
  have xv1 : v1 = 4 := dkN_is dv1 rfl
  subst xv1
  refine lv_bipush (v := 16) hx hb dX1_begins_4 (by decide) ?_
  refine lv_icmp_ge (tgt := 29) hx hb dX1_begins_6 (by decide) (fun c2 => ?_) (fun c2 => ?_)
  ·
    exact (dkN_nil (show dkN [] 16 from dkN_le1 0 (dkN_lit (x := 16) (16) rfl) (dkN_lit (x := 4) (4) rfl) (dkc_le c2) rfl)).elim
  ·
    refine lv_aload_n hx hb dX1_begins_9 rfl (lv_at hl 0 rfl) ?_
    refine dk_get (k := 338) hx hb hts iX1_begins_1 hown hK (dk_at338 hW) rfl 1 (by decide) (hts (.fieldLink RX1 11 "DogKings$Asks" "traced" "[I") (List.mem_of_getElem? (i := 2) rfl)) rfl dX1_begins_10 ?_
    refine lv_aload_n hx hb dX1_begins_13 rfl (lv_at hl 0 rfl) ?_
    refine dk_get (k := 338) hx hb hts iX1_begins_1 hown hK (dk_at338 hW) rfl 2 (by decide) (hts (.fieldLink RX1 19 "DogKings$Asks" "tracedCount" "I") (List.mem_of_getElem? (i := 1) rfl)) rfl dX1_begins_14 ?_
    refine lv_topi (fun v3 ev3 => ?_)
    have dv3 : dkN [(4, 4)] v3 := by rw [ev3]; exact np0
    have xv3 : v3 = 4 := dkN_is dv3 rfl
    subst xv3
    refine lv_iload_n hx hb dX1_begins_17 rfl (lv_at hl 1 rfl) ?_
    refine dk_ist (k := 339) hx hb hK hW (fun _ => rfl) (by decide) hS (dkN_in (n := 16) (dkN_lit (x := 4) (4) rfl) rfl) dX1_begins_18 (fun I4 H4 L4 eI4 hW hS => ?_)
    have eI4 : I4 = dkU I0 339 4 21 := eI4
    have hO := dkO_set hO eI4 (dkN_sub (dkN_lit (x := 21) (21) rfl) rfl)
    have hF := dkF_set hF eI4 rfl
    refine lv_aload_n hx hb dX1_begins_19 rfl (lv_at hl 0 rfl) ?_
    refine lv_dup hx hb dX1_begins_20 rfl ?_
    refine dk_get (k := 338) hx hb hts iX1_begins_1 hown hK (dk_at338 hW) rfl 2 (by decide) (hts (.fieldLink RX1 19 "DogKings$Asks" "tracedCount" "I") (List.mem_of_getElem? (i := 1) rfl)) rfl dX1_begins_21 ?_
    refine lv_topi (fun v5 ev5 => ?_)
    have dv5 : dkN [(4, 4)] v5 := by rw [ev5]; exact (by rw [eI4, dkU_n (by decide)]; exact np0)
    have xv5 : v5 = 4 := dkN_is dv5 rfl
    subst xv5
    refine lv_iconst (v := 1) hx hb dX1_begins_24 (by decide) ?_
    refine lv_iadd hx hb dX1_begins_25 ?_
    refine lv_topi (fun v6 ev6 => ?_)
    have dv6 : dkN [(5, 5)] v6 := by rw [ev6]; exact dkN_add (dkN_lit (x := 4) (4) rfl) (dkN_lit (x := 1) (1) rfl) rfl
    have xv6 : v6 = 5 := by rw [ev6]; rfl
    subst xv6
    refine dk_put (k := 338) hx hb hts iX1_begins_1 tyX1 tyX1_ok nmX1 hown hK hW (dk_at338 hW) hS rfl 2 (by decide) (hts (.fieldLink RX1 19 "DogKings$Asks" "tracedCount" "I") (List.mem_of_getElem? (i := 1) rfl)) rfl rfl (Nat.le_of_ble_eq_true rfl) rfl dX1_begins_26 (fun I7 H7 L7 eI7 hW hS => ?_)
    have eI7 : I7 = dkU I4 338 2 5 := eI7
    have hO := dkO_set hO eI7 (dkN_sub (dkN_lit (x := 5) (5) rfl) rfl)
    have hF := dkF_set hF eI7 rfl
    exact W.vret hx hb hr (fun t ht hW9 => ⟨⟨I7, rfl, ⟨hF, hO, ⟨(show dkN [(5, 5)] (I7 338 2) from dkN_sub (by rw [eI7, dkU_ss]; exact (dkN_lit (x := 5) (5) rfl)) rfl), (show dkN [(21, 21)] (I7 339 4) from dkN_sub (by rw [eI7, dkU_n (by decide)]; exact (by rw [eI4, dkU_ss]; exact (dkN_lit (x := 21) (21) rfl))) rfl), (by rw [eI7, dkU_ss]), ((by rw [eI7, dkU_n (by decide)] : I7 339 0 = _).trans ((by rw [eI4, dkU_sn (by decide)] : I4 339 0 = _).trans rfl)), ((by rw [eI7, dkU_n (by decide)] : I7 339 1 = _).trans ((by rw [eI4, dkU_sn (by decide)] : I4 339 1 = _).trans rfl)), ((by rw [eI7, dkU_n (by decide)] : I7 339 2 = _).trans ((by rw [eI4, dkU_sn (by decide)] : I4 339 2 = _).trans rfl)), ((by rw [eI7, dkU_n (by decide)] : I7 339 3 = _).trans ((by rw [eI4, dkU_sn (by decide)] : I4 339 3 = _).trans rfl)), ((by rw [eI7, dkU_n (by decide)] : I7 339 4 = _).trans (by rw [eI4, dkU_ss])), ((by rw [eI7, dkU_n (by decide)] : I7 339 5 = _).trans ((by rw [eI4, dkU_sn (by decide)] : I4 339 5 = _).trans rfl)), ((by rw [eI7, dkU_n (by decide)] : I7 339 6 = _).trans ((by rw [eI4, dkU_sn (by decide)] : I4 339 6 = _).trans rfl)), ((by rw [eI7, dkU_n (by decide)] : I7 339 7 = _).trans ((by rw [eI4, dkU_sn (by decide)] : I4 339 7 = _).trans rfl)), ((by rw [eI7, dkU_n (by decide)] : I7 339 = _).trans (by rw [eI4, dkU_s, show (I0 339) = I0 339 from rfl])), trivial⟩⟩, dkW_eq ht hW⟩, hS.F ht⟩) hS.2.2 dX1_begins_29
set_option maxHeartbeats 4000000 in
set_option maxRecDepth 100000 in
theorem fx_X1_begins_22 (l : Launch) (g : dkG) (z : Nat) (I0 : dkI) (p0 : Int32) (dp0 : dkN [(20, 20)] p0) (np0 : dkN [(5, 5)] (I0 338 2))  (hO : dkOk I0) : Met l yX1_begins wsX1_begins (dkR 0) (dkPc g z [.ref (z + 338), .int p0] I0) (dkQv g z (fun I1 => dkF [(338, 338, 2, 2), (339, 339, 5, 5)] I0 I1 ∧ dkOk I1 ∧ ((dkN [(6, 6)] (I1 338 2) ∧ dkN [(20, 20)] (I1 339 5) ∧ I1 338 2 = 6 ∧ I1 339 0 = I0 339 0 ∧ I1 339 1 = I0 339 1 ∧ I1 339 2 = I0 339 2 ∧ I1 339 3 = I0 339 3 ∧ I1 339 4 = I0 339 4 ∧ I1 339 5 = 20 ∧ I1 339 6 = I0 339 6 ∧ I1 339 7 = I0 339 7 ∧ I1 339  = dkV (I0 339) 5 20 ∧ True)))) 0 0 (dkA z) := by
  obtain rfl : p0 = 20 := dkN_is dp0 rfl
  refine Met.ofW (cc := cX1_begins) (maxL := 2) (ret := none) (by decide) rfl ?_
  intro p e s m args below meth c s₁ B hml hv
  obtain ⟨ha, hW, hK, hT⟩ := hv
  have hx := B.exec
  have hb := B.bytes
  have hr := B.returns
  have hts := atoms_spec (ws := wsX1_begins) B.pre
  have hown : s.vm.findClass RX1 = some m.cls := findClass_of_methodNamed B.named
  have hlocks := B.notSynchronized
  have hS : va_S (dkA z) s.heap s.heap [] := va_S.rf
  have hF : dkF [(338, 338, 2, 2), (339, 339, 5, 5)] I0 I0 := dkF_rf _ _
  have hl := lv_entry ([.ref (z + 338), .int 20]) (n := 2) (Nat.le_of_ble_eq_true rfl)
  have hgo : entryFrame m args 2 = entryFrame m ([.ref (z + 338), .int 20] : List Value).toArray 2 := by rw [ha]
  rw [hgo, lg_entry_eq]
  generalize (lg_sl ([.ref (z + 338), .int 20]) ++ List.replicate (2 - (lg_sl ([.ref (z + 338), .int 20])).length) Slot.unset).toArray = ls at hl ⊢
  have hl : lv_has ls 2 [(0, .ref (z + 338)), (1, .int 20)] := hl
  refine lv_aload_n hx hb dX1_begins_0 rfl (lv_at hl 0 rfl) ?_
  refine dk_get (k := 338) hx hb hts iX1_begins_1 hown hK (dk_at338 hW) rfl 2 (by decide) (hts (.fieldLink RX1 19 "DogKings$Asks" "tracedCount" "I") (List.mem_of_getElem? (i := 1) rfl)) rfl dX1_begins_1 ?_
  refine lv_topi (fun v1 ev1 => ?_)
  have dv1 : dkN [(5, 5)] v1 := by rw [ev1]; exact np0
  have xv1 : v1 = 5 := dkN_is dv1 rfl
  subst xv1
  refine lv_bipush (v := 16) hx hb dX1_begins_4 (by decide) ?_
  refine lv_icmp_ge (tgt := 29) hx hb dX1_begins_6 (by decide) (fun c2 => ?_) (fun c2 => ?_)
  ·
    exact (dkN_nil (show dkN [] 16 from dkN_le1 0 (dkN_lit (x := 16) (16) rfl) (dkN_lit (x := 5) (5) rfl) (dkc_le c2) rfl)).elim
  ·
    refine lv_aload_n hx hb dX1_begins_9 rfl (lv_at hl 0 rfl) ?_
    refine dk_get (k := 338) hx hb hts iX1_begins_1 hown hK (dk_at338 hW) rfl 1 (by decide) (hts (.fieldLink RX1 11 "DogKings$Asks" "traced" "[I") (List.mem_of_getElem? (i := 2) rfl)) rfl dX1_begins_10 ?_
    refine lv_aload_n hx hb dX1_begins_13 rfl (lv_at hl 0 rfl) ?_
    refine dk_get (k := 338) hx hb hts iX1_begins_1 hown hK (dk_at338 hW) rfl 2 (by decide) (hts (.fieldLink RX1 19 "DogKings$Asks" "tracedCount" "I") (List.mem_of_getElem? (i := 1) rfl)) rfl dX1_begins_14 ?_
    refine lv_topi (fun v3 ev3 => ?_)
    have dv3 : dkN [(5, 5)] v3 := by rw [ev3]; exact np0
    have xv3 : v3 = 5 := dkN_is dv3 rfl
    subst xv3
    refine lv_iload_n hx hb dX1_begins_17 rfl (lv_at hl 1 rfl) ?_
    refine dk_ist (k := 339) hx hb hK hW (fun _ => rfl) (by decide) hS (dkN_in (n := 16) (dkN_lit (x := 5) (5) rfl) rfl) dX1_begins_18 (fun I4 H4 L4 eI4 hW hS => ?_)
    have eI4 : I4 = dkU I0 339 5 20 := eI4
    have hO := dkO_set hO eI4 (dkN_sub (dkN_lit (x := 20) (20) rfl) rfl)
    have hF := dkF_set hF eI4 rfl
    refine lv_aload_n hx hb dX1_begins_19 rfl (lv_at hl 0 rfl) ?_
    refine lv_dup hx hb dX1_begins_20 rfl ?_
    refine dk_get (k := 338) hx hb hts iX1_begins_1 hown hK (dk_at338 hW) rfl 2 (by decide) (hts (.fieldLink RX1 19 "DogKings$Asks" "tracedCount" "I") (List.mem_of_getElem? (i := 1) rfl)) rfl dX1_begins_21 ?_
    refine lv_topi (fun v5 ev5 => ?_)
    have dv5 : dkN [(5, 5)] v5 := by rw [ev5]; exact (by rw [eI4, dkU_n (by decide)]; exact np0)
    have xv5 : v5 = 5 := dkN_is dv5 rfl
    subst xv5
    refine lv_iconst (v := 1) hx hb dX1_begins_24 (by decide) ?_
    refine lv_iadd hx hb dX1_begins_25 ?_
    refine lv_topi (fun v6 ev6 => ?_)
    have dv6 : dkN [(6, 6)] v6 := by rw [ev6]; exact dkN_add (dkN_lit (x := 5) (5) rfl) (dkN_lit (x := 1) (1) rfl) rfl
    have xv6 : v6 = 6 := by rw [ev6]; rfl
    subst xv6
    refine dk_put (k := 338) hx hb hts iX1_begins_1 tyX1 tyX1_ok nmX1 hown hK hW (dk_at338 hW) hS rfl 2 (by decide) (hts (.fieldLink RX1 19 "DogKings$Asks" "tracedCount" "I") (List.mem_of_getElem? (i := 1) rfl)) rfl rfl (Nat.le_of_ble_eq_true rfl) rfl dX1_begins_26 (fun I7 H7 L7 eI7 hW hS => ?_)
    have eI7 : I7 = dkU I4 338 2 6 := eI7
    have hO := dkO_set hO eI7 (dkN_sub (dkN_lit (x := 6) (6) rfl) rfl)
    have hF := dkF_set hF eI7 rfl
    exact W.vret hx hb hr (fun t ht hW9 => ⟨⟨I7, rfl, ⟨hF, hO, ⟨(show dkN [(6, 6)] (I7 338 2) from dkN_sub (by rw [eI7, dkU_ss]; exact (dkN_lit (x := 6) (6) rfl)) rfl), (show dkN [(20, 20)] (I7 339 5) from dkN_sub (by rw [eI7, dkU_n (by decide)]; exact (by rw [eI4, dkU_ss]; exact (dkN_lit (x := 20) (20) rfl))) rfl), (by rw [eI7, dkU_ss]), ((by rw [eI7, dkU_n (by decide)] : I7 339 0 = _).trans ((by rw [eI4, dkU_sn (by decide)] : I4 339 0 = _).trans rfl)), ((by rw [eI7, dkU_n (by decide)] : I7 339 1 = _).trans ((by rw [eI4, dkU_sn (by decide)] : I4 339 1 = _).trans rfl)), ((by rw [eI7, dkU_n (by decide)] : I7 339 2 = _).trans ((by rw [eI4, dkU_sn (by decide)] : I4 339 2 = _).trans rfl)), ((by rw [eI7, dkU_n (by decide)] : I7 339 3 = _).trans ((by rw [eI4, dkU_sn (by decide)] : I4 339 3 = _).trans rfl)), ((by rw [eI7, dkU_n (by decide)] : I7 339 4 = _).trans ((by rw [eI4, dkU_sn (by decide)] : I4 339 4 = _).trans rfl)), ((by rw [eI7, dkU_n (by decide)] : I7 339 5 = _).trans (by rw [eI4, dkU_ss])), ((by rw [eI7, dkU_n (by decide)] : I7 339 6 = _).trans ((by rw [eI4, dkU_sn (by decide)] : I4 339 6 = _).trans rfl)), ((by rw [eI7, dkU_n (by decide)] : I7 339 7 = _).trans ((by rw [eI4, dkU_sn (by decide)] : I4 339 7 = _).trans rfl)), ((by rw [eI7, dkU_n (by decide)] : I7 339 = _).trans (by rw [eI4, dkU_s, show (I0 339) = I0 339 from rfl])), trivial⟩⟩, dkW_eq ht hW⟩, hS.F ht⟩) hS.2.2 dX1_begins_29
set_option maxHeartbeats 4000000 in
set_option maxRecDepth 100000 in
theorem fx_X1_gives_50 (l : Launch) (g : dkG) (z : Nat) (I0 : dkI) (p0 : Int32) (p1 : Int32) (p2 : Int32) (dp0 : dkN [(20, 20)] p0) (dp1 : dkN [(0, 5)] p1) (dp2 : dkN [(5, 5)] p2) (np0 : dkN [(5, 5)] (I0 338 2))  (tp0 : (I0 32 (Int32.toNatClampNeg p1)).toInt = (2 : Int)) (hO : dkOk I0) : Met l yX1_gives wsX1_gives (dkR 1) (dkPc g z [.ref (z + 338), .int p0, .int p1, .int p2] I0) (dkQi g z (fun r I1 => dkF [(338, 338, 2, 2), (339, 339, 5, 5)] I0 I1 ∧ dkOk I1 ∧ ((dkN [(0, 5)] r ∧ dkN [(6, 6)] (I1 338 2) ∧ dkN [(20, 20)] (I1 339 5) ∧ (I0 32 (Int32.toNatClampNeg p1)).toInt = (2 : Int) ∧ r = p1 ∧ I1 338 2 = 6 ∧ I1 339 0 = I0 339 0 ∧ I1 339 1 = I0 339 1 ∧ I1 339 2 = I0 339 2 ∧ I1 339 3 = I0 339 3 ∧ I1 339 4 = I0 339 4 ∧ I1 339 5 = 20 ∧ I1 339 6 = I0 339 6 ∧ I1 339 7 = I0 339 7 ∧ I1 339  = dkV (I0 339) 5 20 ∧ True)))) 0 0 (dkA z) := by
  obtain rfl : p0 = 20 := dkN_is dp0 rfl
  obtain rfl : p2 = 5 := dkN_is dp2 rfl
  refine Met.ofW (cc := cX1_gives) (maxL := 5) (ret := (some .int)) (by decide) rfl ?_
  intro p e s m args below meth c s₁ B hml hv
  obtain ⟨ha, hW, hK, hT⟩ := hv
  have hx := B.exec
  have hb := B.bytes
  have hr := B.returns
  have hts := atoms_spec (ws := wsX1_gives) B.pre
  have hown : s.vm.findClass RX1 = some m.cls := findClass_of_methodNamed B.named
  have hlocks := B.notSynchronized
  have hS : va_S (dkA z) s.heap s.heap [] := va_S.rf
  have hF : dkF [(338, 338, 2, 2), (339, 339, 5, 5)] I0 I0 := dkF_rf _ _
  have hl := lv_entry ([.ref (z + 338), .int 20, .int p1, .int 5]) (n := 5) (Nat.le_of_ble_eq_true rfl)
  have hgo : entryFrame m args 5 = entryFrame m ([.ref (z + 338), .int 20, .int p1, .int 5] : List Value).toArray 5 := by rw [ha]
  rw [hgo, lg_entry_eq]
  generalize (lg_sl ([.ref (z + 338), .int 20, .int p1, .int 5]) ++ List.replicate (5 - (lg_sl ([.ref (z + 338), .int 20, .int p1, .int 5])).length) Slot.unset).toArray = ls at hl ⊢
  have hl : lv_has ls 5 [(0, .ref (z + 338)), (1, .int 20), (2, .int p1), (3, .int 5)] := hl
  refine lv_iload_n hx hb dX1_gives_0 rfl (lv_at hl 3 rfl) ?_
  refine lv_iconst (v := 5) hx hb dX1_gives_1 (by decide) ?_
  refine lv_icmp_le (tgt := 8) hx hb dX1_gives_2 (by decide) (fun c1 => ?_) (fun c1 => ?_)
  ·
    refine lv_aload_n hx hb dX1_gives_8 rfl (lv_at hl 0 rfl) ?_
    refine lv_iload_n hx hb dX1_gives_9 rfl (lv_at hl 1 rfl) ?_
    refine dk_Vv (As := [.int 20]) (rest := []) ⟨hx, hb, hml, hown, hts⟩ (fx_X1_begins_22 l g z I0 20 (dkN_lit (x := 20) (20) rfl) (show dkN [(5, 5)] (I0 338 2) from dkN_sub np0 rfl) hO) (cwV 1 hts gX1_gives_X1_begins rfl rfl rfl (by decide +kernel) ⟨Nat.le_of_ble_eq_true rfl, Nat.le_of_ble_eq_true rfl⟩) (dk_at338 hW) rfl hK hT hW hS rfl hl.1 rfl (Nat.le_of_ble_eq_true rfl) dX1_gives_10 ⟨Nat.zero_le _, Nat.zero_le _⟩ (fun I2 H2 L2 hp2 hW hS => ?_)
    obtain ⟨hF2, hO, hc2⟩ := hp2
    have hF := dkF_call hF hF2 rfl
    obtain ⟨f2_338_2, f2_339_5, xh2_0, xh2_1, xh2_2, xh2_3, xh2_4, xh2_5, xh2_6, xh2_7, xh2_8, xh2_9, -⟩ := hc2
    have y3 : I2 338 2 = 6 := by have h := xh2_0; exact h
    have y4 : I2 339 0 = I0 339 0 := by have h := xh2_1; exact h
    have y5 : I2 339 1 = I0 339 1 := by have h := xh2_2; exact h
    have y6 : I2 339 2 = I0 339 2 := by have h := xh2_3; exact h
    have y7 : I2 339 3 = I0 339 3 := by have h := xh2_4; exact h
    have y8 : I2 339 4 = I0 339 4 := by have h := xh2_5; exact h
    have y9 : I2 339 5 = 20 := by have h := xh2_6; exact h
    have y10 : I2 339 6 = I0 339 6 := by have h := xh2_7; exact h
    have y11 : I2 339 7 = I0 339 7 := by have h := xh2_8; exact h
    have y12 : I2 339 = dkV (I0 339) 5 20 := by have h := xh2_9; exact h
    refine lv_iload_n hx hb dX1_gives_13 rfl (lv_at hl 3 rfl) ?_
    refine lv_iconst (v := 1) hx hb dX1_gives_14 (by decide) ?_
    refine lv_iadd hx hb dX1_gives_15 ?_
    refine lv_topi (fun v13 ev13 => ?_)
    have dv13 : dkN [(6, 6)] v13 := by rw [ev13]; exact dkN_add (dkN_lit (x := 5) (5) rfl) (dkN_lit (x := 1) (1) rfl) rfl
    have xv13 : v13 = 6 := by rw [ev13]; rfl
    subst xv13
    refine lv_istore (lv' := [(4, .int 6), (0, .ref (z + 338)), (1, .int 20), (2, .int p1), (3, .int 5)]) hx hb dX1_gives_16 hl (by decide) rfl (fun ls hl => ?_)
    refine lv_iload_n hx hb dX1_gives_18 rfl (lv_at hl 2 rfl) ?_
    have qc14 : (20 : Int32).toInt = 20 := rfl
    refine lv_tableIn (tgt := 161) hx hb dX1_gives_19 (by rw [qc14]; decide) (by rw [qc14]; decide) (by rw [qc14]; rfl) (by decide) ?_
    refine lv_iload_n hx hb dX1_gives_161 rfl (lv_at hl 3 rfl) ?_
    exact W.iret (v := p1) hx hb hr (fun t ht hW9 => ⟨⟨p1, I2, rfl, ⟨hF, hO, ⟨dkN_sub dp1 rfl, (show dkN [(6, 6)] (I2 338 2) from dkN_sub f2_338_2 rfl), (show dkN [(20, 20)] (I2 339 5) from dkN_sub f2_339_5 rfl), tp0, rfl, y3, y4, y5, y6, y7, y8, y9, y10, y11, y12, trivial⟩⟩, dkW_eq ht hW⟩, hS.F ht⟩) hS.2.2 dX1_gives_162
  ·
    exact (dkN_nil (show dkN [] 5 from dkN_le2 1 (dkN_lit (x := 5) (5) rfl) (dkN_lit (x := 5) (5) rfl) (dkc_nle c1) rfl)).elim
set_option maxHeartbeats 4000000 in
set_option maxRecDepth 100000 in
theorem fx_X1_gives_49 (l : Launch) (g : dkG) (z : Nat) (I0 : dkI) (p0 : Int32) (p1 : Int32) (p2 : Int32) (dp0 : dkN [(21, 21)] p0) (dp1 : dkN [(0, 5)] p1) (dp2 : dkN [(4, 4)] p2) (np0 : dkN [(4, 4)] (I0 338 2))  (tp0 : (I0 32 (Int32.toNatClampNeg p1)).toInt = (2 : Int)) (hO : dkOk I0) : Met l yX1_gives wsX1_gives (dkR 2) (dkPc g z [.ref (z + 338), .int p0, .int p1, .int p2] I0) (dkQi g z (fun r I1 => dkF [(338, 338, 2, 2), (339, 339, 4, 5)] I0 I1 ∧ dkOk I1 ∧ ((True ∧ dkN [(6, 6)] (I1 338 2) ∧ dkN [(21, 21)] (I1 339 4) ∧ dkN [(20, 20)] (I1 339 5) ∧ (I0 32 (Int32.toNatClampNeg p1)).toInt = (2 : Int) ∧ ((I0 32) (Int32.toNatClampNeg p1)).toInt = (2 : Int) ∧ r = p1 + (I0 34 (Int32.toNatClampNeg p1)) ∧ I1 338 2 = 6 ∧ I1 339 0 = I0 339 0 ∧ I1 339 1 = I0 339 1 ∧ I1 339 2 = I0 339 2 ∧ I1 339 3 = I0 339 3 ∧ I1 339 4 = 21 ∧ I1 339 5 = 20 ∧ I1 339 6 = I0 339 6 ∧ I1 339 7 = I0 339 7 ∧ I1 339  = dkV (dkV (I0 339) 4 21) 5 20 ∧ True)))) 0 0 (dkA z) := by
  obtain rfl : p0 = 21 := dkN_is dp0 rfl
  obtain rfl : p2 = 4 := dkN_is dp2 rfl
  refine Met.ofW (cc := cX1_gives) (maxL := 5) (ret := (some .int)) (by decide) rfl ?_
  intro p e s m args below meth c s₁ B hml hv
  obtain ⟨ha, hW, hK, hT⟩ := hv
  have hx := B.exec
  have hb := B.bytes
  have hr := B.returns
  have hts := atoms_spec (ws := wsX1_gives) B.pre
  have hown : s.vm.findClass RX1 = some m.cls := findClass_of_methodNamed B.named
  have hlocks := B.notSynchronized
  have hS : va_S (dkA z) s.heap s.heap [] := va_S.rf
  have hF : dkF [(338, 338, 2, 2), (339, 339, 4, 5)] I0 I0 := dkF_rf _ _
  have hl := lv_entry ([.ref (z + 338), .int 21, .int p1, .int 4]) (n := 5) (Nat.le_of_ble_eq_true rfl)
  have hgo : entryFrame m args 5 = entryFrame m ([.ref (z + 338), .int 21, .int p1, .int 4] : List Value).toArray 5 := by rw [ha]
  rw [hgo, lg_entry_eq]
  generalize (lg_sl ([.ref (z + 338), .int 21, .int p1, .int 4]) ++ List.replicate (5 - (lg_sl ([.ref (z + 338), .int 21, .int p1, .int 4])).length) Slot.unset).toArray = ls at hl ⊢
  have hl : lv_has ls 5 [(0, .ref (z + 338)), (1, .int 21), (2, .int p1), (3, .int 4)] := hl
  refine lv_iload_n hx hb dX1_gives_0 rfl (lv_at hl 3 rfl) ?_
  refine lv_iconst (v := 5) hx hb dX1_gives_1 (by decide) ?_
  refine lv_icmp_le (tgt := 8) hx hb dX1_gives_2 (by decide) (fun c1 => ?_) (fun c1 => ?_)
  ·
    refine lv_aload_n hx hb dX1_gives_8 rfl (lv_at hl 0 rfl) ?_
    refine lv_iload_n hx hb dX1_gives_9 rfl (lv_at hl 1 rfl) ?_
    refine dk_Vv (As := [.int 21]) (rest := []) ⟨hx, hb, hml, hown, hts⟩ (fx_X1_begins_21 l g z I0 21 (dkN_lit (x := 21) (21) rfl) (show dkN [(4, 4)] (I0 338 2) from dkN_sub np0 rfl) hO) (cwV 1 hts gX1_gives_X1_begins rfl rfl rfl (by decide +kernel) ⟨Nat.le_of_ble_eq_true rfl, Nat.le_of_ble_eq_true rfl⟩) (dk_at338 hW) rfl hK hT hW hS rfl hl.1 rfl (Nat.le_of_ble_eq_true rfl) dX1_gives_10 ⟨Nat.zero_le _, Nat.zero_le _⟩ (fun I2 H2 L2 hp2 hW hS => ?_)
    obtain ⟨hF2, hO, hc2⟩ := hp2
    have hF := dkF_call hF hF2 rfl
    obtain ⟨f2_338_2, f2_339_4, xh2_0, xh2_1, xh2_2, xh2_3, xh2_4, xh2_5, xh2_6, xh2_7, xh2_8, xh2_9, -⟩ := hc2
    have y3 : I2 338 2 = 5 := by have h := xh2_0; exact h
    have y4 : I2 339 0 = I0 339 0 := by have h := xh2_1; exact h
    have y5 : I2 339 1 = I0 339 1 := by have h := xh2_2; exact h
    have y6 : I2 339 2 = I0 339 2 := by have h := xh2_3; exact h
    have y7 : I2 339 3 = I0 339 3 := by have h := xh2_4; exact h
    have y8 : I2 339 4 = 21 := by have h := xh2_5; exact h
    have y9 : I2 339 5 = I0 339 5 := by have h := xh2_6; exact h
    have y10 : I2 339 6 = I0 339 6 := by have h := xh2_7; exact h
    have y11 : I2 339 7 = I0 339 7 := by have h := xh2_8; exact h
    have y12 : I2 339 = dkV (I0 339) 4 21 := by have h := xh2_9; exact h
    refine lv_iload_n hx hb dX1_gives_13 rfl (lv_at hl 3 rfl) ?_
    refine lv_iconst (v := 1) hx hb dX1_gives_14 (by decide) ?_
    refine lv_iadd hx hb dX1_gives_15 ?_
    refine lv_topi (fun v13 ev13 => ?_)
    have dv13 : dkN [(5, 5)] v13 := by rw [ev13]; exact dkN_add (dkN_lit (x := 4) (4) rfl) (dkN_lit (x := 1) (1) rfl) rfl
    have xv13 : v13 = 5 := by rw [ev13]; rfl
    subst xv13
    refine lv_istore (lv' := [(4, .int 5), (0, .ref (z + 338)), (1, .int 21), (2, .int p1), (3, .int 4)]) hx hb dX1_gives_16 hl (by decide) rfl (fun ls hl => ?_)
    refine lv_iload_n hx hb dX1_gives_18 rfl (lv_at hl 2 rfl) ?_
    have qc14 : (21 : Int32).toInt = 21 := rfl
    refine lv_tableIn (tgt := 163) hx hb dX1_gives_19 (by rw [qc14]; decide) (by rw [qc14]; decide) (by rw [qc14]; rfl) (by decide) ?_
    refine lv_aload_n hx hb dX1_gives_163 rfl (lv_at hl 1 rfl) ?_
    refine lv_bipush (v := 20) hx hb dX1_gives_164 (by decide) ?_
    refine lv_iload_n hx hb dX1_gives_166 rfl (lv_at hl 3 rfl) ?_
    refine lv_iload hx hb dX1_gives_167 (lv_at hl 0 rfl) ?_
    refine dk_Vi (As := [.int 20, .int p1, .int 5]) (rest := []) ⟨hx, hb, hml, hown, hts⟩ (fx_X1_gives_50 l g z I2 20 p1 5 (dkN_lit (x := 20) (20) rfl) dp1 (dkN_lit (x := 5) (5) rfl) (show dkN [(5, 5)] (I2 338 2) from dkN_sub f2_338_2 rfl) (by rw [(show I2 32 = I0 32 from ((funext fun j => hF2 32 j (dkNin_k rfl (dkNin_k rfl dkNin_nil))).trans rfl))]; exact tp0) hO) (cwV 3 hts gX1_gives_X1_gives rfl rfl rfl (by decide +kernel) ⟨Nat.le_of_ble_eq_true rfl, Nat.le_of_ble_eq_true rfl⟩) (dk_at338 hW) rfl hK hT hW hS rfl hl.1 rfl (Nat.le_of_ble_eq_true rfl) dX1_gives_169 ⟨Nat.zero_le _, Nat.zero_le _⟩ (fun v15 I15 H15 L15 hp15 hW hS => ?_)
    obtain ⟨hF15, hO, hc15⟩ := hp15
    have hF := dkF_call hF hF15 rfl
    obtain ⟨dv15, f15_338_2, f15_339_5, x15_0, xr15, xh15_0, xh15_1, xh15_2, xh15_3, xh15_4, xh15_5, xh15_6, xh15_7, xh15_8, xh15_9, -⟩ := hc15
    have w16 : I2 32 = I0 32 := ((funext fun j => hF2 32 j (dkNin_k rfl (dkNin_k rfl dkNin_nil))).trans rfl)
    have q17 : ((I0 32) (Int32.toNatClampNeg p1)).toInt = (2 : Int) := by have h := x15_0; rw [w16] at h; exact h
    have y18 : I15 338 2 = 6 := by have h := xh15_0; exact h
    have w19 : I2 339 0 = I0 339 0 := y4
    have y20 : I15 339 0 = I0 339 0 := by have h := xh15_1; rw [w19] at h; exact h
    have w21 : I2 339 1 = I0 339 1 := y5
    have y22 : I15 339 1 = I0 339 1 := by have h := xh15_2; rw [w21] at h; exact h
    have w23 : I2 339 2 = I0 339 2 := y6
    have y24 : I15 339 2 = I0 339 2 := by have h := xh15_3; rw [w23] at h; exact h
    have w25 : I2 339 3 = I0 339 3 := y7
    have y26 : I15 339 3 = I0 339 3 := by have h := xh15_4; rw [w25] at h; exact h
    have w27 : I2 339 4 = 21 := y8
    have y28 : I15 339 4 = 21 := by have h := xh15_5; rw [w27] at h; exact h
    have y29 : I15 339 5 = 20 := by have h := xh15_6; exact h
    have w30 : I2 339 6 = I0 339 6 := y10
    have y31 : I15 339 6 = I0 339 6 := by have h := xh15_7; rw [w30] at h; exact h
    have w32 : I2 339 7 = I0 339 7 := y11
    have y33 : I15 339 7 = I0 339 7 := by have h := xh15_8; rw [w32] at h; exact h
    have w34 : I2 339 = dkV (I0 339) 4 21 := y12
    have y35 : I15 339 = dkV (dkV (I0 339) 4 21) 5 20 := by have h := xh15_9; rw [w34] at h; exact h
    have xv15 : v15 = p1 := by have h := xr15; exact h
    refine lv_aload_n hx hb dX1_gives_172 rfl (lv_at hl 1 rfl) ?_
    refine dk_get (k := 338) hx hb hts iX1_gives_1 hown hK (dk_at338 hW) rfl 0 (by decide) (hts (.fieldLink RX1 15 "DogKings$Asks" "now" "LDogKings$Town;") (List.mem_of_getElem? (i := 2) rfl)) rfl dX1_gives_173 ?_
    refine dk_get (k := 25) hx hb hts iX1_gives_4 hown hK (dk_at25 hW) rfl 14 (by decide) (hts (.fieldLink RX1 54 "DogKings$Town" "dogAt" "[I") (List.mem_of_getElem? (i := 4) rfl)) rfl dX1_gives_176 ?_
    refine lv_iload_n hx hb dX1_gives_179 rfl (lv_at hl 3 rfl) ?_
    refine dk_ild (k := 34) hx hb hK (dk_at34 hW) (dkN_in (n := 6) dp1 rfl) dX1_gives_180 ?_
    refine lv_topi (fun v36 ev36 => ?_)
    have xv36 : v36 = I0 34 (Int32.toNatClampNeg p1) := ev36.trans ((hF15 34 (Int32.toNatClampNeg p1) (dkNin_k rfl (dkNin_k rfl dkNin_nil))).trans ((hF2 34 (Int32.toNatClampNeg p1) (dkNin_k rfl (dkNin_k rfl dkNin_nil))).trans rfl))
    refine lv_iadd hx hb dX1_gives_181 ?_
    refine lv_topi (fun v37 ev37 => ?_)
    have xv37 : v37 = p1 + (I0 34 (Int32.toNatClampNeg p1)) := by rw [ev37, xv15, xv36]
    exact W.iret (v := v37) hx hb hr (fun t ht hW9 => ⟨⟨v37, I15, rfl, ⟨hF, hO, ⟨trivial, (show dkN [(6, 6)] (I15 338 2) from dkN_sub f15_338_2 rfl), (show dkN [(21, 21)] (I15 339 4) from dkN_sub (by rw [hF15 339 4 rfl]; exact f2_339_4) rfl), (show dkN [(20, 20)] (I15 339 5) from dkN_sub f15_339_5 rfl), tp0, q17, xv37, y18, y20, y22, y24, y26, y28, y29, y31, y33, y35, trivial⟩⟩, dkW_eq ht hW⟩, hS.F ht⟩) hS.2.2 dX1_gives_182
  ·
    exact (dkN_nil (show dkN [] 4 from dkN_le2 1 (dkN_lit (x := 5) (5) rfl) (dkN_lit (x := 4) (4) rfl) (dkc_nle c1) rfl)).elim
set_option maxHeartbeats 4000000 in
set_option maxRecDepth 100000 in
theorem fx_X1_gives_48 (l : Launch) (g : dkG) (z : Nat) (I0 : dkI) (p0 : Int32) (p1 : Int32) (p2 : Int32) (dp0 : dkN [(24, 24)] p0) (dp1 : dkN [(0, 5)] p1) (dp2 : dkN [(3, 3)] p2) (np0 : dkN [(3, 3)] (I0 338 2))  (tp0 : (I0 32 (Int32.toNatClampNeg p1)).toInt = (2 : Int)) (hO : dkOk I0) : Met l yX1_gives wsX1_gives (dkR 3) (dkPc g z [.ref (z + 338), .int p0, .int p1, .int p2] I0) (dkQi g z (fun r I1 => dkF [(338, 338, 2, 2), (339, 339, 3, 5)] I0 I1 ∧ dkOk I1 ∧ ((True ∧ dkN [(6, 6)] (I1 338 2) ∧ dkN [(24, 24)] (I1 339 3) ∧ dkN [(21, 21)] (I1 339 4) ∧ dkN [(20, 20)] (I1 339 5) ∧ (I0 32 (Int32.toNatClampNeg p1)).toInt = (2 : Int) ∧ ((I0 32) (Int32.toNatClampNeg p1)).toInt = (2 : Int) ∧ r = (2 : Int32) * (p1 + ((I0 34) (Int32.toNatClampNeg p1))) ∧ I1 338 2 = 6 ∧ I1 339 0 = I0 339 0 ∧ I1 339 1 = I0 339 1 ∧ I1 339 2 = I0 339 2 ∧ I1 339 3 = 24 ∧ I1 339 4 = 21 ∧ I1 339 5 = 20 ∧ I1 339 6 = I0 339 6 ∧ I1 339 7 = I0 339 7 ∧ I1 339  = dkV (dkV (dkV (I0 339) 3 24) 4 21) 5 20 ∧ True)))) 0 0 (dkA z) := by
  obtain rfl : p0 = 24 := dkN_is dp0 rfl
  obtain rfl : p2 = 3 := dkN_is dp2 rfl
  refine Met.ofW (cc := cX1_gives) (maxL := 5) (ret := (some .int)) (by decide) rfl ?_
  intro p e s m args below meth c s₁ B hml hv
  obtain ⟨ha, hW, hK, hT⟩ := hv
  have hx := B.exec
  have hb := B.bytes
  have hr := B.returns
  have hts := atoms_spec (ws := wsX1_gives) B.pre
  have hown : s.vm.findClass RX1 = some m.cls := findClass_of_methodNamed B.named
  have hlocks := B.notSynchronized
  have hS : va_S (dkA z) s.heap s.heap [] := va_S.rf
  have hF : dkF [(338, 338, 2, 2), (339, 339, 3, 5)] I0 I0 := dkF_rf _ _
  have hl := lv_entry ([.ref (z + 338), .int 24, .int p1, .int 3]) (n := 5) (Nat.le_of_ble_eq_true rfl)
  have hgo : entryFrame m args 5 = entryFrame m ([.ref (z + 338), .int 24, .int p1, .int 3] : List Value).toArray 5 := by rw [ha]
  rw [hgo, lg_entry_eq]
  generalize (lg_sl ([.ref (z + 338), .int 24, .int p1, .int 3]) ++ List.replicate (5 - (lg_sl ([.ref (z + 338), .int 24, .int p1, .int 3])).length) Slot.unset).toArray = ls at hl ⊢
  have hl : lv_has ls 5 [(0, .ref (z + 338)), (1, .int 24), (2, .int p1), (3, .int 3)] := hl
  refine lv_iload_n hx hb dX1_gives_0 rfl (lv_at hl 3 rfl) ?_
  refine lv_iconst (v := 5) hx hb dX1_gives_1 (by decide) ?_
  refine lv_icmp_le (tgt := 8) hx hb dX1_gives_2 (by decide) (fun c1 => ?_) (fun c1 => ?_)
  ·
    refine lv_aload_n hx hb dX1_gives_8 rfl (lv_at hl 0 rfl) ?_
    refine lv_iload_n hx hb dX1_gives_9 rfl (lv_at hl 1 rfl) ?_
    refine dk_Vv (As := [.int 24]) (rest := []) ⟨hx, hb, hml, hown, hts⟩ (fx_X1_begins_20 l g z I0 24 (dkN_lit (x := 24) (24) rfl) (show dkN [(3, 3)] (I0 338 2) from dkN_sub np0 rfl) hO) (cwV 1 hts gX1_gives_X1_begins rfl rfl rfl (by decide +kernel) ⟨Nat.le_of_ble_eq_true rfl, Nat.le_of_ble_eq_true rfl⟩) (dk_at338 hW) rfl hK hT hW hS rfl hl.1 rfl (Nat.le_of_ble_eq_true rfl) dX1_gives_10 ⟨Nat.zero_le _, Nat.zero_le _⟩ (fun I2 H2 L2 hp2 hW hS => ?_)
    obtain ⟨hF2, hO, hc2⟩ := hp2
    have hF := dkF_call hF hF2 rfl
    obtain ⟨f2_338_2, f2_339_3, xh2_0, xh2_1, xh2_2, xh2_3, xh2_4, xh2_5, xh2_6, xh2_7, xh2_8, xh2_9, -⟩ := hc2
    have y3 : I2 338 2 = 4 := by have h := xh2_0; exact h
    have y4 : I2 339 0 = I0 339 0 := by have h := xh2_1; exact h
    have y5 : I2 339 1 = I0 339 1 := by have h := xh2_2; exact h
    have y6 : I2 339 2 = I0 339 2 := by have h := xh2_3; exact h
    have y7 : I2 339 3 = 24 := by have h := xh2_4; exact h
    have y8 : I2 339 4 = I0 339 4 := by have h := xh2_5; exact h
    have y9 : I2 339 5 = I0 339 5 := by have h := xh2_6; exact h
    have y10 : I2 339 6 = I0 339 6 := by have h := xh2_7; exact h
    have y11 : I2 339 7 = I0 339 7 := by have h := xh2_8; exact h
    have y12 : I2 339 = dkV (I0 339) 3 24 := by have h := xh2_9; exact h
    refine lv_iload_n hx hb dX1_gives_13 rfl (lv_at hl 3 rfl) ?_
    refine lv_iconst (v := 1) hx hb dX1_gives_14 (by decide) ?_
    refine lv_iadd hx hb dX1_gives_15 ?_
    refine lv_topi (fun v13 ev13 => ?_)
    have dv13 : dkN [(4, 4)] v13 := by rw [ev13]; exact dkN_add (dkN_lit (x := 3) (3) rfl) (dkN_lit (x := 1) (1) rfl) rfl
    have xv13 : v13 = 4 := by rw [ev13]; rfl
    subst xv13
    refine lv_istore (lv' := [(4, .int 4), (0, .ref (z + 338)), (1, .int 24), (2, .int p1), (3, .int 3)]) hx hb dX1_gives_16 hl (by decide) rfl (fun ls hl => ?_)
    refine lv_iload_n hx hb dX1_gives_18 rfl (lv_at hl 2 rfl) ?_
    have qc14 : (24 : Int32).toInt = 24 := rfl
    refine lv_tableIn (tgt := 220) hx hb dX1_gives_19 (by rw [qc14]; decide) (by rw [qc14]; decide) (by rw [qc14]; rfl) (by decide) ?_
    refine lv_iconst (v := 2) hx hb dX1_gives_220 (by decide) ?_
    refine lv_aload_n hx hb dX1_gives_221 rfl (lv_at hl 1 rfl) ?_
    refine lv_bipush (v := 21) hx hb dX1_gives_222 (by decide) ?_
    refine lv_iload_n hx hb dX1_gives_224 rfl (lv_at hl 3 rfl) ?_
    refine lv_iload hx hb dX1_gives_225 (lv_at hl 0 rfl) ?_
    refine dk_Vi (As := [.int 21, .int p1, .int 4]) (rest := [.int 2]) ⟨hx, hb, hml, hown, hts⟩ (fx_X1_gives_49 l g z I2 21 p1 4 (dkN_lit (x := 21) (21) rfl) dp1 (dkN_lit (x := 4) (4) rfl) (show dkN [(4, 4)] (I2 338 2) from dkN_sub f2_338_2 rfl) (by rw [(show I2 32 = I0 32 from ((funext fun j => hF2 32 j (dkNin_k rfl (dkNin_k rfl dkNin_nil))).trans rfl))]; exact tp0) hO) (cwV 3 hts gX1_gives_X1_gives rfl rfl rfl (by decide +kernel) ⟨Nat.le_of_ble_eq_true rfl, Nat.le_of_ble_eq_true rfl⟩) (dk_at338 hW) rfl hK hT hW hS rfl hl.1 rfl (Nat.le_of_ble_eq_true rfl) dX1_gives_227 ⟨Nat.zero_le _, Nat.zero_le _⟩ (fun v15 I15 H15 L15 hp15 hW hS => ?_)
    obtain ⟨hF15, hO, hc15⟩ := hp15
    have hF := dkF_call hF hF15 rfl
    obtain ⟨_, f15_338_2, f15_339_4, f15_339_5, x15_0, x15_1, xr15, xh15_0, xh15_1, xh15_2, xh15_3, xh15_4, xh15_5, xh15_6, xh15_7, xh15_8, xh15_9, -⟩ := hc15
    have w16 : I2 32 = I0 32 := ((funext fun j => hF2 32 j (dkNin_k rfl (dkNin_k rfl dkNin_nil))).trans rfl)
    have q17 : ((I0 32) (Int32.toNatClampNeg p1)).toInt = (2 : Int) := by have h := x15_0; rw [w16] at h; exact h
    have y18 : I15 338 2 = 6 := by have h := xh15_0; exact h
    have w19 : I2 339 0 = I0 339 0 := y4
    have y20 : I15 339 0 = I0 339 0 := by have h := xh15_1; rw [w19] at h; exact h
    have w21 : I2 339 1 = I0 339 1 := y5
    have y22 : I15 339 1 = I0 339 1 := by have h := xh15_2; rw [w21] at h; exact h
    have w23 : I2 339 2 = I0 339 2 := y6
    have y24 : I15 339 2 = I0 339 2 := by have h := xh15_3; rw [w23] at h; exact h
    have w25 : I2 339 3 = 24 := y7
    have y26 : I15 339 3 = 24 := by have h := xh15_4; rw [w25] at h; exact h
    have y27 : I15 339 4 = 21 := by have h := xh15_5; exact h
    have y28 : I15 339 5 = 20 := by have h := xh15_6; exact h
    have w29 : I2 339 6 = I0 339 6 := y10
    have y30 : I15 339 6 = I0 339 6 := by have h := xh15_7; rw [w29] at h; exact h
    have w31 : I2 339 7 = I0 339 7 := y11
    have y32 : I15 339 7 = I0 339 7 := by have h := xh15_8; rw [w31] at h; exact h
    have w33 : I2 339 = dkV (I0 339) 3 24 := y12
    have y34 : I15 339 = dkV (dkV (dkV (I0 339) 3 24) 4 21) 5 20 := by have h := xh15_9; rw [w33] at h; exact h
    have w35 : I2 34 = I0 34 := ((funext fun j => hF2 34 j (dkNin_k rfl (dkNin_k rfl dkNin_nil))).trans rfl)
    have xv15 : v15 = p1 + ((I0 34) (Int32.toNatClampNeg p1)) := by have h := xr15; rw [w35] at h; exact h
    refine lv_imul hx hb dX1_gives_230 ?_
    refine lv_topi (fun v36 ev36 => ?_)
    have xv36 : v36 = (2 : Int32) * (p1 + ((I0 34) (Int32.toNatClampNeg p1))) := by rw [ev36, xv15]
    exact W.iret (v := v36) hx hb hr (fun t ht hW9 => ⟨⟨v36, I15, rfl, ⟨hF, hO, ⟨trivial, (show dkN [(6, 6)] (I15 338 2) from dkN_sub f15_338_2 rfl), (show dkN [(24, 24)] (I15 339 3) from dkN_sub (by rw [hF15 339 3 rfl]; exact f2_339_3) rfl), (show dkN [(21, 21)] (I15 339 4) from dkN_sub f15_339_4 rfl), (show dkN [(20, 20)] (I15 339 5) from dkN_sub f15_339_5 rfl), tp0, q17, xv36, y18, y20, y22, y24, y26, y27, y28, y30, y32, y34, trivial⟩⟩, dkW_eq ht hW⟩, hS.F ht⟩) hS.2.2 dX1_gives_231
  ·
    exact (dkN_nil (show dkN [] 3 from dkN_le2 1 (dkN_lit (x := 5) (5) rfl) (dkN_lit (x := 3) (3) rfl) (dkc_nle c1) rfl)).elim
set_option maxHeartbeats 4000000 in
set_option maxRecDepth 100000 in
theorem fx_X1_gives_46 (l : Launch) (g : dkG) (z : Nat) (I0 : dkI) (p0 : Int32) (p1 : Int32) (p2 : Int32) (dp0 : dkN [(11, 11)] p0) (dp1 : dkN [(0, 5)] p1) (dp2 : dkN [(2, 2)] p2) (np0 : dkN [(1, 1)] (I0 338 2))  (tp0 : (I0 32 (Int32.toNatClampNeg p1)).toInt = (2 : Int)) (hO : dkOk I0) : Met l yX1_gives wsX1_gives (dkR 4) (dkPc g z [.ref (z + 338), .int p0, .int p1, .int p2] I0) (dkQi g z (fun r I1 => dkF [(338, 338, 2, 2), (339, 339, 1, 5)] I0 I1 ∧ dkOk I1 ∧ ((True ∧ dkN [(6, 6)] (I1 338 2) ∧ dkN [(11, 11)] (I1 339 1) ∧ dkN [(10, 10)] (I1 339 2) ∧ dkN [(24, 24)] (I1 339 3) ∧ dkN [(21, 21)] (I1 339 4) ∧ dkN [(20, 20)] (I1 339 5) ∧ (I0 32 (Int32.toNatClampNeg p1)).toInt = (2 : Int) ∧ ((I0 32) (Int32.toNatClampNeg p1)).toInt = (2 : Int) ∧ r = ((I0 33) (Int32.toNatClampNeg p1)) + ((2 : Int32) * (p1 + ((I0 34) (Int32.toNatClampNeg p1)))) ∧ I1 338 2 = 6 ∧ I1 339 0 = I0 339 0 ∧ I1 339 1 = 11 ∧ I1 339 2 = 10 ∧ I1 339 3 = 24 ∧ I1 339 4 = 21 ∧ I1 339 5 = 20 ∧ I1 339 6 = I0 339 6 ∧ I1 339 7 = I0 339 7 ∧ I1 339  = dkV (dkV (dkV (dkV (dkV (I0 339) 1 11) 2 10) 3 24) 4 21) 5 20 ∧ True)))) 0 0 (dkA z) := by
  obtain rfl : p0 = 11 := dkN_is dp0 rfl
  obtain rfl : p2 = 2 := dkN_is dp2 rfl
  refine Met.ofW (cc := cX1_gives) (maxL := 5) (ret := (some .int)) (by decide) rfl ?_
  intro p e s m args below meth c s₁ B hml hv
  obtain ⟨ha, hW, hK, hT⟩ := hv
  have hx := B.exec
  have hb := B.bytes
  have hr := B.returns
  have hts := atoms_spec (ws := wsX1_gives) B.pre
  have hown : s.vm.findClass RX1 = some m.cls := findClass_of_methodNamed B.named
  have hlocks := B.notSynchronized
  have hS : va_S (dkA z) s.heap s.heap [] := va_S.rf
  have hF : dkF [(338, 338, 2, 2), (339, 339, 1, 5)] I0 I0 := dkF_rf _ _
  have hl := lv_entry ([.ref (z + 338), .int 11, .int p1, .int 2]) (n := 5) (Nat.le_of_ble_eq_true rfl)
  have hgo : entryFrame m args 5 = entryFrame m ([.ref (z + 338), .int 11, .int p1, .int 2] : List Value).toArray 5 := by rw [ha]
  rw [hgo, lg_entry_eq]
  generalize (lg_sl ([.ref (z + 338), .int 11, .int p1, .int 2]) ++ List.replicate (5 - (lg_sl ([.ref (z + 338), .int 11, .int p1, .int 2])).length) Slot.unset).toArray = ls at hl ⊢
  have hl : lv_has ls 5 [(0, .ref (z + 338)), (1, .int 11), (2, .int p1), (3, .int 2)] := hl
  refine lv_iload_n hx hb dX1_gives_0 rfl (lv_at hl 3 rfl) ?_
  refine lv_iconst (v := 5) hx hb dX1_gives_1 (by decide) ?_
  refine lv_icmp_le (tgt := 8) hx hb dX1_gives_2 (by decide) (fun c1 => ?_) (fun c1 => ?_)
  ·
    refine lv_aload_n hx hb dX1_gives_8 rfl (lv_at hl 0 rfl) ?_
    refine lv_iload_n hx hb dX1_gives_9 rfl (lv_at hl 1 rfl) ?_
    refine dk_Vv (As := [.int 11]) (rest := []) ⟨hx, hb, hml, hown, hts⟩ (fx_X1_begins_18 l g z I0 11 (dkN_lit (x := 11) (11) rfl) (show dkN [(1, 1)] (I0 338 2) from dkN_sub np0 rfl) hO) (cwV 1 hts gX1_gives_X1_begins rfl rfl rfl (by decide +kernel) ⟨Nat.le_of_ble_eq_true rfl, Nat.le_of_ble_eq_true rfl⟩) (dk_at338 hW) rfl hK hT hW hS rfl hl.1 rfl (Nat.le_of_ble_eq_true rfl) dX1_gives_10 ⟨Nat.zero_le _, Nat.zero_le _⟩ (fun I2 H2 L2 hp2 hW hS => ?_)
    obtain ⟨hF2, hO, hc2⟩ := hp2
    have hF := dkF_call hF hF2 rfl
    obtain ⟨f2_338_2, f2_339_1, xh2_0, xh2_1, xh2_2, xh2_3, xh2_4, xh2_5, xh2_6, xh2_7, xh2_8, xh2_9, -⟩ := hc2
    have y3 : I2 338 2 = 2 := by have h := xh2_0; exact h
    have y4 : I2 339 0 = I0 339 0 := by have h := xh2_1; exact h
    have y5 : I2 339 1 = 11 := by have h := xh2_2; exact h
    have y6 : I2 339 2 = I0 339 2 := by have h := xh2_3; exact h
    have y7 : I2 339 3 = I0 339 3 := by have h := xh2_4; exact h
    have y8 : I2 339 4 = I0 339 4 := by have h := xh2_5; exact h
    have y9 : I2 339 5 = I0 339 5 := by have h := xh2_6; exact h
    have y10 : I2 339 6 = I0 339 6 := by have h := xh2_7; exact h
    have y11 : I2 339 7 = I0 339 7 := by have h := xh2_8; exact h
    have y12 : I2 339 = dkV (I0 339) 1 11 := by have h := xh2_9; exact h
    refine lv_iload_n hx hb dX1_gives_13 rfl (lv_at hl 3 rfl) ?_
    refine lv_iconst (v := 1) hx hb dX1_gives_14 (by decide) ?_
    refine lv_iadd hx hb dX1_gives_15 ?_
    refine lv_topi (fun v13 ev13 => ?_)
    have dv13 : dkN [(3, 3)] v13 := by rw [ev13]; exact dkN_add (dkN_lit (x := 2) (2) rfl) (dkN_lit (x := 1) (1) rfl) rfl
    have xv13 : v13 = 3 := by rw [ev13]; rfl
    subst xv13
    refine lv_istore (lv' := [(4, .int 3), (0, .ref (z + 338)), (1, .int 11), (2, .int p1), (3, .int 2)]) hx hb dX1_gives_16 hl (by decide) rfl (fun ls hl => ?_)
    refine lv_iload_n hx hb dX1_gives_18 rfl (lv_at hl 2 rfl) ?_
    have qc14 : (11 : Int32).toInt = 11 := rfl
    refine lv_tableIn (tgt := 102) hx hb dX1_gives_19 (by rw [qc14]; decide) (by rw [qc14]; decide) (by rw [qc14]; rfl) (by decide) ?_
    refine lv_aload_n hx hb dX1_gives_102 rfl (lv_at hl 1 rfl) ?_
    refine lv_bipush (v := 10) hx hb dX1_gives_103 (by decide) ?_
    refine lv_iload_n hx hb dX1_gives_105 rfl (lv_at hl 3 rfl) ?_
    refine lv_iload hx hb dX1_gives_106 (lv_at hl 0 rfl) ?_
    refine dk_Vi (As := [.int 10, .int p1, .int 3]) (rest := []) ⟨hx, hb, hml, hown, hts⟩ (fx_X1_gives_47 l g z I2 10 p1 3 (dkN_lit (x := 10) (10) rfl) dp1 (dkN_lit (x := 3) (3) rfl) (show dkN [(2, 2)] (I2 338 2) from dkN_sub f2_338_2 rfl) (by rw [(show I2 32 = I0 32 from ((funext fun j => hF2 32 j (dkNin_k rfl (dkNin_k rfl dkNin_nil))).trans rfl))]; exact tp0) hO) (cwV 3 hts gX1_gives_X1_gives rfl rfl rfl (by decide +kernel) ⟨Nat.le_of_ble_eq_true rfl, Nat.le_of_ble_eq_true rfl⟩) (dk_at338 hW) rfl hK hT hW hS rfl hl.1 rfl (Nat.le_of_ble_eq_true rfl) dX1_gives_108 ⟨Nat.zero_le _, Nat.zero_le _⟩ (fun v15 I15 H15 L15 hp15 hW hS => ?_)
    obtain ⟨hF15, hO, hc15⟩ := hp15
    have hF := dkF_call hF hF15 rfl
    obtain ⟨_, f15_338_2, f15_339_2, x15_0, xr15, xh15_0, xh15_1, xh15_2, xh15_3, xh15_4, xh15_5, xh15_6, xh15_7, xh15_8, xh15_9, -⟩ := hc15
    have w16 : I2 32 = I0 32 := ((funext fun j => hF2 32 j (dkNin_k rfl (dkNin_k rfl dkNin_nil))).trans rfl)
    have q17 : ((I0 32) (Int32.toNatClampNeg p1)).toInt = (2 : Int) := by have h := x15_0; rw [w16] at h; exact h
    have y18 : I15 338 2 = 3 := by have h := xh15_0; exact h
    have w19 : I2 339 0 = I0 339 0 := y4
    have y20 : I15 339 0 = I0 339 0 := by have h := xh15_1; rw [w19] at h; exact h
    have w21 : I2 339 1 = 11 := y5
    have y22 : I15 339 1 = 11 := by have h := xh15_2; rw [w21] at h; exact h
    have y23 : I15 339 2 = 10 := by have h := xh15_3; exact h
    have w24 : I2 339 3 = I0 339 3 := y7
    have y25 : I15 339 3 = I0 339 3 := by have h := xh15_4; rw [w24] at h; exact h
    have w26 : I2 339 4 = I0 339 4 := y8
    have y27 : I15 339 4 = I0 339 4 := by have h := xh15_5; rw [w26] at h; exact h
    have w28 : I2 339 5 = I0 339 5 := y9
    have y29 : I15 339 5 = I0 339 5 := by have h := xh15_6; rw [w28] at h; exact h
    have w30 : I2 339 6 = I0 339 6 := y10
    have y31 : I15 339 6 = I0 339 6 := by have h := xh15_7; rw [w30] at h; exact h
    have w32 : I2 339 7 = I0 339 7 := y11
    have y33 : I15 339 7 = I0 339 7 := by have h := xh15_8; rw [w32] at h; exact h
    have w34 : I2 339 = dkV (I0 339) 1 11 := y12
    have y35 : I15 339 = dkV (dkV (I0 339) 1 11) 2 10 := by have h := xh15_9; rw [w34] at h; exact h
    have w36 : I2 33 = I0 33 := ((funext fun j => hF2 33 j (dkNin_k rfl (dkNin_k rfl dkNin_nil))).trans rfl)
    have xv15 : v15 = (I0 33) (Int32.toNatClampNeg p1) := by have h := xr15; rw [w36] at h; exact h
    refine lv_aload_n hx hb dX1_gives_111 rfl (lv_at hl 1 rfl) ?_
    refine lv_aload_n hx hb dX1_gives_112 rfl (lv_at hl 1 rfl) ?_
    refine lv_iload_n hx hb dX1_gives_113 rfl (lv_at hl 3 rfl) ?_
    refine dk_Vi (As := [.int p1]) (rest := [.ref (z + 338), .int v15]) ⟨hx, hb, hml, hown, hts⟩ (fx_X1_markBody_2 l g z I15 p1 dp1 (by rw [(show I15 32 = I0 32 from ((funext fun j => hF15 32 j (dkNin_k rfl (dkNin_k rfl dkNin_nil))).trans ((funext fun j => hF2 32 j (dkNin_k rfl (dkNin_k rfl dkNin_nil))).trans rfl)))]; exact tp0) hO) (cwV 1 hts gX1_gives_X1_markBody rfl rfl rfl (by decide +kernel) ⟨Nat.le_of_ble_eq_true rfl, Nat.le_of_ble_eq_true rfl⟩) (dk_at338 hW) rfl hK hT hW hS rfl hl.1 rfl (Nat.le_of_ble_eq_true rfl) dX1_gives_114 ⟨Nat.zero_le _, Nat.zero_le _⟩ (fun v37 I37 H37 L37 hp37 hW hS => ?_)
    obtain ⟨hF37, hO, hc37⟩ := hp37
    have hF := dkF_call hF hF37 rfl
    have eI37 : I15 = I37 := (dkF_nil hF37).symm
    subst eI37
    obtain ⟨dv37, x37_0, xr37, -⟩ := hc37
    have w38 : I15 32 = I0 32 := ((funext fun j => hF15 32 j (dkNin_k rfl (dkNin_k rfl dkNin_nil))).trans ((funext fun j => hF2 32 j (dkNin_k rfl (dkNin_k rfl dkNin_nil))).trans rfl))
    have xv37 : v37 = 24 := by have h := xr37; exact h
    have z39 : v37 = 24 := xv37
    subst z39
    refine lv_iload_n hx hb dX1_gives_117 rfl (lv_at hl 3 rfl) ?_
    refine lv_iload hx hb dX1_gives_118 (lv_at hl 0 rfl) ?_
    refine dk_Vi (As := [.int 24, .int p1, .int 3]) (rest := [.int v15]) ⟨hx, hb, hml, hown, hts⟩ (fx_X1_gives_48 l g z I15 24 p1 3 (dkN_lit (x := 24) (24) rfl) dp1 (dkN_lit (x := 3) (3) rfl) (show dkN [(3, 3)] (I15 338 2) from dkN_sub (by rw [hF37 338 2 rfl]; exact f15_338_2) rfl) (by rw [(show I15 32 = I0 32 from ((funext fun j => hF37 32 j dkNin_nil).trans ((funext fun j => hF15 32 j (dkNin_k rfl (dkNin_k rfl dkNin_nil))).trans ((funext fun j => hF2 32 j (dkNin_k rfl (dkNin_k rfl dkNin_nil))).trans rfl))))]; exact tp0) hO) (cwV 3 hts gX1_gives_X1_gives rfl rfl rfl (by decide +kernel) ⟨Nat.le_of_ble_eq_true rfl, Nat.le_of_ble_eq_true rfl⟩) (dk_at338 hW) rfl hK hT hW hS rfl hl.1 rfl (Nat.le_of_ble_eq_true rfl) dX1_gives_120 ⟨Nat.zero_le _, Nat.zero_le _⟩ (fun v40 I40 H40 L40 hp40 hW hS => ?_)
    obtain ⟨hF40, hO, hc40⟩ := hp40
    have hF := dkF_call hF hF40 rfl
    obtain ⟨_, f40_338_2, f40_339_3, f40_339_4, f40_339_5, x40_0, x40_1, xr40, xh40_0, xh40_1, xh40_2, xh40_3, xh40_4, xh40_5, xh40_6, xh40_7, xh40_8, xh40_9, -⟩ := hc40
    have w41 : I15 32 = I0 32 := ((funext fun j => hF37 32 j dkNin_nil).trans ((funext fun j => hF15 32 j (dkNin_k rfl (dkNin_k rfl dkNin_nil))).trans ((funext fun j => hF2 32 j (dkNin_k rfl (dkNin_k rfl dkNin_nil))).trans rfl)))
    have y42 : I40 338 2 = 6 := by have h := xh40_0; exact h
    have w43 : I15 339 0 = I0 339 0 := ((hF37 339 0 rfl).trans y20)
    have y44 : I40 339 0 = I0 339 0 := by have h := xh40_1; rw [w43] at h; exact h
    have w45 : I15 339 1 = 11 := ((hF37 339 1 rfl).trans y22)
    have y46 : I40 339 1 = 11 := by have h := xh40_2; rw [w45] at h; exact h
    have w47 : I15 339 2 = 10 := ((hF37 339 2 rfl).trans y23)
    have y48 : I40 339 2 = 10 := by have h := xh40_3; rw [w47] at h; exact h
    have y49 : I40 339 3 = 24 := by have h := xh40_4; exact h
    have y50 : I40 339 4 = 21 := by have h := xh40_5; exact h
    have y51 : I40 339 5 = 20 := by have h := xh40_6; exact h
    have w52 : I15 339 6 = I0 339 6 := ((hF37 339 6 rfl).trans y31)
    have y53 : I40 339 6 = I0 339 6 := by have h := xh40_7; rw [w52] at h; exact h
    have w54 : I15 339 7 = I0 339 7 := ((hF37 339 7 rfl).trans y33)
    have y55 : I40 339 7 = I0 339 7 := by have h := xh40_8; rw [w54] at h; exact h
    have w56 : I15 339 = dkV (dkV (I0 339) 1 11) 2 10 := ((funext fun j => hF37 339 j dkNin_nil).trans y35)
    have y57 : I40 339 = dkV (dkV (dkV (dkV (dkV (I0 339) 1 11) 2 10) 3 24) 4 21) 5 20 := by have h := xh40_9; rw [w56] at h; exact h
    have w58 : I15 34 = I0 34 := ((funext fun j => hF37 34 j dkNin_nil).trans ((funext fun j => hF15 34 j (dkNin_k rfl (dkNin_k rfl dkNin_nil))).trans ((funext fun j => hF2 34 j (dkNin_k rfl (dkNin_k rfl dkNin_nil))).trans rfl)))
    have xv40 : v40 = (2 : Int32) * (p1 + ((I0 34) (Int32.toNatClampNeg p1))) := by have h := xr40; rw [w58] at h; exact h
    refine lv_iadd hx hb dX1_gives_123 ?_
    refine lv_topi (fun v59 ev59 => ?_)
    have xv59 : v59 = ((I0 33) (Int32.toNatClampNeg p1)) + ((2 : Int32) * (p1 + ((I0 34) (Int32.toNatClampNeg p1)))) := by rw [ev59, xv15, xv40]
    exact W.iret (v := v59) hx hb hr (fun t ht hW9 => ⟨⟨v59, I40, rfl, ⟨hF, hO, ⟨trivial, (show dkN [(6, 6)] (I40 338 2) from dkN_sub f40_338_2 rfl), (show dkN [(11, 11)] (I40 339 1) from dkN_sub (by rw [hF40 339 1 rfl]; exact (by rw [hF37 339 1 rfl]; exact (by rw [hF15 339 1 rfl]; exact f2_339_1))) rfl), (show dkN [(10, 10)] (I40 339 2) from dkN_sub (by rw [hF40 339 2 rfl]; exact (by rw [hF37 339 2 rfl]; exact f15_339_2)) rfl), (show dkN [(24, 24)] (I40 339 3) from dkN_sub f40_339_3 rfl), (show dkN [(21, 21)] (I40 339 4) from dkN_sub f40_339_4 rfl), (show dkN [(20, 20)] (I40 339 5) from dkN_sub f40_339_5 rfl), tp0, q17, xv59, y42, y44, y46, y48, y49, y50, y51, y53, y55, y57, trivial⟩⟩, dkW_eq ht hW⟩, hS.F ht⟩) hS.2.2 dX1_gives_124
  ·
    exact (dkN_nil (show dkN [] 2 from dkN_le2 1 (dkN_lit (x := 5) (5) rfl) (dkN_lit (x := 2) (2) rfl) (dkc_nle c1) rfl)).elim
set_option maxHeartbeats 4000000 in
set_option maxRecDepth 100000 in
theorem fx_X1_gives_45 (l : Launch) (g : dkG) (z : Nat) (I0 : dkI) (p0 : Int32) (p1 : Int32) (p2 : Int32) (dp0 : dkN [(12, 12)] p0) (dp1 : dkN [(0, 5)] p1) (dp2 : dkN [(1, 1)] p2) (np0 : dkN [(0, 0)] (I0 338 2))  (tp0 : (I0 32 (Int32.toNatClampNeg p1)).toInt = (2 : Int)) (hO : dkOk I0) : Met l yX1_gives wsX1_gives (dkR 5) (dkPc g z [.ref (z + 338), .int p0, .int p1, .int p2] I0) (dkQi g z (fun r I1 => dkF [(338, 338, 2, 2), (339, 339, 0, 5)] I0 I1 ∧ dkOk I1 ∧ ((True ∧ dkN [(6, 6)] (I1 338 2) ∧ dkN [(12, 12)] (I1 339 0) ∧ dkN [(11, 11)] (I1 339 1) ∧ dkN [(10, 10)] (I1 339 2) ∧ dkN [(24, 24)] (I1 339 3) ∧ dkN [(21, 21)] (I1 339 4) ∧ dkN [(20, 20)] (I1 339 5) ∧ (I0 32 (Int32.toNatClampNeg p1)).toInt = (2 : Int) ∧ ((I0 32) (Int32.toNatClampNeg p1)).toInt = (2 : Int) ∧ r = -(((I0 33) (Int32.toNatClampNeg p1)) + ((2 : Int32) * (p1 + ((I0 34) (Int32.toNatClampNeg p1))))) ∧ I1 338 2 = 6 ∧ I1 339 0 = 12 ∧ I1 339 1 = 11 ∧ I1 339 2 = 10 ∧ I1 339 3 = 24 ∧ I1 339 4 = 21 ∧ I1 339 5 = 20 ∧ I1 339 6 = I0 339 6 ∧ I1 339 7 = I0 339 7 ∧ I1 339  = dkV (dkV (dkV (dkV (dkV (dkV (I0 339) 0 12) 1 11) 2 10) 3 24) 4 21) 5 20 ∧ True)))) 0 0 (dkA z) := by
  obtain rfl : p0 = 12 := dkN_is dp0 rfl
  obtain rfl : p2 = 1 := dkN_is dp2 rfl
  refine Met.ofW (cc := cX1_gives) (maxL := 5) (ret := (some .int)) (by decide) rfl ?_
  intro p e s m args below meth c s₁ B hml hv
  obtain ⟨ha, hW, hK, hT⟩ := hv
  have hx := B.exec
  have hb := B.bytes
  have hr := B.returns
  have hts := atoms_spec (ws := wsX1_gives) B.pre
  have hown : s.vm.findClass RX1 = some m.cls := findClass_of_methodNamed B.named
  have hlocks := B.notSynchronized
  have hS : va_S (dkA z) s.heap s.heap [] := va_S.rf
  have hF : dkF [(338, 338, 2, 2), (339, 339, 0, 5)] I0 I0 := dkF_rf _ _
  have hl := lv_entry ([.ref (z + 338), .int 12, .int p1, .int 1]) (n := 5) (Nat.le_of_ble_eq_true rfl)
  have hgo : entryFrame m args 5 = entryFrame m ([.ref (z + 338), .int 12, .int p1, .int 1] : List Value).toArray 5 := by rw [ha]
  rw [hgo, lg_entry_eq]
  generalize (lg_sl ([.ref (z + 338), .int 12, .int p1, .int 1]) ++ List.replicate (5 - (lg_sl ([.ref (z + 338), .int 12, .int p1, .int 1])).length) Slot.unset).toArray = ls at hl ⊢
  have hl : lv_has ls 5 [(0, .ref (z + 338)), (1, .int 12), (2, .int p1), (3, .int 1)] := hl
  refine lv_iload_n hx hb dX1_gives_0 rfl (lv_at hl 3 rfl) ?_
  refine lv_iconst (v := 5) hx hb dX1_gives_1 (by decide) ?_
  refine lv_icmp_le (tgt := 8) hx hb dX1_gives_2 (by decide) (fun c1 => ?_) (fun c1 => ?_)
  ·
    refine lv_aload_n hx hb dX1_gives_8 rfl (lv_at hl 0 rfl) ?_
    refine lv_iload_n hx hb dX1_gives_9 rfl (lv_at hl 1 rfl) ?_
    refine dk_Vv (As := [.int 12]) (rest := []) ⟨hx, hb, hml, hown, hts⟩ (fx_X1_begins_17 l g z I0 12 (dkN_lit (x := 12) (12) rfl) (show dkN [(0, 0)] (I0 338 2) from dkN_sub np0 rfl) hO) (cwV 1 hts gX1_gives_X1_begins rfl rfl rfl (by decide +kernel) ⟨Nat.le_of_ble_eq_true rfl, Nat.le_of_ble_eq_true rfl⟩) (dk_at338 hW) rfl hK hT hW hS rfl hl.1 rfl (Nat.le_of_ble_eq_true rfl) dX1_gives_10 ⟨Nat.zero_le _, Nat.zero_le _⟩ (fun I2 H2 L2 hp2 hW hS => ?_)
    obtain ⟨hF2, hO, hc2⟩ := hp2
    have hF := dkF_call hF hF2 rfl
    obtain ⟨f2_338_2, f2_339_0, xh2_0, xh2_1, xh2_2, xh2_3, xh2_4, xh2_5, xh2_6, xh2_7, xh2_8, xh2_9, -⟩ := hc2
    have y3 : I2 338 2 = 1 := by have h := xh2_0; exact h
    have y4 : I2 339 0 = 12 := by have h := xh2_1; exact h
    have y5 : I2 339 1 = I0 339 1 := by have h := xh2_2; exact h
    have y6 : I2 339 2 = I0 339 2 := by have h := xh2_3; exact h
    have y7 : I2 339 3 = I0 339 3 := by have h := xh2_4; exact h
    have y8 : I2 339 4 = I0 339 4 := by have h := xh2_5; exact h
    have y9 : I2 339 5 = I0 339 5 := by have h := xh2_6; exact h
    have y10 : I2 339 6 = I0 339 6 := by have h := xh2_7; exact h
    have y11 : I2 339 7 = I0 339 7 := by have h := xh2_8; exact h
    have y12 : I2 339 = dkV (I0 339) 0 12 := by have h := xh2_9; exact h
    refine lv_iload_n hx hb dX1_gives_13 rfl (lv_at hl 3 rfl) ?_
    refine lv_iconst (v := 1) hx hb dX1_gives_14 (by decide) ?_
    refine lv_iadd hx hb dX1_gives_15 ?_
    refine lv_topi (fun v13 ev13 => ?_)
    have dv13 : dkN [(2, 2)] v13 := by rw [ev13]; exact dkN_add (dkN_lit (x := 1) (1) rfl) (dkN_lit (x := 1) (1) rfl) rfl
    have xv13 : v13 = 2 := by rw [ev13]; rfl
    subst xv13
    refine lv_istore (lv' := [(4, .int 2), (0, .ref (z + 338)), (1, .int 12), (2, .int p1), (3, .int 1)]) hx hb dX1_gives_16 hl (by decide) rfl (fun ls hl => ?_)
    refine lv_iload_n hx hb dX1_gives_18 rfl (lv_at hl 2 rfl) ?_
    have qc14 : (12 : Int32).toInt = 12 := rfl
    refine lv_tableIn (tgt := 125) hx hb dX1_gives_19 (by rw [qc14]; decide) (by rw [qc14]; decide) (by rw [qc14]; rfl) (by decide) ?_
    refine lv_aload_n hx hb dX1_gives_125 rfl (lv_at hl 1 rfl) ?_
    refine lv_bipush (v := 11) hx hb dX1_gives_126 (by decide) ?_
    refine lv_iload_n hx hb dX1_gives_128 rfl (lv_at hl 3 rfl) ?_
    refine lv_iload hx hb dX1_gives_129 (lv_at hl 0 rfl) ?_
    refine dk_Vi (As := [.int 11, .int p1, .int 2]) (rest := []) ⟨hx, hb, hml, hown, hts⟩ (fx_X1_gives_46 l g z I2 11 p1 2 (dkN_lit (x := 11) (11) rfl) dp1 (dkN_lit (x := 2) (2) rfl) (show dkN [(1, 1)] (I2 338 2) from dkN_sub f2_338_2 rfl) (by rw [(show I2 32 = I0 32 from ((funext fun j => hF2 32 j (dkNin_k rfl (dkNin_k rfl dkNin_nil))).trans rfl))]; exact tp0) hO) (cwV 3 hts gX1_gives_X1_gives rfl rfl rfl (by decide +kernel) ⟨Nat.le_of_ble_eq_true rfl, Nat.le_of_ble_eq_true rfl⟩) (dk_at338 hW) rfl hK hT hW hS rfl hl.1 rfl (Nat.le_of_ble_eq_true rfl) dX1_gives_131 ⟨Nat.zero_le _, Nat.zero_le _⟩ (fun v15 I15 H15 L15 hp15 hW hS => ?_)
    obtain ⟨hF15, hO, hc15⟩ := hp15
    have hF := dkF_call hF hF15 rfl
    obtain ⟨_, f15_338_2, f15_339_1, f15_339_2, f15_339_3, f15_339_4, f15_339_5, x15_0, x15_1, xr15, xh15_0, xh15_1, xh15_2, xh15_3, xh15_4, xh15_5, xh15_6, xh15_7, xh15_8, xh15_9, -⟩ := hc15
    have w16 : I2 32 = I0 32 := ((funext fun j => hF2 32 j (dkNin_k rfl (dkNin_k rfl dkNin_nil))).trans rfl)
    have q17 : ((I0 32) (Int32.toNatClampNeg p1)).toInt = (2 : Int) := by have h := x15_0; rw [w16] at h; exact h
    have y18 : I15 338 2 = 6 := by have h := xh15_0; exact h
    have w19 : I2 339 0 = 12 := y4
    have y20 : I15 339 0 = 12 := by have h := xh15_1; rw [w19] at h; exact h
    have y21 : I15 339 1 = 11 := by have h := xh15_2; exact h
    have y22 : I15 339 2 = 10 := by have h := xh15_3; exact h
    have y23 : I15 339 3 = 24 := by have h := xh15_4; exact h
    have y24 : I15 339 4 = 21 := by have h := xh15_5; exact h
    have y25 : I15 339 5 = 20 := by have h := xh15_6; exact h
    have w26 : I2 339 6 = I0 339 6 := y10
    have y27 : I15 339 6 = I0 339 6 := by have h := xh15_7; rw [w26] at h; exact h
    have w28 : I2 339 7 = I0 339 7 := y11
    have y29 : I15 339 7 = I0 339 7 := by have h := xh15_8; rw [w28] at h; exact h
    have w30 : I2 339 = dkV (I0 339) 0 12 := y12
    have y31 : I15 339 = dkV (dkV (dkV (dkV (dkV (dkV (I0 339) 0 12) 1 11) 2 10) 3 24) 4 21) 5 20 := by have h := xh15_9; rw [w30] at h; exact h
    have w32 : I2 33 = I0 33 := ((funext fun j => hF2 33 j (dkNin_k rfl (dkNin_k rfl dkNin_nil))).trans rfl)
    have w33 : I2 34 = I0 34 := ((funext fun j => hF2 34 j (dkNin_k rfl (dkNin_k rfl dkNin_nil))).trans rfl)
    have xv15 : v15 = ((I0 33) (Int32.toNatClampNeg p1)) + ((2 : Int32) * (p1 + ((I0 34) (Int32.toNatClampNeg p1)))) := by have h := xr15; rw [w32, w33] at h; exact h
    refine lv_ineg hx hb dX1_gives_134 ?_
    refine lv_topi (fun v34 ev34 => ?_)
    have xv34 : v34 = -(((I0 33) (Int32.toNatClampNeg p1)) + ((2 : Int32) * (p1 + ((I0 34) (Int32.toNatClampNeg p1))))) := by rw [ev34, xv15]
    exact W.iret (v := v34) hx hb hr (fun t ht hW9 => ⟨⟨v34, I15, rfl, ⟨hF, hO, ⟨trivial, (show dkN [(6, 6)] (I15 338 2) from dkN_sub f15_338_2 rfl), (show dkN [(12, 12)] (I15 339 0) from dkN_sub (by rw [hF15 339 0 rfl]; exact f2_339_0) rfl), (show dkN [(11, 11)] (I15 339 1) from dkN_sub f15_339_1 rfl), (show dkN [(10, 10)] (I15 339 2) from dkN_sub f15_339_2 rfl), (show dkN [(24, 24)] (I15 339 3) from dkN_sub f15_339_3 rfl), (show dkN [(21, 21)] (I15 339 4) from dkN_sub f15_339_4 rfl), (show dkN [(20, 20)] (I15 339 5) from dkN_sub f15_339_5 rfl), tp0, q17, xv34, y18, y20, y21, y22, y23, y24, y25, y27, y29, y31, trivial⟩⟩, dkW_eq ht hW⟩, hS.F ht⟩) hS.2.2 dX1_gives_135
  ·
    exact (dkN_nil (show dkN [] 1 from dkN_le2 1 (dkN_lit (x := 5) (5) rfl) (dkN_lit (x := 1) (1) rfl) (dkc_nle c1) rfl)).elim
set_option maxHeartbeats 4000000 in
set_option maxRecDepth 100000 in
theorem fx_X1_answer_2 (l : Launch) (g : dkG) (z : Nat) (I0 : dkI) (p0 : Int32) (p1 : Int32) (dp0 : dkN [(0, 5)] p0) (dp1 : dkN [(0, 1)] p1)  (tp0 : (I0 32 (Int32.toNatClampNeg p0)).toInt = (2 : Int)) (hO : dkOk I0) : Met l yX1_answer wsX1_answer (dkR 6) (dkPc g z [.ref (z + 338), .int p0, .int p1] I0) (dkQi g z (fun r I1 => dkF [(338, 338, 2, 2), (339, 339, 0, 5)] I0 I1 ∧ dkOk I1 ∧ ((True ∧ dkN [(1, 1)] p1 ∧ dkN [(3, 3)] (I1 338 2) ∧ dkN [(24, 24)] (I1 339 0) ∧ dkN [(21, 21)] (I1 339 1) ∧ dkN [(20, 20)] (I1 339 2) ∧ (I0 32 (Int32.toNatClampNeg p0)).toInt = (2 : Int) ∧ p1.toInt ≠ (0 : Int) ∧ ((I0 32) (Int32.toNatClampNeg p0)).toInt = (2 : Int) ∧ r = (2 : Int32) * (p0 + ((I0 34) (Int32.toNatClampNeg p0))) ∧ I1 338 2 = 3 ∧ I1 339 0 = 24 ∧ I1 339 1 = 21 ∧ I1 339 2 = 20 ∧ I1 339 3 = I0 339 3 ∧ I1 339 4 = I0 339 4 ∧ I1 339 5 = I0 339 5 ∧ I1 339 6 = I0 339 6 ∧ I1 339 7 = I0 339 7 ∧ I1 339  = dkV (dkV (dkV (I0 339) 0 24) 1 21) 2 20 ∧ True) ∨ (True ∧ dkN [(0, 0)] p1 ∧ dkN [(6, 6)] (I1 338 2) ∧ dkN [(12, 12)] (I1 339 0) ∧ dkN [(11, 11)] (I1 339 1) ∧ dkN [(10, 10)] (I1 339 2) ∧ dkN [(24, 24)] (I1 339 3) ∧ dkN [(21, 21)] (I1 339 4) ∧ dkN [(20, 20)] (I1 339 5) ∧ (I0 32 (Int32.toNatClampNeg p0)).toInt = (2 : Int) ∧ p1.toInt = (0 : Int) ∧ ((I0 32) (Int32.toNatClampNeg p0)).toInt = (2 : Int) ∧ r = -(((I0 33) (Int32.toNatClampNeg p0)) + ((2 : Int32) * (p0 + ((I0 34) (Int32.toNatClampNeg p0))))) ∧ I1 338 2 = 6 ∧ I1 339 0 = 12 ∧ I1 339 1 = 11 ∧ I1 339 2 = 10 ∧ I1 339 3 = 24 ∧ I1 339 4 = 21 ∧ I1 339 5 = 20 ∧ I1 339 6 = I0 339 6 ∧ I1 339 7 = I0 339 7 ∧ I1 339  = dkV (dkV (dkV (dkV (dkV (dkV (I0 339) 0 12) 1 11) 2 10) 3 24) 4 21) 5 20 ∧ True)))) 0 0 (dkA z) := by
  refine Met.ofW (cc := cX1_answer) (maxL := 3) (ret := (some .int)) (by decide) rfl ?_
  intro p e s m args below meth c s₁ B hml hv
  obtain ⟨ha, hW, hK, hT⟩ := hv
  have hx := B.exec
  have hb := B.bytes
  have hr := B.returns
  have hts := atoms_spec (ws := wsX1_answer) B.pre
  have hown : s.vm.findClass RX1 = some m.cls := findClass_of_methodNamed B.named
  have hlocks := B.notSynchronized
  have hS : va_S (dkA z) s.heap s.heap [] := va_S.rf
  have hF : dkF [(338, 338, 2, 2), (339, 339, 0, 5)] I0 I0 := dkF_rf _ _
  have hl := lv_entry ([.ref (z + 338), .int p0, .int p1]) (n := 3) (Nat.le_of_ble_eq_true rfl)
  have hgo : entryFrame m args 3 = entryFrame m ([.ref (z + 338), .int p0, .int p1] : List Value).toArray 3 := by rw [ha]
  rw [hgo, lg_entry_eq]
  generalize (lg_sl ([.ref (z + 338), .int p0, .int p1]) ++ List.replicate (3 - (lg_sl ([.ref (z + 338), .int p0, .int p1])).length) Slot.unset).toArray = ls at hl ⊢
  have hl : lv_has ls 3 [(0, .ref (z + 338)), (1, .int p0), (2, .int p1)] := hl
  refine lv_aload_n hx hb dX1_answer_0 rfl (lv_at hl 0 rfl) ?_
  refine lv_iconst (v := 0) hx hb dX1_answer_1 (by decide) ?_
  refine dk_put (k := 338) hx hb hts iX1_answer_1 tyX1 tyX1_ok nmX1 hown hK hW (dk_at338 hW) hS rfl 2 (by decide) (hts (.fieldLink RX1 19 "DogKings$Asks" "tracedCount" "I") (List.mem_of_getElem? (i := 1) rfl)) rfl rfl (Nat.le_of_ble_eq_true rfl) rfl dX1_answer_2 (fun I1 H1 L1 eI1 hW hS => ?_)
  have eI1 : I1 = dkU I0 338 2 0 := eI1
  have hO := dkO_set hO eI1 (dkN_sub (dkN_lit (x := 0) (0) rfl) rfl)
  have hF := dkF_set hF eI1 rfl
  refine lv_aload_n hx hb dX1_answer_5 rfl (lv_at hl 0 rfl) ?_
  refine lv_iload_n hx hb dX1_answer_6 rfl (lv_at hl 2 rfl) ?_
  refine lv_if_ne (tgt := 18) hx hb dX1_answer_7 (by decide) (fun c2 => ?_) (fun c2 => ?_)
  ·
    have q3 : p1.toInt ≠ (0 : Int) := (dk_ne c2)
    have d4 : dkN [(1, 1)] p1 := dkN_ne1 (0) dp1 (dkN_lit (x := 0) (0) rfl) (dk_ne c2) rfl
    refine lv_aload_n hx hb dX1_answer_18 rfl (lv_at hl 0 rfl) ?_
    refine lv_iload_n hx hb dX1_answer_19 rfl (lv_at hl 1 rfl) ?_
    refine dk_Vi (As := [.int p0]) (rest := [.ref (z + 338)]) ⟨hx, hb, hml, hown, hts⟩ (fx_X1_markBody_2 l g z I1 p0 dp0 (by rw [(show I1 32 = I0 32 from ((by rw [eI1, dkU_n (by decide)] : I1 32 = _).trans rfl))]; exact tp0) hO) (cwV 1 hts gX1_answer_X1_markBody rfl rfl rfl (by decide +kernel) ⟨Nat.le_of_ble_eq_true rfl, Nat.le_of_ble_eq_true rfl⟩) (dk_at338 hW) rfl hK hT hW hS rfl hl.1 rfl (Nat.le_of_ble_eq_true rfl) dX1_answer_20 ⟨Nat.zero_le _, Nat.zero_le _⟩ (fun v5 I5 H5 L5 hp5 hW hS => ?_)
    obtain ⟨hF5, hO, hc5⟩ := hp5
    have hF := dkF_call hF hF5 rfl
    have eI5 : I1 = I5 := (dkF_nil hF5).symm
    subst eI5
    obtain ⟨dv5, x5_0, xr5, -⟩ := hc5
    have w6 : I1 32 = I0 32 := ((by rw [eI1, dkU_n (by decide)] : I1 32 = _).trans rfl)
    have q7 : ((I0 32) (Int32.toNatClampNeg p0)).toInt = (2 : Int) := by have h := x5_0; rw [w6] at h; exact h
    have xv5 : v5 = 24 := by have h := xr5; exact h
    have z8 : v5 = 24 := xv5
    subst z8
    refine lv_iload_n hx hb dX1_answer_23 rfl (lv_at hl 1 rfl) ?_
    refine lv_iconst (v := 1) hx hb dX1_answer_24 (by decide) ?_
    refine dk_Vi (As := [.int 24, .int p0, .int 1]) (rest := []) ⟨hx, hb, hml, hown, hts⟩ (fx_X1_gives_42 l g z I1 24 p0 1 (dkN_lit (x := 24) (24) rfl) dp0 (dkN_lit (x := 1) (1) rfl) (show dkN [(0, 0)] (I1 338 2) from dkN_sub (by rw [hF5 338 2 rfl]; exact (by rw [eI1, dkU_ss]; exact (dkN_lit (x := 0) (0) rfl))) rfl) (by rw [(show I1 32 = I0 32 from ((funext fun j => hF5 32 j dkNin_nil).trans ((by rw [eI1, dkU_n (by decide)] : I1 32 = _).trans rfl)))]; exact tp0) hO) (cwV 3 hts gX1_answer_X1_gives rfl rfl rfl (by decide +kernel) ⟨Nat.le_of_ble_eq_true rfl, Nat.le_of_ble_eq_true rfl⟩) (dk_at338 hW) rfl hK hT hW hS rfl hl.1 rfl (Nat.le_of_ble_eq_true rfl) dX1_answer_25 ⟨Nat.zero_le _, Nat.zero_le _⟩ (fun v9 I9 H9 L9 hp9 hW hS => ?_)
    obtain ⟨hF9, hO, hc9⟩ := hp9
    have hF := dkF_call hF hF9 rfl
    obtain ⟨_, f9_338_2, f9_339_0, f9_339_1, f9_339_2, x9_0, x9_1, xr9, xh9_0, xh9_1, xh9_2, xh9_3, xh9_4, xh9_5, xh9_6, xh9_7, xh9_8, xh9_9, -⟩ := hc9
    have w10 : I1 32 = I0 32 := ((funext fun j => hF5 32 j dkNin_nil).trans ((by rw [eI1, dkU_n (by decide)] : I1 32 = _).trans rfl))
    have y11 : I9 338 2 = 3 := by have h := xh9_0; exact h
    have y12 : I9 339 0 = 24 := by have h := xh9_1; exact h
    have y13 : I9 339 1 = 21 := by have h := xh9_2; exact h
    have y14 : I9 339 2 = 20 := by have h := xh9_3; exact h
    have w15 : I1 339 3 = I0 339 3 := ((hF5 339 3 rfl).trans ((by rw [eI1, dkU_n (by decide)] : I1 339 3 = _).trans rfl))
    have y16 : I9 339 3 = I0 339 3 := by have h := xh9_4; rw [w15] at h; exact h
    have w17 : I1 339 4 = I0 339 4 := ((hF5 339 4 rfl).trans ((by rw [eI1, dkU_n (by decide)] : I1 339 4 = _).trans rfl))
    have y18 : I9 339 4 = I0 339 4 := by have h := xh9_5; rw [w17] at h; exact h
    have w19 : I1 339 5 = I0 339 5 := ((hF5 339 5 rfl).trans ((by rw [eI1, dkU_n (by decide)] : I1 339 5 = _).trans rfl))
    have y20 : I9 339 5 = I0 339 5 := by have h := xh9_6; rw [w19] at h; exact h
    have w21 : I1 339 6 = I0 339 6 := ((hF5 339 6 rfl).trans ((by rw [eI1, dkU_n (by decide)] : I1 339 6 = _).trans rfl))
    have y22 : I9 339 6 = I0 339 6 := by have h := xh9_7; rw [w21] at h; exact h
    have w23 : I1 339 7 = I0 339 7 := ((hF5 339 7 rfl).trans ((by rw [eI1, dkU_n (by decide)] : I1 339 7 = _).trans rfl))
    have y24 : I9 339 7 = I0 339 7 := by have h := xh9_8; rw [w23] at h; exact h
    have w25 : I1 339 = I0 339 := ((funext fun j => hF5 339 j dkNin_nil).trans ((by rw [eI1, dkU_n (by decide)] : I1 339 = _).trans rfl))
    have y26 : I9 339 = dkV (dkV (dkV (I0 339) 0 24) 1 21) 2 20 := by have h := xh9_9; rw [w25] at h; exact h
    have w27 : I1 34 = I0 34 := ((funext fun j => hF5 34 j dkNin_nil).trans ((by rw [eI1, dkU_n (by decide)] : I1 34 = _).trans rfl))
    have xv9 : v9 = (2 : Int32) * (p0 + ((I0 34) (Int32.toNatClampNeg p0))) := by have h := xr9; rw [w27] at h; exact h
    exact W.iret (v := v9) hx hb hr (fun t ht hW9 => ⟨⟨v9, I9, rfl, ⟨hF, hO, Or.inl ⟨trivial, dkN_sub d4 rfl, (show dkN [(3, 3)] (I9 338 2) from dkN_sub f9_338_2 rfl), (show dkN [(24, 24)] (I9 339 0) from dkN_sub f9_339_0 rfl), (show dkN [(21, 21)] (I9 339 1) from dkN_sub f9_339_1 rfl), (show dkN [(20, 20)] (I9 339 2) from dkN_sub f9_339_2 rfl), tp0, q3, q7, xv9, y11, y12, y13, y14, y16, y18, y20, y22, y24, y26, trivial⟩⟩, dkW_eq ht hW⟩, hS.F ht⟩) hS.2.2 dX1_answer_28
  ·
    have q28 : p1.toInt = (0 : Int) := (congrArg Int32.toInt c2)
    have d29 : dkN [(0, 0)] p1 := dkN_eq1 dp1 (dkN_lit (x := 0) (0) rfl) (congrArg Int32.toInt c2) rfl
    refine lv_aload_n hx hb dX1_answer_10 rfl (lv_at hl 0 rfl) ?_
    refine lv_iload_n hx hb dX1_answer_11 rfl (lv_at hl 1 rfl) ?_
    refine dk_Vi (As := [.int p0]) (rest := [.ref (z + 338)]) ⟨hx, hb, hml, hown, hts⟩ (fx_X1_sizeBody_2 l g z I1 p0 dp0 (by rw [(show I1 32 = I0 32 from ((by rw [eI1, dkU_n (by decide)] : I1 32 = _).trans rfl))]; exact tp0) hO) (cwV 1 hts gX1_answer_X1_sizeBody rfl rfl rfl (by decide +kernel) ⟨Nat.le_of_ble_eq_true rfl, Nat.le_of_ble_eq_true rfl⟩) (dk_at338 hW) rfl hK hT hW hS rfl hl.1 rfl (Nat.le_of_ble_eq_true rfl) dX1_answer_12 ⟨Nat.zero_le _, Nat.zero_le _⟩ (fun v30 I30 H30 L30 hp30 hW hS => ?_)
    obtain ⟨hF30, hO, hc30⟩ := hp30
    have hF := dkF_call hF hF30 rfl
    have eI30 : I1 = I30 := (dkF_nil hF30).symm
    subst eI30
    obtain ⟨dv30, x30_0, xr30, -⟩ := hc30
    have w31 : I1 32 = I0 32 := ((by rw [eI1, dkU_n (by decide)] : I1 32 = _).trans rfl)
    have q32 : ((I0 32) (Int32.toNatClampNeg p0)).toInt = (2 : Int) := by have h := x30_0; rw [w31] at h; exact h
    have xv30 : v30 = 12 := by have h := xr30; exact h
    have z33 : v30 = 12 := xv30
    subst z33
    refine lv_goto (tgt := 23) hx hb dX1_answer_15 (by decide) ?_
    refine lv_iload_n hx hb dX1_answer_23 rfl (lv_at hl 1 rfl) ?_
    refine lv_iconst (v := 1) hx hb dX1_answer_24 (by decide) ?_
    refine dk_Vi (As := [.int 12, .int p0, .int 1]) (rest := []) ⟨hx, hb, hml, hown, hts⟩ (fx_X1_gives_45 l g z I1 12 p0 1 (dkN_lit (x := 12) (12) rfl) dp0 (dkN_lit (x := 1) (1) rfl) (show dkN [(0, 0)] (I1 338 2) from dkN_sub (by rw [hF30 338 2 rfl]; exact (by rw [eI1, dkU_ss]; exact (dkN_lit (x := 0) (0) rfl))) rfl) (by rw [(show I1 32 = I0 32 from ((funext fun j => hF30 32 j dkNin_nil).trans ((by rw [eI1, dkU_n (by decide)] : I1 32 = _).trans rfl)))]; exact tp0) hO) (cwV 3 hts gX1_answer_X1_gives rfl rfl rfl (by decide +kernel) ⟨Nat.le_of_ble_eq_true rfl, Nat.le_of_ble_eq_true rfl⟩) (dk_at338 hW) rfl hK hT hW hS rfl hl.1 rfl (Nat.le_of_ble_eq_true rfl) dX1_answer_25 ⟨Nat.zero_le _, Nat.zero_le _⟩ (fun v34 I34 H34 L34 hp34 hW hS => ?_)
    obtain ⟨hF34, hO, hc34⟩ := hp34
    have hF := dkF_call hF hF34 rfl
    obtain ⟨_, f34_338_2, f34_339_0, f34_339_1, f34_339_2, f34_339_3, f34_339_4, f34_339_5, x34_0, x34_1, xr34, xh34_0, xh34_1, xh34_2, xh34_3, xh34_4, xh34_5, xh34_6, xh34_7, xh34_8, xh34_9, -⟩ := hc34
    have w35 : I1 32 = I0 32 := ((funext fun j => hF30 32 j dkNin_nil).trans ((by rw [eI1, dkU_n (by decide)] : I1 32 = _).trans rfl))
    have y36 : I34 338 2 = 6 := by have h := xh34_0; exact h
    have y37 : I34 339 0 = 12 := by have h := xh34_1; exact h
    have y38 : I34 339 1 = 11 := by have h := xh34_2; exact h
    have y39 : I34 339 2 = 10 := by have h := xh34_3; exact h
    have y40 : I34 339 3 = 24 := by have h := xh34_4; exact h
    have y41 : I34 339 4 = 21 := by have h := xh34_5; exact h
    have y42 : I34 339 5 = 20 := by have h := xh34_6; exact h
    have w43 : I1 339 6 = I0 339 6 := ((hF30 339 6 rfl).trans ((by rw [eI1, dkU_n (by decide)] : I1 339 6 = _).trans rfl))
    have y44 : I34 339 6 = I0 339 6 := by have h := xh34_7; rw [w43] at h; exact h
    have w45 : I1 339 7 = I0 339 7 := ((hF30 339 7 rfl).trans ((by rw [eI1, dkU_n (by decide)] : I1 339 7 = _).trans rfl))
    have y46 : I34 339 7 = I0 339 7 := by have h := xh34_8; rw [w45] at h; exact h
    have w47 : I1 339 = I0 339 := ((funext fun j => hF30 339 j dkNin_nil).trans ((by rw [eI1, dkU_n (by decide)] : I1 339 = _).trans rfl))
    have y48 : I34 339 = dkV (dkV (dkV (dkV (dkV (dkV (I0 339) 0 12) 1 11) 2 10) 3 24) 4 21) 5 20 := by have h := xh34_9; rw [w47] at h; exact h
    have w49 : I1 33 = I0 33 := ((funext fun j => hF30 33 j dkNin_nil).trans ((by rw [eI1, dkU_n (by decide)] : I1 33 = _).trans rfl))
    have w50 : I1 34 = I0 34 := ((funext fun j => hF30 34 j dkNin_nil).trans ((by rw [eI1, dkU_n (by decide)] : I1 34 = _).trans rfl))
    have xv34 : v34 = -(((I0 33) (Int32.toNatClampNeg p0)) + ((2 : Int32) * (p0 + ((I0 34) (Int32.toNatClampNeg p0))))) := by have h := xr34; rw [w49, w50] at h; exact h
    exact W.iret (v := v34) hx hb hr (fun t ht hW9 => ⟨⟨v34, I34, rfl, ⟨hF, hO, Or.inr (⟨trivial, dkN_sub d29 rfl, (show dkN [(6, 6)] (I34 338 2) from dkN_sub f34_338_2 rfl), (show dkN [(12, 12)] (I34 339 0) from dkN_sub f34_339_0 rfl), (show dkN [(11, 11)] (I34 339 1) from dkN_sub f34_339_1 rfl), (show dkN [(10, 10)] (I34 339 2) from dkN_sub f34_339_2 rfl), (show dkN [(24, 24)] (I34 339 3) from dkN_sub f34_339_3 rfl), (show dkN [(21, 21)] (I34 339 4) from dkN_sub f34_339_4 rfl), (show dkN [(20, 20)] (I34 339 5) from dkN_sub f34_339_5 rfl), tp0, q28, q32, xv34, y36, y37, y38, y39, y40, y41, y42, y44, y46, y48, trivial⟩)⟩, dkW_eq ht hW⟩, hS.F ht⟩) hS.2.2 dX1_answer_28
set_option maxHeartbeats 4000000 in
set_option maxRecDepth 100000 in
theorem fx_X5_ask_4 (l : Launch) (g : dkG) (z : Nat) (I0 : dkI) (p0 : Int32) (p1 : Int32)  (tp0 : (I0 32 (Int32.toNatClampNeg p0)).toInt = (2 : Int)) (hO : dkOk I0) : Met l yX5_ask wsX5_ask (dkR 7) (dkPc g z [.ref (z + 0), .int p0, .int p1] I0) (dkQi g z (fun r I1 => dkF [(338, 338, 2, 2), (339, 339, 0, 5)] I0 I1 ∧ dkOk I1 ∧ ((dkN [(-1000001, -1000001)] r ∧ dkN [(-2147483648, -1)] p0 ∧ (I0 32 (Int32.toNatClampNeg p0)).toInt = (2 : Int) ∧ p0.toInt + 1 ≤ (0 : Int) ∧ r = (-1000001) ∧ I1 338 2 = I0 338 2 ∧ I1 339 0 = I0 339 0 ∧ I1 339 1 = I0 339 1 ∧ I1 339 2 = I0 339 2 ∧ I1 339 3 = I0 339 3 ∧ I1 339 4 = I0 339 4 ∧ I1 339 5 = I0 339 5 ∧ I1 339 6 = I0 339 6 ∧ I1 339 7 = I0 339 7 ∧ I1 339  = I0 339 ∧ True) ∨ (dkN [(-1000001, -1000001)] r ∧ dkN [(0, 2147483647)] p0 ∧ (I0 32 (Int32.toNatClampNeg p0)).toInt = (2 : Int) ∧ (0 : Int) + 0 ≤ p0.toInt ∧ (I0 25 11).toInt + 0 ≤ p0.toInt ∧ r = (-1000001) ∧ I1 338 2 = I0 338 2 ∧ I1 339 0 = I0 339 0 ∧ I1 339 1 = I0 339 1 ∧ I1 339 2 = I0 339 2 ∧ I1 339 3 = I0 339 3 ∧ I1 339 4 = I0 339 4 ∧ I1 339 5 = I0 339 5 ∧ I1 339 6 = I0 339 6 ∧ I1 339 7 = I0 339 7 ∧ I1 339  = I0 339 ∧ True) ∨ (dkN [(-1000001, -1000001)] r ∧ dkN [(0, 5)] p0 ∧ dkN [(-2147483648, -1)] p1 ∧ dkN [(1, 6)] (I1 25 11) ∧ (I0 32 (Int32.toNatClampNeg p0)).toInt = (2 : Int) ∧ (0 : Int) + 0 ≤ p0.toInt ∧ p0.toInt + 1 ≤ (I0 25 11).toInt ∧ p1.toInt + 1 ≤ (0 : Int) ∧ r = (-1000001) ∧ I1 338 2 = I0 338 2 ∧ I1 339 0 = I0 339 0 ∧ I1 339 1 = I0 339 1 ∧ I1 339 2 = I0 339 2 ∧ I1 339 3 = I0 339 3 ∧ I1 339 4 = I0 339 4 ∧ I1 339 5 = I0 339 5 ∧ I1 339 6 = I0 339 6 ∧ I1 339 7 = I0 339 7 ∧ I1 339  = I0 339 ∧ True) ∨ (dkN [(-1000001, -1000001)] r ∧ dkN [(0, 5)] p0 ∧ dkN [(2, 2147483647)] p1 ∧ dkN [(1, 6)] (I1 25 11) ∧ (I0 32 (Int32.toNatClampNeg p0)).toInt = (2 : Int) ∧ (0 : Int) + 0 ≤ p0.toInt ∧ p0.toInt + 1 ≤ (I0 25 11).toInt ∧ (0 : Int) + 0 ≤ p1.toInt ∧ (1 : Int) + 1 ≤ p1.toInt ∧ r = (-1000001) ∧ I1 338 2 = I0 338 2 ∧ I1 339 0 = I0 339 0 ∧ I1 339 1 = I0 339 1 ∧ I1 339 2 = I0 339 2 ∧ I1 339 3 = I0 339 3 ∧ I1 339 4 = I0 339 4 ∧ I1 339 5 = I0 339 5 ∧ I1 339 6 = I0 339 6 ∧ I1 339 7 = I0 339 7 ∧ I1 339  = I0 339 ∧ True) ∨ (True ∧ dkN [(0, 5)] p0 ∧ dkN [(1, 1)] p1 ∧ dkN [(1, 6)] (I1 25 11) ∧ dkN [(3, 3)] (I1 338 2) ∧ dkN [(24, 24)] (I1 339 0) ∧ dkN [(21, 21)] (I1 339 1) ∧ dkN [(20, 20)] (I1 339 2) ∧ (I0 32 (Int32.toNatClampNeg p0)).toInt = (2 : Int) ∧ (0 : Int) + 0 ≤ p0.toInt ∧ p0.toInt + 1 ≤ (I0 25 11).toInt ∧ (0 : Int) + 0 ≤ p1.toInt ∧ p1.toInt + 0 ≤ (1 : Int) ∧ p1.toInt ≠ (0 : Int) ∧ ((I0 32) (Int32.toNatClampNeg p0)).toInt = (2 : Int) ∧ r = (2 : Int32) * (p0 + ((I0 34) (Int32.toNatClampNeg p0))) ∧ I1 338 2 = 3 ∧ I1 339 0 = 24 ∧ I1 339 1 = 21 ∧ I1 339 2 = 20 ∧ I1 339 3 = I0 339 3 ∧ I1 339 4 = I0 339 4 ∧ I1 339 5 = I0 339 5 ∧ I1 339 6 = I0 339 6 ∧ I1 339 7 = I0 339 7 ∧ I1 339  = dkV (dkV (dkV (I0 339) 0 24) 1 21) 2 20 ∧ True) ∨ (True ∧ dkN [(0, 5)] p0 ∧ dkN [(0, 0)] p1 ∧ dkN [(1, 6)] (I1 25 11) ∧ dkN [(6, 6)] (I1 338 2) ∧ dkN [(12, 12)] (I1 339 0) ∧ dkN [(11, 11)] (I1 339 1) ∧ dkN [(10, 10)] (I1 339 2) ∧ dkN [(24, 24)] (I1 339 3) ∧ dkN [(21, 21)] (I1 339 4) ∧ dkN [(20, 20)] (I1 339 5) ∧ (I0 32 (Int32.toNatClampNeg p0)).toInt = (2 : Int) ∧ (0 : Int) + 0 ≤ p0.toInt ∧ p0.toInt + 1 ≤ (I0 25 11).toInt ∧ (0 : Int) + 0 ≤ p1.toInt ∧ p1.toInt + 0 ≤ (1 : Int) ∧ p1.toInt = (0 : Int) ∧ ((I0 32) (Int32.toNatClampNeg p0)).toInt = (2 : Int) ∧ r = -(((I0 33) (Int32.toNatClampNeg p0)) + ((2 : Int32) * (p0 + ((I0 34) (Int32.toNatClampNeg p0))))) ∧ I1 338 2 = 6 ∧ I1 339 0 = 12 ∧ I1 339 1 = 11 ∧ I1 339 2 = 10 ∧ I1 339 3 = 24 ∧ I1 339 4 = 21 ∧ I1 339 5 = 20 ∧ I1 339 6 = I0 339 6 ∧ I1 339 7 = I0 339 7 ∧ I1 339  = dkV (dkV (dkV (dkV (dkV (dkV (I0 339) 0 12) 1 11) 2 10) 3 24) 4 21) 5 20 ∧ True)))) 0 0 (dkA z) := by
  refine Met.ofW (cc := cX5_ask) (maxL := 3) (ret := (some .int)) (by decide) rfl ?_
  intro p e s m args below meth c s₁ B hml hv
  obtain ⟨ha, hW, hK, hT⟩ := hv
  have hx := B.exec
  have hb := B.bytes
  have hr := B.returns
  have hts := atoms_spec (ws := wsX5_ask) B.pre
  have hown : s.vm.findClass RX5 = some m.cls := findClass_of_methodNamed B.named
  have hlocks := B.notSynchronized
  have hS : va_S (dkA z) s.heap s.heap [] := va_S.rf
  have hF : dkF [(338, 338, 2, 2), (339, 339, 0, 5)] I0 I0 := dkF_rf _ _
  have hl := lv_entry ([.ref (z + 0), .int p0, .int p1]) (n := 3) (Nat.le_of_ble_eq_true rfl)
  have hgo : entryFrame m args 3 = entryFrame m ([.ref (z + 0), .int p0, .int p1] : List Value).toArray 3 := by rw [ha]
  rw [hgo, lg_entry_eq]
  generalize (lg_sl ([.ref (z + 0), .int p0, .int p1]) ++ List.replicate (3 - (lg_sl ([.ref (z + 0), .int p0, .int p1])).length) Slot.unset).toArray = ls at hl ⊢
  have hl : lv_has ls 3 [(0, .ref (z + 0)), (1, .int p0), (2, .int p1)] := hl
  refine lv_aload_n hx hb dX5_ask_0 rfl (lv_at hl 0 rfl) ?_
  refine lv_iload_n hx hb dX5_ask_1 rfl (lv_at hl 1 rfl) ?_
  refine dk_Vi (As := [.int p0]) (rest := []) ⟨hx, hb, hml, hown, hts⟩ (fx_X5_isDog_1 l g z I0 p0 hO) (cwV 1 hts gX5_ask_X5_isDog rfl rfl rfl (by decide +kernel) ⟨Nat.le_of_ble_eq_true rfl, Nat.le_of_ble_eq_true rfl⟩) (dk_at0 hW) rfl hK hT hW hS rfl hl.1 rfl (Nat.le_of_ble_eq_true rfl) dX5_ask_2 ⟨Nat.zero_le _, Nat.zero_le _⟩ (fun v1 I1 H1 L1 hp1 hW hS => ?_)
  obtain ⟨hF1, hO, hc1⟩ := hp1
  have hF := dkF_call hF hF1 rfl
  have eI1 : I0 = I1 := (dkF_nil hF1).symm
  subst eI1
  rcases hc1 with ⟨dv1, a1_0, x1_0, xr1, -⟩ | hc1
  ·
    have q2 : p0.toInt + 1 ≤ (0 : Int) := x1_0
    have xv1 : v1 = 0 := by have h := xr1; exact h
    have d3 : dkN [(-2147483648, -1)] p0 := dkN_eq1 (dkN_top p0) a1_0 rfl rfl
    have z4 : v1 = 0 := xv1
    subst z4
    refine lv_if_eq (tgt := 28) hx hb dX5_ask_5 (by decide) (fun c5 => ?_) (fun c5 => ?_)
    ·
      refine lv_ldc (v := (-1000001)) hx hb hown (hts (.constant RX5 70 (-1000001)) (List.mem_of_getElem? (i := 2) rfl)) dX5_ask_28 ?_
      exact W.iret (v := (-1000001)) hx hb hr (fun t ht hW9 => ⟨⟨(-1000001), I0, rfl, ⟨hF, hO, Or.inl ⟨dkN_sub (dkN_lit (x := (-1000001)) (-1000001) rfl) rfl, dkN_sub d3 rfl, tp0, q2, rfl, rfl, rfl, rfl, rfl, rfl, rfl, rfl, rfl, rfl, rfl, trivial⟩⟩, dkW_eq ht hW⟩, hS.F ht⟩) hS.2.2 dX5_ask_30
    ·
      exact (dkN_nil (show dkN [] 0 from dkN_ne1 (0) (dkN_lit (x := 0) (0) rfl) (dkN_lit (x := 0) (0) rfl) (dk_ne c5) rfl)).elim
  rcases hc1 with ⟨dv1, a1_0, x1_0, x1_1, xr1, -⟩ | hc1
  ·
    have q6 : (0 : Int) + 0 ≤ p0.toInt := x1_0
    have q7 : (I0 25 11).toInt + 0 ≤ p0.toInt := x1_1
    have xv1 : v1 = 0 := by have h := xr1; exact h
    have d8 : dkN [(0, 2147483647)] p0 := dkN_eq1 (dkN_top p0) a1_0 rfl rfl
    have z9 : v1 = 0 := xv1
    subst z9
    refine lv_if_eq (tgt := 28) hx hb dX5_ask_5 (by decide) (fun c10 => ?_) (fun c10 => ?_)
    ·
      refine lv_ldc (v := (-1000001)) hx hb hown (hts (.constant RX5 70 (-1000001)) (List.mem_of_getElem? (i := 2) rfl)) dX5_ask_28 ?_
      exact W.iret (v := (-1000001)) hx hb hr (fun t ht hW9 => ⟨⟨(-1000001), I0, rfl, ⟨hF, hO, Or.inr (Or.inl ⟨dkN_sub (dkN_lit (x := (-1000001)) (-1000001) rfl) rfl, dkN_sub d8 rfl, tp0, q6, q7, rfl, rfl, rfl, rfl, rfl, rfl, rfl, rfl, rfl, rfl, rfl, trivial⟩)⟩, dkW_eq ht hW⟩, hS.F ht⟩) hS.2.2 dX5_ask_30
    ·
      exact (dkN_nil (show dkN [] 0 from dkN_ne1 (0) (dkN_lit (x := 0) (0) rfl) (dkN_lit (x := 0) (0) rfl) (dk_ne c10) rfl)).elim
  ·
    obtain ⟨dv1, a1_0, f1_25_11, x1_0, x1_1, xr1, -⟩ := hc1
    have q11 : (0 : Int) + 0 ≤ p0.toInt := x1_0
    have q12 : p0.toInt + 1 ≤ (I0 25 11).toInt := x1_1
    have xv1 : v1 = 1 := by have h := xr1; exact h
    have d13 : dkN [(0, 5)] p0 := dkN_eq1 (dkN_top p0) a1_0 rfl rfl
    have z14 : v1 = 1 := xv1
    subst z14
    refine lv_if_eq (tgt := 28) hx hb dX5_ask_5 (by decide) (fun c15 => ?_) (fun c15 => ?_)
    ·
      exact (dkN_nil (show dkN [] 1 from dkN_eq1 (dkN_lit (x := 1) (1) rfl) (dkN_lit (x := 0) (0) rfl) (congrArg Int32.toInt c15) rfl)).elim
    ·
      refine lv_iload_n hx hb dX5_ask_8 rfl (lv_at hl 2 rfl) ?_
      refine lv_iconst (v := 1) hx hb dX5_ask_9 (by decide) ?_
      refine dk_Si (As := [.int p1, .int 1]) (rest := []) ⟨hx, hb, hml, hown, hts⟩ (fx_X5_isUpTo_13 l g z I0 p1 1 (dkN_lit (x := 1) (1) rfl) hO) (va_cwS 2 hts gX5_ask_X5_isUpTo rfl rfl rfl (by decide +kernel) ⟨Nat.le_of_ble_eq_true rfl, Nat.le_of_ble_eq_true rfl⟩) hK hT hW hS rfl hl.1 rfl (Nat.le_of_ble_eq_true rfl) dX5_ask_10 ⟨Nat.zero_le _, Nat.zero_le _⟩ (fun v16 I16 H16 L16 hp16 hW hS => ?_)
      obtain ⟨hF16, hO, hc16⟩ := hp16
      have hF := dkF_call hF hF16 rfl
      have eI16 : I0 = I16 := (dkF_nil hF16).symm
      subst eI16
      rcases hc16 with ⟨dv16, a16_0, x16_0, xr16, -⟩ | hc16
      ·
        have q17 : p1.toInt + 1 ≤ (0 : Int) := x16_0
        have xv16 : v16 = 0 := by have h := xr16; exact h
        have d18 : dkN [(-2147483648, -1)] p1 := dkN_eq1 (dkN_top p1) a16_0 rfl rfl
        have z19 : v16 = 0 := xv16
        subst z19
        refine lv_if_eq (tgt := 28) hx hb dX5_ask_13 (by decide) (fun c20 => ?_) (fun c20 => ?_)
        ·
          refine lv_ldc (v := (-1000001)) hx hb hown (hts (.constant RX5 70 (-1000001)) (List.mem_of_getElem? (i := 2) rfl)) dX5_ask_28 ?_
          exact W.iret (v := (-1000001)) hx hb hr (fun t ht hW9 => ⟨⟨(-1000001), I0, rfl, ⟨hF, hO, Or.inr (Or.inr (Or.inl ⟨dkN_sub (dkN_lit (x := (-1000001)) (-1000001) rfl) rfl, dkN_sub d13 rfl, dkN_sub d18 rfl, (show dkN [(1, 6)] (I0 25 11) from dkN_sub (by rw [hF16 25 11 rfl]; exact f1_25_11) rfl), tp0, q11, q12, q17, rfl, rfl, rfl, rfl, rfl, rfl, rfl, rfl, rfl, rfl, rfl, trivial⟩))⟩, dkW_eq ht hW⟩, hS.F ht⟩) hS.2.2 dX5_ask_30
        ·
          exact (dkN_nil (show dkN [] 0 from dkN_ne1 (0) (dkN_lit (x := 0) (0) rfl) (dkN_lit (x := 0) (0) rfl) (dk_ne c20) rfl)).elim
      rcases hc16 with ⟨dv16, a16_0, x16_0, x16_1, xr16, -⟩ | hc16
      ·
        have q21 : (0 : Int) + 0 ≤ p1.toInt := x16_0
        have q22 : (1 : Int) + 1 ≤ p1.toInt := x16_1
        have xv16 : v16 = 0 := by have h := xr16; exact h
        have d23 : dkN [(2, 2147483647)] p1 := dkN_eq1 (dkN_top p1) a16_0 rfl rfl
        have z24 : v16 = 0 := xv16
        subst z24
        refine lv_if_eq (tgt := 28) hx hb dX5_ask_13 (by decide) (fun c25 => ?_) (fun c25 => ?_)
        ·
          refine lv_ldc (v := (-1000001)) hx hb hown (hts (.constant RX5 70 (-1000001)) (List.mem_of_getElem? (i := 2) rfl)) dX5_ask_28 ?_
          exact W.iret (v := (-1000001)) hx hb hr (fun t ht hW9 => ⟨⟨(-1000001), I0, rfl, ⟨hF, hO, Or.inr (Or.inr (Or.inr (Or.inl ⟨dkN_sub (dkN_lit (x := (-1000001)) (-1000001) rfl) rfl, dkN_sub d13 rfl, dkN_sub d23 rfl, (show dkN [(1, 6)] (I0 25 11) from dkN_sub (by rw [hF16 25 11 rfl]; exact f1_25_11) rfl), tp0, q11, q12, q21, q22, rfl, rfl, rfl, rfl, rfl, rfl, rfl, rfl, rfl, rfl, rfl, trivial⟩)))⟩, dkW_eq ht hW⟩, hS.F ht⟩) hS.2.2 dX5_ask_30
        ·
          exact (dkN_nil (show dkN [] 0 from dkN_ne1 (0) (dkN_lit (x := 0) (0) rfl) (dkN_lit (x := 0) (0) rfl) (dk_ne c25) rfl)).elim
      ·
        obtain ⟨dv16, a16_0, x16_0, x16_1, xr16, -⟩ := hc16
        have q26 : (0 : Int) + 0 ≤ p1.toInt := x16_0
        have q27 : p1.toInt + 0 ≤ (1 : Int) := x16_1
        have xv16 : v16 = 1 := by have h := xr16; exact h
        have d28 : dkN [(0, 1)] p1 := dkN_eq1 (dkN_top p1) a16_0 rfl rfl
        have z29 : v16 = 1 := xv16
        subst z29
        refine lv_if_eq (tgt := 28) hx hb dX5_ask_13 (by decide) (fun c30 => ?_) (fun c30 => ?_)
        ·
          exact (dkN_nil (show dkN [] 1 from dkN_eq1 (dkN_lit (x := 1) (1) rfl) (dkN_lit (x := 0) (0) rfl) (congrArg Int32.toInt c30) rfl)).elim
        ·
          refine lv_aload_n hx hb dX5_ask_16 rfl (lv_at hl 0 rfl) ?_
          refine dk_get (k := 0) hx hb hts iX5_ask_5 hown hK (dk_at0 hW) rfl 9 (by decide) (hts (.fieldLink RX5 58 "DogKings" "asks" "LDogKings$Asks;") (List.mem_of_getElem? (i := 1) rfl)) rfl dX5_ask_17 ?_
          refine lv_iload_n hx hb dX5_ask_20 rfl (lv_at hl 1 rfl) ?_
          refine lv_iload_n hx hb dX5_ask_21 rfl (lv_at hl 2 rfl) ?_
          refine dk_Vi (As := [.int p0, .int p1]) (rest := []) ⟨hx, hb, hml, hown, hts⟩ (fx_X1_answer_2 l g z I0 p0 p1 d13 d28 tp0 hO) (cwV 2 hts gX5_ask_X1_answer rfl rfl rfl (by decide +kernel) ⟨Nat.le_of_ble_eq_true rfl, Nat.le_of_ble_eq_true rfl⟩) (dk_at338 hW) rfl hK hT hW hS rfl hl.1 rfl (Nat.le_of_ble_eq_true rfl) dX5_ask_22 ⟨Nat.zero_le _, Nat.zero_le _⟩ (fun v31 I31 H31 L31 hp31 hW hS => ?_)
          obtain ⟨hF31, hO, hc31⟩ := hp31
          have hF := dkF_call hF hF31 rfl
          rcases hc31 with ⟨_, a31_1, f31_338_2, f31_339_0, f31_339_1, f31_339_2, x31_0, x31_1, x31_2, xr31, xh31_0, xh31_1, xh31_2, xh31_3, xh31_4, xh31_5, xh31_6, xh31_7, xh31_8, xh31_9, -⟩ | hc31
          ·
            have q32 : p1.toInt ≠ (0 : Int) := x31_1
            have q33 : ((I0 32) (Int32.toNatClampNeg p0)).toInt = (2 : Int) := x31_2
            have y34 : I31 338 2 = 3 := by have h := xh31_0; exact h
            have y35 : I31 339 0 = 24 := by have h := xh31_1; exact h
            have y36 : I31 339 1 = 21 := by have h := xh31_2; exact h
            have y37 : I31 339 2 = 20 := by have h := xh31_3; exact h
            have y38 : I31 339 3 = I0 339 3 := by have h := xh31_4; exact h
            have y39 : I31 339 4 = I0 339 4 := by have h := xh31_5; exact h
            have y40 : I31 339 5 = I0 339 5 := by have h := xh31_6; exact h
            have y41 : I31 339 6 = I0 339 6 := by have h := xh31_7; exact h
            have y42 : I31 339 7 = I0 339 7 := by have h := xh31_8; exact h
            have y43 : I31 339 = dkV (dkV (dkV (I0 339) 0 24) 1 21) 2 20 := by have h := xh31_9; exact h
            have xv31 : v31 = (2 : Int32) * (p0 + ((I0 34) (Int32.toNatClampNeg p0))) := by have h := xr31; exact h
            have d44 : dkN [(1, 1)] p1 := dkN_eq1 d28 a31_1 rfl rfl
            refine lv_goto (tgt := 30) hx hb dX5_ask_25 (by decide) ?_
            exact W.iret (v := v31) hx hb hr (fun t ht hW9 => ⟨⟨v31, I31, rfl, ⟨hF, hO, Or.inr (Or.inr (Or.inr (Or.inr (Or.inl ⟨trivial, dkN_sub d13 rfl, dkN_sub d44 rfl, (show dkN [(1, 6)] (I31 25 11) from dkN_sub (by rw [hF31 25 11 rfl]; exact (by rw [hF16 25 11 rfl]; exact f1_25_11)) rfl), (show dkN [(3, 3)] (I31 338 2) from dkN_sub f31_338_2 rfl), (show dkN [(24, 24)] (I31 339 0) from dkN_sub f31_339_0 rfl), (show dkN [(21, 21)] (I31 339 1) from dkN_sub f31_339_1 rfl), (show dkN [(20, 20)] (I31 339 2) from dkN_sub f31_339_2 rfl), tp0, q11, q12, q26, q27, q32, q33, xv31, y34, y35, y36, y37, y38, y39, y40, y41, y42, y43, trivial⟩))))⟩, dkW_eq ht hW⟩, hS.F ht⟩) hS.2.2 dX5_ask_30
          ·
            obtain ⟨_, a31_1, f31_338_2, f31_339_0, f31_339_1, f31_339_2, f31_339_3, f31_339_4, f31_339_5, x31_0, x31_1, x31_2, xr31, xh31_0, xh31_1, xh31_2, xh31_3, xh31_4, xh31_5, xh31_6, xh31_7, xh31_8, xh31_9, -⟩ := hc31
            have q45 : p1.toInt = (0 : Int) := x31_1
            have q46 : ((I0 32) (Int32.toNatClampNeg p0)).toInt = (2 : Int) := x31_2
            have y47 : I31 338 2 = 6 := by have h := xh31_0; exact h
            have y48 : I31 339 0 = 12 := by have h := xh31_1; exact h
            have y49 : I31 339 1 = 11 := by have h := xh31_2; exact h
            have y50 : I31 339 2 = 10 := by have h := xh31_3; exact h
            have y51 : I31 339 3 = 24 := by have h := xh31_4; exact h
            have y52 : I31 339 4 = 21 := by have h := xh31_5; exact h
            have y53 : I31 339 5 = 20 := by have h := xh31_6; exact h
            have y54 : I31 339 6 = I0 339 6 := by have h := xh31_7; exact h
            have y55 : I31 339 7 = I0 339 7 := by have h := xh31_8; exact h
            have y56 : I31 339 = dkV (dkV (dkV (dkV (dkV (dkV (I0 339) 0 12) 1 11) 2 10) 3 24) 4 21) 5 20 := by have h := xh31_9; exact h
            have xv31 : v31 = -(((I0 33) (Int32.toNatClampNeg p0)) + ((2 : Int32) * (p0 + ((I0 34) (Int32.toNatClampNeg p0))))) := by have h := xr31; exact h
            have d57 : dkN [(0, 0)] p1 := dkN_eq1 d28 a31_1 rfl rfl
            refine lv_goto (tgt := 30) hx hb dX5_ask_25 (by decide) ?_
            exact W.iret (v := v31) hx hb hr (fun t ht hW9 => ⟨⟨v31, I31, rfl, ⟨hF, hO, Or.inr (Or.inr (Or.inr (Or.inr (Or.inr (⟨trivial, dkN_sub d13 rfl, dkN_sub d57 rfl, (show dkN [(1, 6)] (I31 25 11) from dkN_sub (by rw [hF31 25 11 rfl]; exact (by rw [hF16 25 11 rfl]; exact f1_25_11)) rfl), (show dkN [(6, 6)] (I31 338 2) from dkN_sub f31_338_2 rfl), (show dkN [(12, 12)] (I31 339 0) from dkN_sub f31_339_0 rfl), (show dkN [(11, 11)] (I31 339 1) from dkN_sub f31_339_1 rfl), (show dkN [(10, 10)] (I31 339 2) from dkN_sub f31_339_2 rfl), (show dkN [(24, 24)] (I31 339 3) from dkN_sub f31_339_3 rfl), (show dkN [(21, 21)] (I31 339 4) from dkN_sub f31_339_4 rfl), (show dkN [(20, 20)] (I31 339 5) from dkN_sub f31_339_5 rfl), tp0, q11, q12, q26, q27, q45, q46, xv31, y47, y48, y49, y50, y51, y52, y53, y54, y55, y56, trivial⟩)))))⟩, dkW_eq ht hW⟩, hS.F ht⟩) hS.2.2 dX5_ask_30
set_option maxHeartbeats 4000000 in
set_option maxRecDepth 100000 in
theorem fx_X6_begins_15 (l : Launch) (g : dkG) (z : Nat) (I0 : dkI) (p0 : Int32) (dp0 : dkN [(24, 24)] p0) (np0 : dkN [(0, 0)] (I0 340 25))  (hO : dkOk I0) : Met l yX6_begins wsX6_begins (dkR 0) (dkPc g z [.ref (z + 340), .int p0] I0) (dkQv g z (fun I1 => dkF [(340, 340, 25, 25), (353, 353, 0, 0)] I0 I1 ∧ dkOk I1 ∧ ((dkN [(1, 1)] (I1 340 25) ∧ dkN [(24, 24)] (I1 353 0) ∧ I1 340 25 = 1 ∧ I1 353 0 = 24 ∧ I1 353 1 = I0 353 1 ∧ I1 353 2 = I0 353 2 ∧ I1 353 3 = I0 353 3 ∧ I1 353 4 = I0 353 4 ∧ I1 353 5 = I0 353 5 ∧ I1 353 6 = I0 353 6 ∧ I1 353 7 = I0 353 7 ∧ I1 353  = dkV (I0 353) 0 24 ∧ True)))) 0 0 (dkA z) := by
  obtain rfl : p0 = 24 := dkN_is dp0 rfl
  refine Met.ofW (cc := cX6_begins) (maxL := 2) (ret := none) (by decide) rfl ?_
  intro p e s m args below meth c s₁ B hml hv
  obtain ⟨ha, hW, hK, hT⟩ := hv
  have hx := B.exec
  have hb := B.bytes
  have hr := B.returns
  have hts := atoms_spec (ws := wsX6_begins) B.pre
  have hown : s.vm.findClass RX6 = some m.cls := findClass_of_methodNamed B.named
  have hlocks := B.notSynchronized
  have hS : va_S (dkA z) s.heap s.heap [] := va_S.rf
  have hF : dkF [(340, 340, 25, 25), (353, 353, 0, 0)] I0 I0 := dkF_rf _ _
  have hl := lv_entry ([.ref (z + 340), .int 24]) (n := 2) (Nat.le_of_ble_eq_true rfl)
  have hgo : entryFrame m args 2 = entryFrame m ([.ref (z + 340), .int 24] : List Value).toArray 2 := by rw [ha]
  rw [hgo, lg_entry_eq]
  generalize (lg_sl ([.ref (z + 340), .int 24]) ++ List.replicate (2 - (lg_sl ([.ref (z + 340), .int 24])).length) Slot.unset).toArray = ls at hl ⊢
  have hl : lv_has ls 2 [(0, .ref (z + 340)), (1, .int 24)] := hl
  refine lv_aload_n hx hb dX6_begins_0 rfl (lv_at hl 0 rfl) ?_
  refine dk_get (k := 340) hx hb hts iX6_begins_6 hown hK (dk_at340 hW) rfl 25 (by decide) (hts (.fieldLink RX6 252 "DogKingsModel" "traced" "I") (List.mem_of_getElem? (i := 1) rfl)) rfl dX6_begins_1 ?_
  refine lv_topi (fun v1 ev1 => ?_)
  have dv1 : dkN [(0, 0)] v1 := by rw [ev1]; exact np0
  have xv1 : v1 = 0 := dkN_is dv1 rfl
  subst xv1
  refine lv_bipush (v := 16) hx hb dX6_begins_4 (by decide) ?_
  refine lv_icmp_ge (tgt := 29) hx hb dX6_begins_6 (by decide) (fun c2 => ?_) (fun c2 => ?_)
  ·
    exact (dkN_nil (show dkN [] 16 from dkN_le1 0 (dkN_lit (x := 16) (16) rfl) (dkN_lit (x := 0) (0) rfl) (dkc_le c2) rfl)).elim
  ·
    refine lv_aload_n hx hb dX6_begins_9 rfl (lv_at hl 0 rfl) ?_
    refine dk_get (k := 340) hx hb hts iX6_begins_6 hown hK (dk_at340 hW) rfl 24 (by decide) (hts (.fieldLink RX6 47 "DogKingsModel" "trace" "[I") (List.mem_of_getElem? (i := 2) rfl)) rfl dX6_begins_10 ?_
    refine lv_aload_n hx hb dX6_begins_13 rfl (lv_at hl 0 rfl) ?_
    refine dk_get (k := 340) hx hb hts iX6_begins_6 hown hK (dk_at340 hW) rfl 25 (by decide) (hts (.fieldLink RX6 252 "DogKingsModel" "traced" "I") (List.mem_of_getElem? (i := 1) rfl)) rfl dX6_begins_14 ?_
    refine lv_topi (fun v3 ev3 => ?_)
    have dv3 : dkN [(0, 0)] v3 := by rw [ev3]; exact np0
    have xv3 : v3 = 0 := dkN_is dv3 rfl
    subst xv3
    refine lv_iload_n hx hb dX6_begins_17 rfl (lv_at hl 1 rfl) ?_
    refine dk_ist (k := 353) hx hb hK hW (fun _ => rfl) (by decide) hS (dkN_in (n := 16) (dkN_lit (x := 0) (0) rfl) rfl) dX6_begins_18 (fun I4 H4 L4 eI4 hW hS => ?_)
    have eI4 : I4 = dkU I0 353 0 24 := eI4
    have hO := dkO_set hO eI4 (dkN_sub (dkN_lit (x := 24) (24) rfl) rfl)
    have hF := dkF_set hF eI4 rfl
    refine lv_aload_n hx hb dX6_begins_19 rfl (lv_at hl 0 rfl) ?_
    refine lv_dup hx hb dX6_begins_20 rfl ?_
    refine dk_get (k := 340) hx hb hts iX6_begins_6 hown hK (dk_at340 hW) rfl 25 (by decide) (hts (.fieldLink RX6 252 "DogKingsModel" "traced" "I") (List.mem_of_getElem? (i := 1) rfl)) rfl dX6_begins_21 ?_
    refine lv_topi (fun v5 ev5 => ?_)
    have dv5 : dkN [(0, 0)] v5 := by rw [ev5]; exact (by rw [eI4, dkU_n (by decide)]; exact np0)
    have xv5 : v5 = 0 := dkN_is dv5 rfl
    subst xv5
    refine lv_iconst (v := 1) hx hb dX6_begins_24 (by decide) ?_
    refine lv_iadd hx hb dX6_begins_25 ?_
    refine lv_topi (fun v6 ev6 => ?_)
    have dv6 : dkN [(1, 1)] v6 := by rw [ev6]; exact dkN_add (dkN_lit (x := 0) (0) rfl) (dkN_lit (x := 1) (1) rfl) rfl
    have xv6 : v6 = 1 := by rw [ev6]; rfl
    subst xv6
    refine dk_put (k := 340) hx hb hts iX6_begins_6 tyX6 tyX6_ok nmX6 hown hK hW (dk_at340 hW) hS rfl 25 (by decide) (hts (.fieldLink RX6 252 "DogKingsModel" "traced" "I") (List.mem_of_getElem? (i := 1) rfl)) rfl rfl (Nat.le_of_ble_eq_true rfl) rfl dX6_begins_26 (fun I7 H7 L7 eI7 hW hS => ?_)
    have eI7 : I7 = dkU I4 340 25 1 := eI7
    have hO := dkO_set hO eI7 (dkN_sub (dkN_lit (x := 1) (1) rfl) rfl)
    have hF := dkF_set hF eI7 rfl
    exact W.vret hx hb hr (fun t ht hW9 => ⟨⟨I7, rfl, ⟨hF, hO, ⟨(show dkN [(1, 1)] (I7 340 25) from dkN_sub (by rw [eI7, dkU_ss]; exact (dkN_lit (x := 1) (1) rfl)) rfl), (show dkN [(24, 24)] (I7 353 0) from dkN_sub (by rw [eI7, dkU_n (by decide)]; exact (by rw [eI4, dkU_ss]; exact (dkN_lit (x := 24) (24) rfl))) rfl), (by rw [eI7, dkU_ss]), ((by rw [eI7, dkU_n (by decide)] : I7 353 0 = _).trans (by rw [eI4, dkU_ss])), ((by rw [eI7, dkU_n (by decide)] : I7 353 1 = _).trans ((by rw [eI4, dkU_sn (by decide)] : I4 353 1 = _).trans rfl)), ((by rw [eI7, dkU_n (by decide)] : I7 353 2 = _).trans ((by rw [eI4, dkU_sn (by decide)] : I4 353 2 = _).trans rfl)), ((by rw [eI7, dkU_n (by decide)] : I7 353 3 = _).trans ((by rw [eI4, dkU_sn (by decide)] : I4 353 3 = _).trans rfl)), ((by rw [eI7, dkU_n (by decide)] : I7 353 4 = _).trans ((by rw [eI4, dkU_sn (by decide)] : I4 353 4 = _).trans rfl)), ((by rw [eI7, dkU_n (by decide)] : I7 353 5 = _).trans ((by rw [eI4, dkU_sn (by decide)] : I4 353 5 = _).trans rfl)), ((by rw [eI7, dkU_n (by decide)] : I7 353 6 = _).trans ((by rw [eI4, dkU_sn (by decide)] : I4 353 6 = _).trans rfl)), ((by rw [eI7, dkU_n (by decide)] : I7 353 7 = _).trans ((by rw [eI4, dkU_sn (by decide)] : I4 353 7 = _).trans rfl)), ((by rw [eI7, dkU_n (by decide)] : I7 353 = _).trans (by rw [eI4, dkU_s, show (I0 353) = I0 353 from rfl])), trivial⟩⟩, dkW_eq ht hW⟩, hS.F ht⟩) hS.2.2 dX6_begins_29
set_option maxHeartbeats 4000000 in
set_option maxRecDepth 100000 in
theorem fx_X6_begins_16 (l : Launch) (g : dkG) (z : Nat) (I0 : dkI) (p0 : Int32) (dp0 : dkN [(21, 21)] p0) (np0 : dkN [(1, 1)] (I0 340 25))  (hO : dkOk I0) : Met l yX6_begins wsX6_begins (dkR 0) (dkPc g z [.ref (z + 340), .int p0] I0) (dkQv g z (fun I1 => dkF [(340, 340, 25, 25), (353, 353, 1, 1)] I0 I1 ∧ dkOk I1 ∧ ((dkN [(2, 2)] (I1 340 25) ∧ dkN [(21, 21)] (I1 353 1) ∧ I1 340 25 = 2 ∧ I1 353 0 = I0 353 0 ∧ I1 353 1 = 21 ∧ I1 353 2 = I0 353 2 ∧ I1 353 3 = I0 353 3 ∧ I1 353 4 = I0 353 4 ∧ I1 353 5 = I0 353 5 ∧ I1 353 6 = I0 353 6 ∧ I1 353 7 = I0 353 7 ∧ I1 353  = dkV (I0 353) 1 21 ∧ True)))) 0 0 (dkA z) := by
  obtain rfl : p0 = 21 := dkN_is dp0 rfl
  refine Met.ofW (cc := cX6_begins) (maxL := 2) (ret := none) (by decide) rfl ?_
  intro p e s m args below meth c s₁ B hml hv
  obtain ⟨ha, hW, hK, hT⟩ := hv
  have hx := B.exec
  have hb := B.bytes
  have hr := B.returns
  have hts := atoms_spec (ws := wsX6_begins) B.pre
  have hown : s.vm.findClass RX6 = some m.cls := findClass_of_methodNamed B.named
  have hlocks := B.notSynchronized
  have hS : va_S (dkA z) s.heap s.heap [] := va_S.rf
  have hF : dkF [(340, 340, 25, 25), (353, 353, 1, 1)] I0 I0 := dkF_rf _ _
  have hl := lv_entry ([.ref (z + 340), .int 21]) (n := 2) (Nat.le_of_ble_eq_true rfl)
  have hgo : entryFrame m args 2 = entryFrame m ([.ref (z + 340), .int 21] : List Value).toArray 2 := by rw [ha]
  rw [hgo, lg_entry_eq]
  generalize (lg_sl ([.ref (z + 340), .int 21]) ++ List.replicate (2 - (lg_sl ([.ref (z + 340), .int 21])).length) Slot.unset).toArray = ls at hl ⊢
  have hl : lv_has ls 2 [(0, .ref (z + 340)), (1, .int 21)] := hl
  refine lv_aload_n hx hb dX6_begins_0 rfl (lv_at hl 0 rfl) ?_
  refine dk_get (k := 340) hx hb hts iX6_begins_6 hown hK (dk_at340 hW) rfl 25 (by decide) (hts (.fieldLink RX6 252 "DogKingsModel" "traced" "I") (List.mem_of_getElem? (i := 1) rfl)) rfl dX6_begins_1 ?_
  refine lv_topi (fun v1 ev1 => ?_)
  have dv1 : dkN [(1, 1)] v1 := by rw [ev1]; exact np0
  have xv1 : v1 = 1 := dkN_is dv1 rfl
  subst xv1
  refine lv_bipush (v := 16) hx hb dX6_begins_4 (by decide) ?_
  refine lv_icmp_ge (tgt := 29) hx hb dX6_begins_6 (by decide) (fun c2 => ?_) (fun c2 => ?_)
  ·
    exact (dkN_nil (show dkN [] 16 from dkN_le1 0 (dkN_lit (x := 16) (16) rfl) (dkN_lit (x := 1) (1) rfl) (dkc_le c2) rfl)).elim
  ·
    refine lv_aload_n hx hb dX6_begins_9 rfl (lv_at hl 0 rfl) ?_
    refine dk_get (k := 340) hx hb hts iX6_begins_6 hown hK (dk_at340 hW) rfl 24 (by decide) (hts (.fieldLink RX6 47 "DogKingsModel" "trace" "[I") (List.mem_of_getElem? (i := 2) rfl)) rfl dX6_begins_10 ?_
    refine lv_aload_n hx hb dX6_begins_13 rfl (lv_at hl 0 rfl) ?_
    refine dk_get (k := 340) hx hb hts iX6_begins_6 hown hK (dk_at340 hW) rfl 25 (by decide) (hts (.fieldLink RX6 252 "DogKingsModel" "traced" "I") (List.mem_of_getElem? (i := 1) rfl)) rfl dX6_begins_14 ?_
    refine lv_topi (fun v3 ev3 => ?_)
    have dv3 : dkN [(1, 1)] v3 := by rw [ev3]; exact np0
    have xv3 : v3 = 1 := dkN_is dv3 rfl
    subst xv3
    refine lv_iload_n hx hb dX6_begins_17 rfl (lv_at hl 1 rfl) ?_
    refine dk_ist (k := 353) hx hb hK hW (fun _ => rfl) (by decide) hS (dkN_in (n := 16) (dkN_lit (x := 1) (1) rfl) rfl) dX6_begins_18 (fun I4 H4 L4 eI4 hW hS => ?_)
    have eI4 : I4 = dkU I0 353 1 21 := eI4
    have hO := dkO_set hO eI4 (dkN_sub (dkN_lit (x := 21) (21) rfl) rfl)
    have hF := dkF_set hF eI4 rfl
    refine lv_aload_n hx hb dX6_begins_19 rfl (lv_at hl 0 rfl) ?_
    refine lv_dup hx hb dX6_begins_20 rfl ?_
    refine dk_get (k := 340) hx hb hts iX6_begins_6 hown hK (dk_at340 hW) rfl 25 (by decide) (hts (.fieldLink RX6 252 "DogKingsModel" "traced" "I") (List.mem_of_getElem? (i := 1) rfl)) rfl dX6_begins_21 ?_
    refine lv_topi (fun v5 ev5 => ?_)
    have dv5 : dkN [(1, 1)] v5 := by rw [ev5]; exact (by rw [eI4, dkU_n (by decide)]; exact np0)
    have xv5 : v5 = 1 := dkN_is dv5 rfl
    subst xv5
    refine lv_iconst (v := 1) hx hb dX6_begins_24 (by decide) ?_
    refine lv_iadd hx hb dX6_begins_25 ?_
    refine lv_topi (fun v6 ev6 => ?_)
    have dv6 : dkN [(2, 2)] v6 := by rw [ev6]; exact dkN_add (dkN_lit (x := 1) (1) rfl) (dkN_lit (x := 1) (1) rfl) rfl
    have xv6 : v6 = 2 := by rw [ev6]; rfl
    subst xv6
    refine dk_put (k := 340) hx hb hts iX6_begins_6 tyX6 tyX6_ok nmX6 hown hK hW (dk_at340 hW) hS rfl 25 (by decide) (hts (.fieldLink RX6 252 "DogKingsModel" "traced" "I") (List.mem_of_getElem? (i := 1) rfl)) rfl rfl (Nat.le_of_ble_eq_true rfl) rfl dX6_begins_26 (fun I7 H7 L7 eI7 hW hS => ?_)
    have eI7 : I7 = dkU I4 340 25 2 := eI7
    have hO := dkO_set hO eI7 (dkN_sub (dkN_lit (x := 2) (2) rfl) rfl)
    have hF := dkF_set hF eI7 rfl
    exact W.vret hx hb hr (fun t ht hW9 => ⟨⟨I7, rfl, ⟨hF, hO, ⟨(show dkN [(2, 2)] (I7 340 25) from dkN_sub (by rw [eI7, dkU_ss]; exact (dkN_lit (x := 2) (2) rfl)) rfl), (show dkN [(21, 21)] (I7 353 1) from dkN_sub (by rw [eI7, dkU_n (by decide)]; exact (by rw [eI4, dkU_ss]; exact (dkN_lit (x := 21) (21) rfl))) rfl), (by rw [eI7, dkU_ss]), ((by rw [eI7, dkU_n (by decide)] : I7 353 0 = _).trans ((by rw [eI4, dkU_sn (by decide)] : I4 353 0 = _).trans rfl)), ((by rw [eI7, dkU_n (by decide)] : I7 353 1 = _).trans (by rw [eI4, dkU_ss])), ((by rw [eI7, dkU_n (by decide)] : I7 353 2 = _).trans ((by rw [eI4, dkU_sn (by decide)] : I4 353 2 = _).trans rfl)), ((by rw [eI7, dkU_n (by decide)] : I7 353 3 = _).trans ((by rw [eI4, dkU_sn (by decide)] : I4 353 3 = _).trans rfl)), ((by rw [eI7, dkU_n (by decide)] : I7 353 4 = _).trans ((by rw [eI4, dkU_sn (by decide)] : I4 353 4 = _).trans rfl)), ((by rw [eI7, dkU_n (by decide)] : I7 353 5 = _).trans ((by rw [eI4, dkU_sn (by decide)] : I4 353 5 = _).trans rfl)), ((by rw [eI7, dkU_n (by decide)] : I7 353 6 = _).trans ((by rw [eI4, dkU_sn (by decide)] : I4 353 6 = _).trans rfl)), ((by rw [eI7, dkU_n (by decide)] : I7 353 7 = _).trans ((by rw [eI4, dkU_sn (by decide)] : I4 353 7 = _).trans rfl)), ((by rw [eI7, dkU_n (by decide)] : I7 353 = _).trans (by rw [eI4, dkU_s, show (I0 353) = I0 353 from rfl])), trivial⟩⟩, dkW_eq ht hW⟩, hS.F ht⟩) hS.2.2 dX6_begins_29
