set_option maxHeartbeats 40000000 in
set_option maxRecDepth 100000 in
theorem fx_X6_town_1 (l : Launch) (g : dkG) (z : Nat) (I0 : dkI)  (hO : dkOk I0) (hP : dkPP I0) : Met l yX6_town wsX6_town (dkR 6) (dkPc g z [.ref (z + 340)] I0) (dkQi g z (fun r I1 => dkF [(340, 340, 6, 12), (340, 340, 17, 17), (346, 346, 0, 53), (347, 347, 0, 53)] I0 I1 ∧ dkOk I1 ∧ dkPP I1 ∧ ((dkN [(-1000190, -1000100)] r ∧ dkN [(0, 0)] (I1 340 6) ∧ dkN [(1, 3)] (I1 340 7) ∧ dkN [(0, 90)] (I1 340 8) ∧ dkN [(0, 0), (3, 9)] (I1 347 0) ∧ (dkTw (I0 345) (I0 340 6)).1 ≠ 0 ∧ r = (-1000100 : Int32) - (dkTw (I0 345) (I0 340 6)).2 ∧ I1 346 0 = I0 346 0 ∧ I1 346 4 = I0 346 4 ∧ I1 346 5 = I0 346 5 ∧ I1 340 6 = 0 ∧ I1 340 17 = I0 340 17 ∧ I1 340 7 = (dkTw (I0 345) (I0 340 6)).1 ∧ True) ∨ (dkN [(0, 6)] r ∧ dkN [(0, 0)] (I1 340 11) ∧ dkN [(0, 0)] (I1 340 17) ∧ dkN [(0, 0)] (I1 340 6) ∧ dkN [(-1, -1)] (I1 340 8) ∧ dkN [(3, 9)] (I1 346 0) ∧ dkN [(1, 30)] (I1 346 1) ∧ dkN [(1, 5)] (I1 346 4) ∧ dkN [(3, 9)] (I1 347 0) ∧ dkN [(1, 30)] (I1 347 1) ∧ dkN [(1, 5)] (I1 347 4) ∧ (dkTw (I0 345) (I0 340 6)).1 = 0 ∧ r = dkTd (I0 345) (I0 340 6) ∧ I1 346 0 = dkHh (I0 345) (I0 340 6) ∧ I1 346 4 = dkTp (I0 345) (I0 340 6) ∧ I1 346 5 = dkTd (I0 345) (I0 340 6) ∧ I1 340 6 = 0 ∧ I1 340 17 = 0 ∧ I1 340 7 = I0 340 7 ∧ True)))) 0 0 (dkA z) := by
  refine Met.ofW (cc := cX6_town) (maxL := 2) (ret := (some .int)) (by decide) rfl ?_
  intro p e s m args below meth c s₁ B hml hv
  obtain ⟨ha, hW, hK, hT⟩ := hv
  have hx := B.exec
  have hb := B.bytes
  have hr := B.returns
  have hts := atoms_spec (ws := wsX6_town) B.pre
  have hown : s.vm.findClass RX6 = some m.cls := findClass_of_methodNamed B.named
  have hlocks := B.notSynchronized
  have hS : va_S (dkA z) s.heap s.heap [] := va_S.rf
  have hF : dkF [(340, 340, 6, 12), (340, 340, 17, 17), (346, 346, 0, 53), (347, 347, 0, 53)] I0 I0 := dkF_rf _ _
  have hl := lv_entry ([.ref (z + 340)]) (n := 2) (Nat.le_of_ble_eq_true rfl)
  have hgo : entryFrame m args 2 = entryFrame m ([.ref (z + 340)] : List Value).toArray 2 := by rw [ha]
  rw [hgo, lg_entry_eq]
  generalize (lg_sl ([.ref (z + 340)]) ++ List.replicate (2 - (lg_sl ([.ref (z + 340)])).length) Slot.unset).toArray = ls at hl ⊢
  have hl : lv_has ls 2 [(0, .ref (z + 340))] := hl
  have C197 : ∀ (I : dkI) (H : Heap) (locs : List Loc) (ls : Array Slot) (x197_1 : Int32), dkW g z I H → va_S (dkA z) s.heap H locs → dkF [(340, 340, 6, 12), (340, 340, 17, 17), (346, 346, 0, 53), (347, 347, 0, 53)] I0 I → dkOk I → dkPP I → dkN [(54, 54)] x197_1 → dkN [(1, 3)] (I 340 7) → dkN [(0, 90)] (I 340 8) → dkN [(0, 0), (3, 9)] (I 347 0) → I 345 = I0 345 → I 340 17 = I0 340 17 → I 340 6 = I0 340 6 → I 346 0 = I0 346 0 → I 346 4 = I0 346 4 → I 346 5 = I0 346 5 → ((dkTw (I0 345) (I0 340 6)).1 ≠ 0 ∧ I 340 7 = (dkTw (I0 345) (I0 340 6)).1 ∧ I 340 8 = (dkTw (I0 345) (I0 340 6)).2) → lv_has ls 2 [(0, .ref (z + 340)), (1, .int x197_1)] → W p l e (headSpec wsX6_town (dkR 6)).room s m args below meth c H locs 0 0 (MQ below (dkQi g z (fun r I1 => dkF [(340, 340, 6, 12), (340, 340, 17, 17), (346, 346, 0, 53), (347, 347, 0, 53)] I0 I1 ∧ dkOk I1 ∧ dkPP I1 ∧ ((dkN [(-1000190, -1000100)] r ∧ dkN [(0, 0)] (I1 340 6) ∧ dkN [(1, 3)] (I1 340 7) ∧ dkN [(0, 90)] (I1 340 8) ∧ dkN [(0, 0), (3, 9)] (I1 347 0) ∧ (dkTw (I0 345) (I0 340 6)).1 ≠ 0 ∧ r = (-1000100 : Int32) - (dkTw (I0 345) (I0 340 6)).2 ∧ I1 346 0 = I0 346 0 ∧ I1 346 4 = I0 346 4 ∧ I1 346 5 = I0 346 5 ∧ I1 340 6 = 0 ∧ I1 340 17 = I0 340 17 ∧ I1 340 7 = (dkTw (I0 345) (I0 340 6)).1 ∧ True) ∨ (dkN [(0, 6)] r ∧ dkN [(0, 0)] (I1 340 11) ∧ dkN [(0, 0)] (I1 340 17) ∧ dkN [(0, 0)] (I1 340 6) ∧ dkN [(-1, -1)] (I1 340 8) ∧ dkN [(3, 9)] (I1 346 0) ∧ dkN [(1, 30)] (I1 346 1) ∧ dkN [(1, 5)] (I1 346 4) ∧ dkN [(3, 9)] (I1 347 0) ∧ dkN [(1, 30)] (I1 347 1) ∧ dkN [(1, 5)] (I1 347 4) ∧ (dkTw (I0 345) (I0 340 6)).1 = 0 ∧ r = dkTd (I0 345) (I0 340 6) ∧ I1 346 0 = dkHh (I0 345) (I0 340 6) ∧ I1 346 4 = dkTp (I0 345) (I0 340 6) ∧ I1 346 5 = dkTd (I0 345) (I0 340 6) ∧ I1 340 6 = 0 ∧ I1 340 17 = 0 ∧ I1 340 7 = I0 340 7 ∧ True)))) args s 0 0 (dkA z)) (F0 m 197 ls []) := by
    intro I197_ H locs ls x197_1 hW hS hF_197 hO hP k197_0 f197_0 f197_1 f197_2 z197_0 zp197_0 zp197_1 zp197_2 zp197_3 zp197_4 cx197 hl
    have hF := hF_197
    refine lv_aload_n hx hb dX6_town_197 rfl (lv_at hl 0 rfl) ?_
    refine lv_aload_n hx hb dX6_town_198 rfl (lv_at hl 0 rfl) ?_
    refine dk_get (k := 340) hx hb hts iX6_town_6 hown hK (dk_at340 hW) rfl 11 (by decide) (hts (.fieldLink RX6 98 "DogKingsModel" "token" "I") (List.mem_of_getElem? (i := 4) rfl)) rfl dX6_town_199 ?_
    refine lv_topi (fun v1 ev1 => ?_)
    have xv1 : v1 = I197_ 340 11 := ev1.trans rfl
    refine lv_if_ne (tgt := 209) hx hb dX6_town_202 (by decide) (fun c2 => ?_) (fun c2 => ?_)
    ·
      have q3 : (I197_ 340 11).toInt ≠ (0 : Int) := by first | (rw [← xv1]; exact (dk_ne c2)) | (subst xv1; exact (dk_ne c2))
      have d4 : dkN [(-2147483648, -1), (1, 2147483647)] v1 := dkN_ne1 (0) (dkN_top v1) (dkN_lit (x := 0) (0) rfl) (dk_ne c2) rfl
      have f5 : dkN [(-2147483648, -1), (1, 2147483647)] (I197_ 340 11) := by rw [← ev1]; exact d4
      refine lv_iconst (v := 0) hx hb dX6_town_209 (by decide) ?_
      refine dk_Vv (As := [.int 0]) (rest := []) ⟨hx, hb, hml, hown, hts⟩ (h_X6_must_0 l g z I197_ 0 (show dkN [(0, 90)] (I197_ 340 8) from dkN_sub f197_1 rfl) hO) (cwV 1 hts gX6_town_X6_must rfl rfl rfl (by decide +kernel) ⟨Nat.le_of_ble_eq_true rfl, Nat.le_of_ble_eq_true rfl⟩) (dk_at340 hW) rfl hK hT hW hS rfl hl.1 rfl (Nat.le_of_ble_eq_true rfl) dX6_town_210 ⟨Nat.zero_le _, Nat.zero_le _⟩ (fun I6 H6 L6 hp6 hW hS => ?_)
      obtain ⟨hF6, hO, hc6⟩ := hp6
      have hF := dkF_call hF hF6 rfl
      have hP := dkPP_F hP hF6 rfl
      have eI6 : I197_ = I6 := (dkF_nil hF6).symm
      subst eI6
      refine lv_aload_n hx hb dX6_town_213 rfl (lv_at hl 0 rfl) ?_
      refine lv_iconst (v := 0) hx hb dX6_town_214 (by decide) ?_
      refine dk_put (k := 340) hx hb hts iX6_town_6 tyX6 tyX6_ok nmX6 hown hK hW (dk_at340 hW) hS rfl 6 (by decide) (hts (.fieldLink RX6 82 "DogKingsModel" "taped" "I") (List.mem_of_getElem? (i := 6) rfl)) rfl rfl (Nat.le_of_ble_eq_true rfl) rfl dX6_town_215 (fun I7 H7 L7 eI7 hW hS => ?_)
      have eI7 : I7 = dkU I197_ 340 6 0 := eI7
      have hO := dkO_set hO eI7 (dkN_sub (dkN_lit (x := 0) (0) rfl) rfl)
      have hF := dkF_set hF eI7 rfl
      have hP := dkPP_set hP eI7 rfl
      refine lv_aload_n hx hb dX6_town_218 rfl (lv_at hl 0 rfl) ?_
      refine dk_Vi (As := []) (rest := []) ⟨hx, hb, hml, hown, hts⟩ (fx_X6_isWell_7 l g z I7 (show dkN [(0, 90)] (I7 340 8) from dkN_sub (by rw [eI7, dkU_sn (by decide)]; exact (by rw [hF6 340 8 rfl]; exact f197_1)) rfl) hO) (cwV 0 hts gX6_town_X6_isWell rfl rfl rfl (by decide +kernel) ⟨Nat.le_of_ble_eq_true rfl, Nat.le_of_ble_eq_true rfl⟩) (dk_at340 hW) rfl hK hT hW hS rfl hl.1 rfl (Nat.le_of_ble_eq_true rfl) dX6_town_219 ⟨Nat.zero_le _, Nat.zero_le _⟩ (fun v8 I8 H8 L8 hp8 hW hS => ?_)
      obtain ⟨hF8, hO, hc8⟩ := hp8
      have hF := dkF_call hF hF8 rfl
      have hP := dkPP_F hP hF8 rfl
      have eI8 : I7 = I8 := (dkF_nil hF8).symm
      subst eI8
      obtain ⟨dv8, f8_340_8, x8_0, xr8, -⟩ := hc8
      have w9 : I7 340 8 = I197_ 340 8 := ((by rw [eI7, dkU_sn (by decide)] : I7 340 8 = _).trans ((hF6 340 8 rfl).trans rfl))
      have q10 : (0 : Int) + 0 ≤ (I197_ 340 8).toInt := by have h := x8_0; rw [w9] at h; exact h
      have xv8 : v8 = 0 := by have h := xr8; exact h
      refine lv_if_ne (tgt := 233) hx hb dX6_town_222 (by decide) (fun c11 => ?_) (fun c11 => ?_)
      ·
        exact absurd ((xv8).trans (rfl).symm) c11
      ·
        refine lv_ldc (v := (-1000100)) hx hb hown (hts (.constant RX6 137 (-1000100)) (List.mem_of_getElem? (i := 7) rfl)) dX6_town_225 ?_
        refine lv_aload_n hx hb dX6_town_227 rfl (lv_at hl 0 rfl) ?_
        refine dk_get (k := 340) hx hb hts iX6_town_6 hown hK (dk_at340 hW) rfl 8 (by decide) (hts (.fieldLink RX6 101 "DogKingsModel" "faultPlace" "I") (List.mem_of_getElem? (i := 3) rfl)) rfl dX6_town_228 ?_
        refine lv_topi (fun v12 ev12 => ?_)
        have dv12 : dkN [(0, 90)] v12 := by rw [ev12]; exact f8_340_8
        have xv12 : v12 = I197_ 340 8 := ev12.trans ((hF8 340 8 rfl).trans ((by rw [eI7, dkU_sn (by decide)] : I7 340 8 = _).trans ((hF6 340 8 rfl).trans rfl)))
        refine lv_isub hx hb dX6_town_231 ?_
        refine lv_topi (fun v13 ev13 => ?_)
        have dv13 : dkN [(-1000190, -1000100)] v13 := by rw [ev13]; exact dkN_subt (dkN_lit (x := (-1000100)) (-1000100) rfl) dv12 rfl
        have xv13 : v13 = (-1000100 : Int32) - (I197_ 340 8) := by rw [ev13, xv12]
        have q14 : ((-1000100 : Int32) - (I197_ 340 8)).toInt = (-1000100 : Int) - (I197_ 340 8).toInt := by first | (rw [← xv13, ← xv12]; exact (by rw [ev13]; exact dk_subE (dkN_lit (x := (-1000100)) (-1000100) rfl) dv12 rfl)) | (subst xv13 xv12; exact (by rw [ev13]; exact dk_subE (dkN_lit (x := (-1000100)) (-1000100) rfl) dv12 rfl))
        exact W.iret (v := v13) hx hb hr (fun t ht hW9 => ⟨⟨v13, I7, rfl, ⟨hF, hO, hP, Or.inl ⟨dkN_sub dv13 rfl, (show dkN [(0, 0)] (I7 340 6) from dkN_sub (by rw [hF8 340 6 rfl]; exact (by rw [eI7, dkU_ss]; exact (dkN_lit (x := 0) (0) rfl))) rfl), (show dkN [(1, 3)] (I7 340 7) from dkN_sub (by rw [hF8 340 7 rfl]; exact (by rw [eI7, dkU_sn (by decide)]; exact (by rw [hF6 340 7 rfl]; exact f197_0))) rfl), (show dkN [(0, 90)] (I7 340 8) from dkN_sub f8_340_8 rfl), (show dkN [(0, 0), (3, 9)] (I7 347 0) from dkN_sub (by rw [hF8 347 0 rfl]; exact (by rw [eI7, dkU_n (by decide)]; exact (by rw [hF6 347 0 rfl]; exact f197_2))) rfl), cx197.1, ((xv13).trans (congrArg (fun y => (-1000100 : Int32) - y) cx197.2.2)), (show I7 346 0 = I0 346 0 from ((hF8 346 0 rfl).trans ((by rw [eI7, dkU_n (by decide)] : I7 346 0 = _).trans ((hF6 346 0 rfl).trans zp197_2)))), (show I7 346 4 = I0 346 4 from ((hF8 346 4 rfl).trans ((by rw [eI7, dkU_n (by decide)] : I7 346 4 = _).trans ((hF6 346 4 rfl).trans zp197_3)))), (show I7 346 5 = I0 346 5 from ((hF8 346 5 rfl).trans ((by rw [eI7, dkU_n (by decide)] : I7 346 5 = _).trans ((hF6 346 5 rfl).trans zp197_4)))), (show I7 340 6 = 0 from ((hF8 340 6 rfl).trans (by rw [eI7, dkU_ss]))), (show I7 340 17 = I0 340 17 from ((hF8 340 17 rfl).trans ((by rw [eI7, dkU_sn (by decide)] : I7 340 17 = _).trans ((hF6 340 17 rfl).trans zp197_0)))), (((show I7 340 7 = I197_ 340 7 from ((hF8 340 7 rfl).trans ((by rw [eI7, dkU_sn (by decide)] : I7 340 7 = _).trans ((hF6 340 7 rfl).trans rfl))))).trans cx197.2.1), trivial⟩⟩, dkW_eq ht hW⟩, hS.F ht⟩) hS.2.2 dX6_town_232
    ·
      have q15 : (I197_ 340 11).toInt = (0 : Int) := by first | (rw [← xv1]; exact (congrArg Int32.toInt c2)) | (subst xv1; exact (congrArg Int32.toInt c2))
      have d16 : dkN [(0, 0)] v1 := dkN_eq1 (dkN_top v1) (dkN_lit (x := 0) (0) rfl) (congrArg Int32.toInt c2) rfl
      have f17 : dkN [(0, 0)] (I197_ 340 11) := by rw [← ev1]; exact d16
      refine lv_iconst (v := 1) hx hb dX6_town_205 (by decide) ?_
      refine lv_goto (tgt := 210) hx hb dX6_town_206 (by decide) ?_
      refine dk_Vv (As := [.int 1]) (rest := []) ⟨hx, hb, hml, hown, hts⟩ (h_X6_must_0 l g z I197_ 1 (show dkN [(0, 90)] (I197_ 340 8) from dkN_sub f197_1 rfl) hO) (cwV 1 hts gX6_town_X6_must rfl rfl rfl (by decide +kernel) ⟨Nat.le_of_ble_eq_true rfl, Nat.le_of_ble_eq_true rfl⟩) (dk_at340 hW) rfl hK hT hW hS rfl hl.1 rfl (Nat.le_of_ble_eq_true rfl) dX6_town_210 ⟨Nat.zero_le _, Nat.zero_le _⟩ (fun I18 H18 L18 hp18 hW hS => ?_)
      obtain ⟨hF18, hO, hc18⟩ := hp18
      have hF := dkF_call hF hF18 rfl
      have hP := dkPP_F hP hF18 rfl
      have eI18 : I197_ = I18 := (dkF_nil hF18).symm
      subst eI18
      refine lv_aload_n hx hb dX6_town_213 rfl (lv_at hl 0 rfl) ?_
      refine lv_iconst (v := 0) hx hb dX6_town_214 (by decide) ?_
      refine dk_put (k := 340) hx hb hts iX6_town_6 tyX6 tyX6_ok nmX6 hown hK hW (dk_at340 hW) hS rfl 6 (by decide) (hts (.fieldLink RX6 82 "DogKingsModel" "taped" "I") (List.mem_of_getElem? (i := 6) rfl)) rfl rfl (Nat.le_of_ble_eq_true rfl) rfl dX6_town_215 (fun I19 H19 L19 eI19 hW hS => ?_)
      have eI19 : I19 = dkU I197_ 340 6 0 := eI19
      have hO := dkO_set hO eI19 (dkN_sub (dkN_lit (x := 0) (0) rfl) rfl)
      have hF := dkF_set hF eI19 rfl
      have hP := dkPP_set hP eI19 rfl
      refine lv_aload_n hx hb dX6_town_218 rfl (lv_at hl 0 rfl) ?_
      refine dk_Vi (As := []) (rest := []) ⟨hx, hb, hml, hown, hts⟩ (fx_X6_isWell_7 l g z I19 (show dkN [(0, 90)] (I19 340 8) from dkN_sub (by rw [eI19, dkU_sn (by decide)]; exact (by rw [hF18 340 8 rfl]; exact f197_1)) rfl) hO) (cwV 0 hts gX6_town_X6_isWell rfl rfl rfl (by decide +kernel) ⟨Nat.le_of_ble_eq_true rfl, Nat.le_of_ble_eq_true rfl⟩) (dk_at340 hW) rfl hK hT hW hS rfl hl.1 rfl (Nat.le_of_ble_eq_true rfl) dX6_town_219 ⟨Nat.zero_le _, Nat.zero_le _⟩ (fun v20 I20 H20 L20 hp20 hW hS => ?_)
      obtain ⟨hF20, hO, hc20⟩ := hp20
      have hF := dkF_call hF hF20 rfl
      have hP := dkPP_F hP hF20 rfl
      have eI20 : I19 = I20 := (dkF_nil hF20).symm
      subst eI20
      obtain ⟨dv20, f20_340_8, x20_0, xr20, -⟩ := hc20
      have w21 : I19 340 8 = I197_ 340 8 := ((by rw [eI19, dkU_sn (by decide)] : I19 340 8 = _).trans ((hF18 340 8 rfl).trans rfl))
      have q22 : (0 : Int) + 0 ≤ (I197_ 340 8).toInt := by have h := x20_0; rw [w21] at h; exact h
      have xv20 : v20 = 0 := by have h := xr20; exact h
      refine lv_if_ne (tgt := 233) hx hb dX6_town_222 (by decide) (fun c23 => ?_) (fun c23 => ?_)
      ·
        exact absurd ((xv20).trans (rfl).symm) c23
      ·
        refine lv_ldc (v := (-1000100)) hx hb hown (hts (.constant RX6 137 (-1000100)) (List.mem_of_getElem? (i := 7) rfl)) dX6_town_225 ?_
        refine lv_aload_n hx hb dX6_town_227 rfl (lv_at hl 0 rfl) ?_
        refine dk_get (k := 340) hx hb hts iX6_town_6 hown hK (dk_at340 hW) rfl 8 (by decide) (hts (.fieldLink RX6 101 "DogKingsModel" "faultPlace" "I") (List.mem_of_getElem? (i := 3) rfl)) rfl dX6_town_228 ?_
        refine lv_topi (fun v24 ev24 => ?_)
        have dv24 : dkN [(0, 90)] v24 := by rw [ev24]; exact f20_340_8
        have xv24 : v24 = I197_ 340 8 := ev24.trans ((hF20 340 8 rfl).trans ((by rw [eI19, dkU_sn (by decide)] : I19 340 8 = _).trans ((hF18 340 8 rfl).trans rfl)))
        refine lv_isub hx hb dX6_town_231 ?_
        refine lv_topi (fun v25 ev25 => ?_)
        have dv25 : dkN [(-1000190, -1000100)] v25 := by rw [ev25]; exact dkN_subt (dkN_lit (x := (-1000100)) (-1000100) rfl) dv24 rfl
        have xv25 : v25 = (-1000100 : Int32) - (I197_ 340 8) := by rw [ev25, xv24]
        have q26 : ((-1000100 : Int32) - (I197_ 340 8)).toInt = (-1000100 : Int) - (I197_ 340 8).toInt := by first | (rw [← xv25, ← xv24]; exact (by rw [ev25]; exact dk_subE (dkN_lit (x := (-1000100)) (-1000100) rfl) dv24 rfl)) | (subst xv25 xv24; exact (by rw [ev25]; exact dk_subE (dkN_lit (x := (-1000100)) (-1000100) rfl) dv24 rfl))
        exact W.iret (v := v25) hx hb hr (fun t ht hW9 => ⟨⟨v25, I19, rfl, ⟨hF, hO, hP, Or.inl ⟨dkN_sub dv25 rfl, (show dkN [(0, 0)] (I19 340 6) from dkN_sub (by rw [hF20 340 6 rfl]; exact (by rw [eI19, dkU_ss]; exact (dkN_lit (x := 0) (0) rfl))) rfl), (show dkN [(1, 3)] (I19 340 7) from dkN_sub (by rw [hF20 340 7 rfl]; exact (by rw [eI19, dkU_sn (by decide)]; exact (by rw [hF18 340 7 rfl]; exact f197_0))) rfl), (show dkN [(0, 90)] (I19 340 8) from dkN_sub f20_340_8 rfl), (show dkN [(0, 0), (3, 9)] (I19 347 0) from dkN_sub (by rw [hF20 347 0 rfl]; exact (by rw [eI19, dkU_n (by decide)]; exact (by rw [hF18 347 0 rfl]; exact f197_2))) rfl), cx197.1, ((xv25).trans (congrArg (fun y => (-1000100 : Int32) - y) cx197.2.2)), (show I19 346 0 = I0 346 0 from ((hF20 346 0 rfl).trans ((by rw [eI19, dkU_n (by decide)] : I19 346 0 = _).trans ((hF18 346 0 rfl).trans zp197_2)))), (show I19 346 4 = I0 346 4 from ((hF20 346 4 rfl).trans ((by rw [eI19, dkU_n (by decide)] : I19 346 4 = _).trans ((hF18 346 4 rfl).trans zp197_3)))), (show I19 346 5 = I0 346 5 from ((hF20 346 5 rfl).trans ((by rw [eI19, dkU_n (by decide)] : I19 346 5 = _).trans ((hF18 346 5 rfl).trans zp197_4)))), (show I19 340 6 = 0 from ((hF20 340 6 rfl).trans (by rw [eI19, dkU_ss]))), (show I19 340 17 = I0 340 17 from ((hF20 340 17 rfl).trans ((by rw [eI19, dkU_sn (by decide)] : I19 340 17 = _).trans ((hF18 340 17 rfl).trans zp197_0)))), (((show I19 340 7 = I197_ 340 7 from ((hF20 340 7 rfl).trans ((by rw [eI19, dkU_sn (by decide)] : I19 340 7 = _).trans ((hF18 340 7 rfl).trans rfl))))).trans cx197.2.1), trivial⟩⟩, dkW_eq ht hW⟩, hS.F ht⟩) hS.2.2 dX6_town_232
  have C165 : ∀ (n : Nat), ∀ (I : dkI) (H : Heap) (locs : List Loc) (ls : Array Slot) (x165_1 : Int32), (7 - (I 347 5).toInt).toNat < n → dkW g z I H → va_S (dkA z) s.heap H locs → dkF [(340, 340, 6, 12), (340, 340, 17, 17), (346, 346, 0, 53), (347, 347, 0, 53)] I0 I → dkOk I → dkPP I → dkN [(54, 54)] x165_1 → dkN [(0, 5)] (I 340 11) → dkN [(-1, -1)] (I 340 8) → dkN [(3, 9)] (I 347 0) → dkN [(1, 30)] (I 347 1) → dkN [(1, 5)] (I 347 4) → I 345 = I0 345 → I 340 17 = I0 340 17 → I 340 6 = I0 340 6 → I 340 7 = I0 340 7 → I 346 0 = I0 346 0 → I 346 4 = I0 346 4 → I 346 5 = I0 346 5 → I 347 0 = dkTv (I0 345) (I0 340 6) (dkTe (I0 345) (I0 340 6) (0)) → (dkTk (I0 345) (I0 340 6) (0)).toInt = (1 : Int) → (dkTv (I0 345) (I0 340 6) (0)).toInt = (116 : Int) → (dkTk (I0 345) (I0 340 6) (dkTe (I0 345) (I0 340 6) (0))).toInt = (2 : Int) → (3 : Int) + 0 ≤ (dkTv (I0 345) (I0 340 6) (dkTe (I0 345) (I0 340 6) (0))).toInt → (dkTv (I0 345) (I0 340 6) (dkTe (I0 345) (I0 340 6) (0))).toInt + 0 ≤ (9 : Int) → (dkTk (I0 345) (I0 340 6) (dkTe (I0 345) (I0 340 6) (dkTe (I0 345) (I0 340 6) (0)))).toInt = (3 : Int) → (dkTk (I0 345) (I0 340 6) (dkTe (I0 345) (I0 340 6) (dkTe (I0 345) (I0 340 6) (dkTe (I0 345) (I0 340 6) (0))))).toInt = (2 : Int) → (1 : Int) + 0 ≤ (dkTv (I0 345) (I0 340 6) (dkTe (I0 345) (I0 340 6) (dkTe (I0 345) (I0 340 6) (dkTe (I0 345) (I0 340 6) (0))))).toInt → (dkTv (I0 345) (I0 340 6) (dkTe (I0 345) (I0 340 6) (dkTe (I0 345) (I0 340 6) (dkTe (I0 345) (I0 340 6) (0))))).toInt + 0 ≤ (30 : Int) → (dkTk (I0 345) (I0 340 6) (dkTe (I0 345) (I0 340 6) (dkTe (I0 345) (I0 340 6) (dkTe (I0 345) (I0 340 6) (dkTe (I0 345) (I0 340 6) (0)))))).toInt = (4 : Int) → (dkTk (I0 345) (I0 340 6) (dkTe (I0 345) (I0 340 6) (dkTe (I0 345) (I0 340 6) (dkTe (I0 345) (I0 340 6) (dkTe (I0 345) (I0 340 6) (dkTe (I0 345) (I0 340 6) (0))))))).toInt = (1 : Int) → (dkTv (I0 345) (I0 340 6) (dkTe (I0 345) (I0 340 6) (dkTe (I0 345) (I0 340 6) (dkTe (I0 345) (I0 340 6) (dkTe (I0 345) (I0 340 6) (dkTe (I0 345) (I0 340 6) (0))))))).toInt = (109 : Int) → (dkMb (I0 345) (I0 340 6) (dkTv (I0 345) (I0 340 6) (dkTe (I0 345) (I0 340 6) (0))) (dkTe (I0 345) (I0 340 6) (dkTe (I0 345) (I0 340 6) (dkTe (I0 345) (I0 340 6) (dkTe (I0 345) (I0 340 6) (dkTe (I0 345) (I0 340 6) (dkTe (I0 345) (I0 340 6) (0)))))))).1 = 0 → (dkSy (I0 345) (I0 340 6) I ∧ dkX3 (I0 345) (I0 340 6) (dkTv (I0 345) (I0 340 6) (dkTe (I0 345) (I0 340 6) (0))) (dkTe (I0 345) (I0 340 6) (dkTe (I0 345) (I0 340 6) (dkTe (I0 345) (I0 340 6) (dkTe (I0 345) (I0 340 6) (dkTe (I0 345) (I0 340 6) (0)))))) (I 347 4) (I 340 10) (I 347 5)) → lv_has ls 2 [(0, .ref (z + 340)), (1, .int x165_1)] → W p l e (headSpec wsX6_town (dkR 6)).room s m args below meth c H locs 0 0 (MQ below (dkQi g z (fun r I1 => dkF [(340, 340, 6, 12), (340, 340, 17, 17), (346, 346, 0, 53), (347, 347, 0, 53)] I0 I1 ∧ dkOk I1 ∧ dkPP I1 ∧ ((dkN [(-1000190, -1000100)] r ∧ dkN [(0, 0)] (I1 340 6) ∧ dkN [(1, 3)] (I1 340 7) ∧ dkN [(0, 90)] (I1 340 8) ∧ dkN [(0, 0), (3, 9)] (I1 347 0) ∧ (dkTw (I0 345) (I0 340 6)).1 ≠ 0 ∧ r = (-1000100 : Int32) - (dkTw (I0 345) (I0 340 6)).2 ∧ I1 346 0 = I0 346 0 ∧ I1 346 4 = I0 346 4 ∧ I1 346 5 = I0 346 5 ∧ I1 340 6 = 0 ∧ I1 340 17 = I0 340 17 ∧ I1 340 7 = (dkTw (I0 345) (I0 340 6)).1 ∧ True) ∨ (dkN [(0, 6)] r ∧ dkN [(0, 0)] (I1 340 11) ∧ dkN [(0, 0)] (I1 340 17) ∧ dkN [(0, 0)] (I1 340 6) ∧ dkN [(-1, -1)] (I1 340 8) ∧ dkN [(3, 9)] (I1 346 0) ∧ dkN [(1, 30)] (I1 346 1) ∧ dkN [(1, 5)] (I1 346 4) ∧ dkN [(3, 9)] (I1 347 0) ∧ dkN [(1, 30)] (I1 347 1) ∧ dkN [(1, 5)] (I1 347 4) ∧ (dkTw (I0 345) (I0 340 6)).1 = 0 ∧ r = dkTd (I0 345) (I0 340 6) ∧ I1 346 0 = dkHh (I0 345) (I0 340 6) ∧ I1 346 4 = dkTp (I0 345) (I0 340 6) ∧ I1 346 5 = dkTd (I0 345) (I0 340 6) ∧ I1 340 6 = 0 ∧ I1 340 17 = 0 ∧ I1 340 7 = I0 340 7 ∧ True)))) args s 0 0 (dkA z)) (F0 m 165 ls []) := by
    intro n
    induction n with
    | zero => intro I H locs ls x165_1 hn; exact absurd hn (Nat.not_lt_zero _)
    | succ n ih165 =>
      intro I165_ H locs ls x165_1 hn165 hW hS hF_165 hO hP k165_0 f165_0 f165_1 f165_2 f165_3 f165_4 z165_0 zp165_0 zp165_1 zp165_2 zp165_3 zp165_4 zp165_5 zp165_6 y165_0 y165_1 y165_2 y165_3 y165_4 y165_5 y165_6 y165_7 y165_8 y165_9 y165_10 y165_11 y165_12 cx165 hl
      have hF := hF_165
      refine lv_aload_n hx hb dX6_town_165 rfl (lv_at hl 0 rfl) ?_
      refine dk_Vi (As := []) (rest := []) ⟨hx, hb, hml, hown, hts⟩ (fx_X6_isWell_6 l g z I165_ (show dkN [(-1, -1)] (I165_ 340 8) from dkN_sub f165_1 rfl) hO) (cwV 0 hts gX6_town_X6_isWell rfl rfl rfl (by decide +kernel) ⟨Nat.le_of_ble_eq_true rfl, Nat.le_of_ble_eq_true rfl⟩) (dk_at340 hW) rfl hK hT hW hS rfl hl.1 rfl (Nat.le_of_ble_eq_true rfl) dX6_town_166 ⟨Nat.zero_le _, Nat.zero_le _⟩ (fun v27 I27 H27 L27 hp27 hW hS => ?_)
      obtain ⟨hF27, hO, hc27⟩ := hp27
      have hF := dkF_call hF hF27 rfl
      have hP := dkPP_F hP hF27 rfl
      have eI27 : I165_ = I27 := (dkF_nil hF27).symm
      subst eI27
      obtain ⟨dv27, f27_340_8, x27_0, xr27, -⟩ := hc27
      have w28 : I165_ 340 8 = I165_ 340 8 := rfl
      have q29 : (I165_ 340 8).toInt + 1 ≤ (0 : Int) := by have h := x27_0; rw [w28] at h; exact h
      have xv27 : v27 = 1 := by have h := xr27; exact h
      refine lv_if_eq (tgt := 197) hx hb dX6_town_169 (by decide) (fun c30 => ?_) (fun c30 => ?_)
      ·
        exact (dkN_nil (show dkN [] v27 from dkN_eq1 dv27 (dkN_lit (x := 0) (0) rfl) (congrArg Int32.toInt c30) rfl)).elim
      ·
        refine lv_aload_n hx hb dX6_town_172 rfl (lv_at hl 0 rfl) ?_
        refine dk_get (k := 340) hx hb hts iX6_town_6 hown hK (dk_at340 hW) rfl 11 (by decide) (hts (.fieldLink RX6 98 "DogKingsModel" "token" "I") (List.mem_of_getElem? (i := 4) rfl)) rfl dX6_town_173 ?_
        refine lv_topi (fun v31 ev31 => ?_)
        have dv31 : dkN [(0, 5)] v31 := by rw [ev31]; exact (by rw [hF27 340 11 rfl]; exact f165_0)
        have xv31 : v31 = dkTk (I0 345) (I0 340 6) (I165_ 340 10) := ev31.trans ((hF27 340 11 rfl).trans cx165.1.1)
        refine lv_iconst (v := 1) hx hb dX6_town_176 (by decide) ?_
        refine lv_icmp_ne (tgt := 197) hx hb dX6_town_177 (by decide) (fun c32 => ?_) (fun c32 => ?_)
        ·
          have q33 : (dkTk (I0 345) (I0 340 6) (I165_ 340 10)).toInt ≠ (1 : Int) := by first | (rw [← xv31]; exact (dk_ne c32)) | (subst xv31; exact (dk_ne c32))
          have d34 : dkN [(0, 0), (2, 5)] v31 := dkN_ne1 (1) dv31 (dkN_lit (x := 1) (1) rfl) (dk_ne c32) rfl
          have f35 : dkN [(0, 0), (2, 5)] (I165_ 340 11) := by rw [← ev31]; exact d34
          refine lv_aload_n hx hb dX6_town_197 rfl (lv_at hl 0 rfl) ?_
          refine lv_aload_n hx hb dX6_town_198 rfl (lv_at hl 0 rfl) ?_
          refine dk_get (k := 340) hx hb hts iX6_town_6 hown hK (dk_at340 hW) rfl 11 (by decide) (hts (.fieldLink RX6 98 "DogKingsModel" "token" "I") (List.mem_of_getElem? (i := 4) rfl)) rfl dX6_town_199 ?_
          refine lv_topi (fun v36 ev36 => ?_)
          have dv36 : dkN [(0, 0), (2, 5)] v36 := by rw [ev36]; exact f35
          have xv36 : v36 = dkTk (I0 345) (I0 340 6) (I165_ 340 10) := ev36.trans ((hF27 340 11 rfl).trans cx165.1.1)
          refine lv_if_ne (tgt := 209) hx hb dX6_town_202 (by decide) (fun c37 => ?_) (fun c37 => ?_)
          ·
            have q38 : (dkTk (I0 345) (I0 340 6) (I165_ 340 10)).toInt ≠ (0 : Int) := by first | (rw [← xv36]; exact (dk_ne c37)) | (subst xv36; exact (dk_ne c37))
            have d39 : dkN [(2, 5)] v36 := dkN_ne1 (0) dv36 (dkN_lit (x := 0) (0) rfl) (dk_ne c37) rfl
            have f40 : dkN [(2, 5)] (I165_ 340 11) := by rw [← ev36]; exact d39
            refine lv_iconst (v := 0) hx hb dX6_town_209 (by decide) ?_
            refine dk_Vv (As := [.int 0]) (rest := []) ⟨hx, hb, hml, hown, hts⟩ (fx_X6_must_8 l g z I165_ 0 (dkN_lit (x := 0) (0) rfl) (show dkN [(-1, -1)] (I165_ 340 8) from dkN_sub f27_340_8 rfl) hO) (cwV 1 hts gX6_town_X6_must rfl rfl rfl (by decide +kernel) ⟨Nat.le_of_ble_eq_true rfl, Nat.le_of_ble_eq_true rfl⟩) (dk_at340 hW) rfl hK hT hW hS rfl hl.1 rfl (Nat.le_of_ble_eq_true rfl) dX6_town_210 ⟨Nat.zero_le _, Nat.zero_le _⟩ (fun I41 H41 L41 hp41 hW hS => ?_)
            obtain ⟨hF41, hO, hc41⟩ := hp41
            have hF := dkF_call hF hF41 rfl
            have hP := dkPP_F hP hF41 rfl
            obtain ⟨f41_340_7, f41_340_8, x41_0, x41_1, xh41_0, xh41_1, xh41_2, xh41_3, xh41_4, xh41_5, -⟩ := hc41
            have w42 : I165_ 340 8 = I165_ 340 8 := ((hF27 340 8 rfl).trans rfl)
            have y43 : I41 340 7 = 1 := by have h := xh41_0; exact h
            have w44 : I165_ 340 10 = I165_ 340 10 := ((hF27 340 10 rfl).trans rfl)
            have y45 : I41 340 8 = I165_ 340 10 := by have h := xh41_1; rw [w44] at h; exact h
            have w46 : I165_ 340 9 = dkTe (I0 345) (I0 340 6) (I165_ 340 10) := ((hF27 340 9 rfl).trans cx165.1.2.2)
            have y47 : I41 340 9 = dkTe (I0 345) (I0 340 6) (I165_ 340 10) := by have h := xh41_2; rw [w46] at h; exact h
            have y48 : I41 340 10 = I165_ 340 10 := by have h := xh41_3; rw [w44] at h; exact h
            have w49 : I165_ 340 11 = dkTk (I0 345) (I0 340 6) (I165_ 340 10) := ((hF27 340 11 rfl).trans cx165.1.1)
            have y50 : I41 340 11 = dkTk (I0 345) (I0 340 6) (I165_ 340 10) := by have h := xh41_4; rw [w49] at h; exact h
            have w51 : I165_ 340 12 = dkTv (I0 345) (I0 340 6) (I165_ 340 10) := ((hF27 340 12 rfl).trans cx165.1.2.1)
            have y52 : I41 340 12 = dkTv (I0 345) (I0 340 6) (I165_ 340 10) := by have h := xh41_5; rw [w51] at h; exact h
            refine lv_aload_n hx hb dX6_town_213 rfl (lv_at hl 0 rfl) ?_
            refine lv_iconst (v := 0) hx hb dX6_town_214 (by decide) ?_
            refine dk_put (k := 340) hx hb hts iX6_town_6 tyX6 tyX6_ok nmX6 hown hK hW (dk_at340 hW) hS rfl 6 (by decide) (hts (.fieldLink RX6 82 "DogKingsModel" "taped" "I") (List.mem_of_getElem? (i := 6) rfl)) rfl rfl (Nat.le_of_ble_eq_true rfl) rfl dX6_town_215 (fun I53 H53 L53 eI53 hW hS => ?_)
            have eI53 : I53 = dkU I41 340 6 0 := eI53
            have hO := dkO_set hO eI53 (dkN_sub (dkN_lit (x := 0) (0) rfl) rfl)
            have hF := dkF_set hF eI53 rfl
            have hP := dkPP_set hP eI53 rfl
            refine lv_aload_n hx hb dX6_town_218 rfl (lv_at hl 0 rfl) ?_
            refine dk_Vi (As := []) (rest := []) ⟨hx, hb, hml, hown, hts⟩ (fx_X6_isWell_7 l g z I53 (show dkN [(0, 90)] (I53 340 8) from dkN_sub (by rw [eI53, dkU_sn (by decide)]; exact f41_340_8) rfl) hO) (cwV 0 hts gX6_town_X6_isWell rfl rfl rfl (by decide +kernel) ⟨Nat.le_of_ble_eq_true rfl, Nat.le_of_ble_eq_true rfl⟩) (dk_at340 hW) rfl hK hT hW hS rfl hl.1 rfl (Nat.le_of_ble_eq_true rfl) dX6_town_219 ⟨Nat.zero_le _, Nat.zero_le _⟩ (fun v54 I54 H54 L54 hp54 hW hS => ?_)
            obtain ⟨hF54, hO, hc54⟩ := hp54
            have hF := dkF_call hF hF54 rfl
            have hP := dkPP_F hP hF54 rfl
            have eI54 : I53 = I54 := (dkF_nil hF54).symm
            subst eI54
            obtain ⟨dv54, f54_340_8, x54_0, xr54, -⟩ := hc54
            have w55 : I53 340 8 = I165_ 340 10 := ((by rw [eI53, dkU_sn (by decide)] : I53 340 8 = _).trans y45)
            have q56 : (0 : Int) + 0 ≤ (I165_ 340 10).toInt := by have h := x54_0; rw [w55] at h; exact h
            have xv54 : v54 = 0 := by have h := xr54; exact h
            refine lv_if_ne (tgt := 233) hx hb dX6_town_222 (by decide) (fun c57 => ?_) (fun c57 => ?_)
            ·
              exact absurd ((xv54).trans (rfl).symm) c57
            ·
              refine lv_ldc (v := (-1000100)) hx hb hown (hts (.constant RX6 137 (-1000100)) (List.mem_of_getElem? (i := 7) rfl)) dX6_town_225 ?_
              refine lv_aload_n hx hb dX6_town_227 rfl (lv_at hl 0 rfl) ?_
              refine dk_get (k := 340) hx hb hts iX6_town_6 hown hK (dk_at340 hW) rfl 8 (by decide) (hts (.fieldLink RX6 101 "DogKingsModel" "faultPlace" "I") (List.mem_of_getElem? (i := 3) rfl)) rfl dX6_town_228 ?_
              refine lv_topi (fun v58 ev58 => ?_)
              have dv58 : dkN [(0, 90)] v58 := by rw [ev58]; exact f54_340_8
              have xv58 : v58 = I165_ 340 10 := ev58.trans ((hF54 340 8 rfl).trans ((by rw [eI53, dkU_sn (by decide)] : I53 340 8 = _).trans y45))
              refine lv_isub hx hb dX6_town_231 ?_
              refine lv_topi (fun v59 ev59 => ?_)
              have dv59 : dkN [(-1000190, -1000100)] v59 := by rw [ev59]; exact dkN_subt (dkN_lit (x := (-1000100)) (-1000100) rfl) dv58 rfl
              have xv59 : v59 = (-1000100 : Int32) - (I165_ 340 10) := by rw [ev59, xv58]
              have q60 : ((-1000100 : Int32) - (I165_ 340 10)).toInt = (-1000100 : Int) - (I165_ 340 10).toInt := by first | (rw [← xv59, ← xv58]; exact (by rw [ev59]; exact dk_subE (dkN_lit (x := (-1000100)) (-1000100) rfl) dv58 rfl)) | (subst xv59 xv58; exact (by rw [ev59]; exact dk_subE (dkN_lit (x := (-1000100)) (-1000100) rfl) dv58 rfl))
              have i0 : (0 : Int32).toInt = 0 := rfl
              have i1 : (1 : Int32).toInt = 1 := rfl
              have i2 : (2 : Int32).toInt = 2 := rfl
              have i3 : (3 : Int32).toInt = 3 := rfl
              have i9 : (9 : Int32).toInt = 9 := rfl
              have i30 : (30 : Int32).toInt = 30 := rfl
              have i44 : (44 : Int32).toInt = 44 := rfl
              have i59 : (59 : Int32).toInt = 59 := rfl
              have i109 : (109 : Int32).toInt = 109 := rfl
              have i116 : (116 : Int32).toInt = 116 := rfl
              have hlw : dkLw (I0 345) (I0 340 6) 0 = (0, dkTe (I0 345) (I0 340 6) (dkTe (I0 345) (I0 340 6) (dkTe (I0 345) (I0 340 6) (dkTe (I0 345) (I0 340 6) (dkTe (I0 345) (I0 340 6) (0)))))) := ((dkTh_p (dkK_l (T := (I0 345)) (n := (I0 340 6)) (a := 0) (c := 116) y165_0 (by omega))).trans ((dkTh_p (dkK_0 (T := (I0 345)) (n := (I0 340 6)) (a := dkTe (I0 345) (I0 340 6) (0)) (lo := 3) (hi := 9) y165_2 (by omega) (by omega))).trans ((dkTh_p (dkK_c (T := (I0 345)) (n := (I0 340 6)) (a := dkTe (I0 345) (I0 340 6) (dkTe (I0 345) (I0 340 6) (0))) y165_5)).trans ((dkTh_p (dkK_0 (T := (I0 345)) (n := (I0 340 6)) (a := dkTe (I0 345) (I0 340 6) (dkTe (I0 345) (I0 340 6) (dkTe (I0 345) (I0 340 6) (0)))) (lo := 1) (hi := 30) y165_6 (by omega) (by omega))).trans (dkK_s (T := (I0 345)) (n := (I0 340 6)) (a := dkTe (I0 345) (I0 340 6) (dkTe (I0 345) (I0 340 6) (dkTe (I0 345) (I0 340 6) (dkTe (I0 345) (I0 340 6) (0))))) y165_9)))))
              have hhh : dkHh (I0 345) (I0 340 6) = (dkTv (I0 345) (I0 340 6) (dkTe (I0 345) (I0 340 6) (0))) := (by unfold dkHh; rw [show dkSg (I0 345) (I0 340 6) 116 0 = (0, dkTe (I0 345) (I0 340 6) (0)) from dkK_l (T := (I0 345)) (n := (I0 340 6)) (a := 0) (c := 116) y165_0 (by omega)]; exact (dkK_v (T := (I0 345)) (n := (I0 340 6)) (a := dkTe (I0 345) (I0 340 6) (0)) (by omega)).symm)
              have hps : dkPs (I0 345) (I0 340 6) (dkTv (I0 345) (I0 340 6) (dkTe (I0 345) (I0 340 6) (0))) (dkTe (I0 345) (I0 340 6) (dkTe (I0 345) (I0 340 6) (dkTe (I0 345) (I0 340 6) (dkTe (I0 345) (I0 340 6) (dkTe (I0 345) (I0 340 6) (0)))))) = dkPw (I0 345) (I0 340 6) (dkTv (I0 345) (I0 340 6) (dkTe (I0 345) (I0 340 6) (0))) 5 (dkTe (I0 345) (I0 340 6) (dkTe (I0 345) (I0 340 6) (dkTe (I0 345) (I0 340 6) (dkTe (I0 345) (I0 340 6) (dkTe (I0 345) (I0 340 6) (0)))))) := dkPs_w (dkK_l (T := (I0 345)) (n := (I0 340 6)) (a := dkTe (I0 345) (I0 340 6) (dkTe (I0 345) (I0 340 6) (dkTe (I0 345) (I0 340 6) (dkTe (I0 345) (I0 340 6) (dkTe (I0 345) (I0 340 6) (0)))))) (c := 109) y165_10 (by omega))
              obtain ⟨c9, g1, g2, g3⟩ := cx165.2
              have hp2 := hps.trans g1
              have e61 : dkTw (I0 345) (I0 340 6) = (1, I165_ 340 10) := (dkTw_d hlw hhh hp2).trans (dkX2_u g3 (by omega) (Or.inl (by omega)))
              exact W.iret (v := v59) hx hb hr (fun t ht hW9 => ⟨⟨v59, I53, rfl, ⟨hF, hO, hP, Or.inl ⟨dkN_sub dv59 rfl, (show dkN [(0, 0)] (I53 340 6) from dkN_sub (by rw [hF54 340 6 rfl]; exact (by rw [eI53, dkU_ss]; exact (dkN_lit (x := 0) (0) rfl))) rfl), (show dkN [(1, 3)] (I53 340 7) from dkN_sub (by rw [hF54 340 7 rfl]; exact (by rw [eI53, dkU_sn (by decide)]; exact f41_340_7)) rfl), (show dkN [(0, 90)] (I53 340 8) from dkN_sub f54_340_8 rfl), (show dkN [(0, 0), (3, 9)] (I53 347 0) from dkN_sub (by rw [hF54 347 0 rfl]; exact (by rw [eI53, dkU_n (by decide)]; exact (by rw [hF41 347 0 rfl]; exact (by rw [hF27 347 0 rfl]; exact f165_2)))) rfl), (dkE_k e61 (by decide)), ((xv59).trans (congrArg (fun y => (-1000100 : Int32) - y) (dkP_2 e61).symm)), (show I53 346 0 = I0 346 0 from ((hF54 346 0 rfl).trans ((by rw [eI53, dkU_n (by decide)] : I53 346 0 = _).trans ((hF41 346 0 rfl).trans ((hF27 346 0 rfl).trans zp165_3))))), (show I53 346 4 = I0 346 4 from ((hF54 346 4 rfl).trans ((by rw [eI53, dkU_n (by decide)] : I53 346 4 = _).trans ((hF41 346 4 rfl).trans ((hF27 346 4 rfl).trans zp165_4))))), (show I53 346 5 = I0 346 5 from ((hF54 346 5 rfl).trans ((by rw [eI53, dkU_n (by decide)] : I53 346 5 = _).trans ((hF41 346 5 rfl).trans ((hF27 346 5 rfl).trans zp165_5))))), (show I53 340 6 = 0 from ((hF54 340 6 rfl).trans (by rw [eI53, dkU_ss]))), (show I53 340 17 = I0 340 17 from ((hF54 340 17 rfl).trans ((by rw [eI53, dkU_sn (by decide)] : I53 340 17 = _).trans ((hF41 340 17 rfl).trans ((hF27 340 17 rfl).trans zp165_0))))), (((show I53 340 7 = 1 from ((hF54 340 7 rfl).trans ((by rw [eI53, dkU_sn (by decide)] : I53 340 7 = _).trans y43)))).trans (dkP_1 e61).symm), trivial⟩⟩, dkW_eq ht hW⟩, hS.F ht⟩) hS.2.2 dX6_town_232
          ·
            have q62 : (dkTk (I0 345) (I0 340 6) (I165_ 340 10)).toInt = (0 : Int) := by first | (rw [← xv36]; exact (congrArg Int32.toInt c37)) | (subst xv36; exact (congrArg Int32.toInt c37))
            have d63 : dkN [(0, 0)] v36 := dkN_eq1 dv36 (dkN_lit (x := 0) (0) rfl) (congrArg Int32.toInt c37) rfl
            have f64 : dkN [(0, 0)] (I165_ 340 11) := by rw [← ev36]; exact d63
            refine lv_iconst (v := 1) hx hb dX6_town_205 (by decide) ?_
            refine lv_goto (tgt := 210) hx hb dX6_town_206 (by decide) ?_
            refine dk_Vv (As := [.int 1]) (rest := []) ⟨hx, hb, hml, hown, hts⟩ (fx_X6_must_9 l g z I165_ 1 (dkN_lit (x := 1) (1) rfl) (show dkN [(-1, -1)] (I165_ 340 8) from dkN_sub f27_340_8 rfl) hO) (cwV 1 hts gX6_town_X6_must rfl rfl rfl (by decide +kernel) ⟨Nat.le_of_ble_eq_true rfl, Nat.le_of_ble_eq_true rfl⟩) (dk_at340 hW) rfl hK hT hW hS rfl hl.1 rfl (Nat.le_of_ble_eq_true rfl) dX6_town_210 ⟨Nat.zero_le _, Nat.zero_le _⟩ (fun I65 H65 L65 hp65 hW hS => ?_)
            obtain ⟨hF65, hO, hc65⟩ := hp65
            have hF := dkF_call hF hF65 rfl
            have hP := dkPP_F hP hF65 rfl
            have eI65 : I165_ = I65 := (dkF_nil hF65).symm
            subst eI65
            obtain ⟨f65_340_8, x65_0, x65_1, xh65_0, xh65_1, xh65_2, xh65_3, xh65_4, xh65_5, -⟩ := hc65
            have w66 : I165_ 340 8 = I165_ 340 8 := ((hF27 340 8 rfl).trans rfl)
            refine lv_aload_n hx hb dX6_town_213 rfl (lv_at hl 0 rfl) ?_
            refine lv_iconst (v := 0) hx hb dX6_town_214 (by decide) ?_
            refine dk_put (k := 340) hx hb hts iX6_town_6 tyX6 tyX6_ok nmX6 hown hK hW (dk_at340 hW) hS rfl 6 (by decide) (hts (.fieldLink RX6 82 "DogKingsModel" "taped" "I") (List.mem_of_getElem? (i := 6) rfl)) rfl rfl (Nat.le_of_ble_eq_true rfl) rfl dX6_town_215 (fun I67 H67 L67 eI67 hW hS => ?_)
            have eI67 : I67 = dkU I165_ 340 6 0 := eI67
            have hO := dkO_set hO eI67 (dkN_sub (dkN_lit (x := 0) (0) rfl) rfl)
            have hF := dkF_set hF eI67 rfl
            have hP := dkPP_set hP eI67 rfl
            refine lv_aload_n hx hb dX6_town_218 rfl (lv_at hl 0 rfl) ?_
            refine dk_Vi (As := []) (rest := []) ⟨hx, hb, hml, hown, hts⟩ (fx_X6_isWell_6 l g z I67 (show dkN [(-1, -1)] (I67 340 8) from dkN_sub (by rw [eI67, dkU_sn (by decide)]; exact f65_340_8) rfl) hO) (cwV 0 hts gX6_town_X6_isWell rfl rfl rfl (by decide +kernel) ⟨Nat.le_of_ble_eq_true rfl, Nat.le_of_ble_eq_true rfl⟩) (dk_at340 hW) rfl hK hT hW hS rfl hl.1 rfl (Nat.le_of_ble_eq_true rfl) dX6_town_219 ⟨Nat.zero_le _, Nat.zero_le _⟩ (fun v68 I68 H68 L68 hp68 hW hS => ?_)
            obtain ⟨hF68, hO, hc68⟩ := hp68
            have hF := dkF_call hF hF68 rfl
            have hP := dkPP_F hP hF68 rfl
            have eI68 : I67 = I68 := (dkF_nil hF68).symm
            subst eI68
            obtain ⟨dv68, f68_340_8, x68_0, xr68, -⟩ := hc68
            have w69 : I67 340 8 = I165_ 340 8 := ((by rw [eI67, dkU_sn (by decide)] : I67 340 8 = _).trans ((hF65 340 8 rfl).trans ((hF27 340 8 rfl).trans rfl)))
            have xv68 : v68 = 1 := by have h := xr68; exact h
            refine lv_if_ne (tgt := 233) hx hb dX6_town_222 (by decide) (fun c70 => ?_) (fun c70 => ?_)
            ·
              refine lv_aload_n hx hb dX6_town_233 rfl (lv_at hl 0 rfl) ?_
              refine dk_get (k := 340) hx hb hts iX6_town_6 hown hK (dk_at340 hW) rfl 14 (by decide) (hts (.fieldLink RX6 28 "DogKingsModel" "draft" "[I") (List.mem_of_getElem? (i := 1) rfl)) rfl dX6_town_234 ?_
              refine lv_iconst (v := 0) hx hb dX6_town_237 (by decide) ?_
              refine lv_aload_n hx hb dX6_town_238 rfl (lv_at hl 0 rfl) ?_
              refine dk_get (k := 340) hx hb hts iX6_town_6 hown hK (dk_at340 hW) rfl 13 (by decide) (hts (.fieldLink RX6 25 "DogKingsModel" "now" "[I") (List.mem_of_getElem? (i := 8) rfl)) rfl dX6_town_239 ?_
              refine lv_iconst (v := 0) hx hb dX6_town_242 (by decide) ?_
              refine dk_Sv (As := [.ref (z + 347), .int 0, .ref (z + 346), .int 0]) (rest := []) ⟨hx, hb, hml, hown, hts⟩ (c_X6_copies l g z I67 (kf := 347) (kt := 346) (nf := 54) (nt := 54) 0 0 (A := 0) (B := 0) rfl rfl (by decide) (by decide) (by decide) (by decide) (by decide) (by decide) (fun _ => rfl) (fun _ => rfl)) (va_cwS 4 hts gX6_town_X6_copies rfl rfl rfl (by decide +kernel) ⟨Nat.le_of_ble_eq_true rfl, Nat.le_of_ble_eq_true rfl⟩) hK hT hW hS rfl hl.1 rfl (Nat.le_of_ble_eq_true rfl) dX6_town_243 ⟨Nat.zero_le _, Nat.zero_le _⟩ (fun I71 H71 L71 eI71 hW hS => ?_)
              have eI71 : I71 = dkCp I67 347 346 0 0 := eI71
              have hO := dkO_cp hO eI71 (by decide) (by decide) (by decide) (by decide)
              have hF := dkF_cp (lo := 0) (hi := 0) hF eI71 ⟨by decide, by decide⟩ rfl
              refine lv_aload_n hx hb dX6_town_246 rfl (lv_at hl 0 rfl) ?_
              refine lv_iconst (v := 0) hx hb dX6_town_247 (by decide) ?_
              refine dk_put (k := 340) hx hb hts iX6_town_6 tyX6 tyX6_ok nmX6 hown hK hW (dk_at340 hW) hS rfl 17 (by decide) (hts (.fieldLink RX6 142 "DogKingsModel" "acts" "I") (List.mem_of_getElem? (i := 9) rfl)) rfl rfl (Nat.le_of_ble_eq_true rfl) rfl dX6_town_248 (fun I72 H72 L72 eI72 hW hS => ?_)
              have eI72 : I72 = dkU I71 340 17 0 := eI72
              have hO := dkO_set hO eI72 (dkN_sub (dkN_lit (x := 0) (0) rfl) rfl)
              have hF := dkF_set hF eI72 rfl
              have hP := dkPP_town hP eI71 eI72 (dkN_sub (by rw [hF68 347 4 rfl]; exact (by rw [eI67, dkU_n (by decide)]; exact (by rw [hF65 347 4 rfl]; exact (by rw [hF27 347 4 rfl]; exact f165_4)))) rfl)
              refine lv_aload_n hx hb dX6_town_251 rfl (lv_at hl 0 rfl) ?_
              refine dk_get (k := 340) hx hb hts iX6_town_6 hown hK (dk_at340 hW) rfl 13 (by decide) (hts (.fieldLink RX6 25 "DogKingsModel" "now" "[I") (List.mem_of_getElem? (i := 8) rfl)) rfl dX6_town_252 ?_
              refine lv_iconst (v := 5) hx hb dX6_town_255 (by decide) ?_
              refine dk_ild (k := 346) hx hb hK (dk_at346 hW) (dkN_in (n := 54) (dkN_lit (x := 5) (5) rfl) rfl) dX6_town_256 ?_
              refine lv_topi (fun v73 ev73 => ?_)
              have ev73 : v73 = I72 346 5 := ev73
              have dv73 : dkN [(0, 6)] v73 := by rw [ev73]; exact (show dkN [(0, 6)] (I72 346 5) from (hO 346 5))
              have xv73 : v73 = I165_ 347 5 := ev73.trans ((by rw [eI72, dkU_n (by decide)] : I72 346 5 = _).trans ((dkCp_in eI71 (by decide)).trans ((hF68 347 5 rfl).trans ((by rw [eI67, dkU_n (by decide)] : I67 347 5 = _).trans ((hF65 347 5 rfl).trans ((hF27 347 5 rfl).trans rfl))))))
              have i0 : (0 : Int32).toInt = 0 := rfl
              have i1 : (1 : Int32).toInt = 1 := rfl
              have i2 : (2 : Int32).toInt = 2 := rfl
              have i3 : (3 : Int32).toInt = 3 := rfl
              have i9 : (9 : Int32).toInt = 9 := rfl
              have i30 : (30 : Int32).toInt = 30 := rfl
              have i44 : (44 : Int32).toInt = 44 := rfl
              have i59 : (59 : Int32).toInt = 59 := rfl
              have i109 : (109 : Int32).toInt = 109 := rfl
              have i116 : (116 : Int32).toInt = 116 := rfl
              have hlw : dkLw (I0 345) (I0 340 6) 0 = (0, dkTe (I0 345) (I0 340 6) (dkTe (I0 345) (I0 340 6) (dkTe (I0 345) (I0 340 6) (dkTe (I0 345) (I0 340 6) (dkTe (I0 345) (I0 340 6) (0)))))) := ((dkTh_p (dkK_l (T := (I0 345)) (n := (I0 340 6)) (a := 0) (c := 116) y165_0 (by omega))).trans ((dkTh_p (dkK_0 (T := (I0 345)) (n := (I0 340 6)) (a := dkTe (I0 345) (I0 340 6) (0)) (lo := 3) (hi := 9) y165_2 (by omega) (by omega))).trans ((dkTh_p (dkK_c (T := (I0 345)) (n := (I0 340 6)) (a := dkTe (I0 345) (I0 340 6) (dkTe (I0 345) (I0 340 6) (0))) y165_5)).trans ((dkTh_p (dkK_0 (T := (I0 345)) (n := (I0 340 6)) (a := dkTe (I0 345) (I0 340 6) (dkTe (I0 345) (I0 340 6) (dkTe (I0 345) (I0 340 6) (0)))) (lo := 1) (hi := 30) y165_6 (by omega) (by omega))).trans (dkK_s (T := (I0 345)) (n := (I0 340 6)) (a := dkTe (I0 345) (I0 340 6) (dkTe (I0 345) (I0 340 6) (dkTe (I0 345) (I0 340 6) (dkTe (I0 345) (I0 340 6) (0))))) y165_9)))))
              have hhh : dkHh (I0 345) (I0 340 6) = (dkTv (I0 345) (I0 340 6) (dkTe (I0 345) (I0 340 6) (0))) := (by unfold dkHh; rw [show dkSg (I0 345) (I0 340 6) 116 0 = (0, dkTe (I0 345) (I0 340 6) (0)) from dkK_l (T := (I0 345)) (n := (I0 340 6)) (a := 0) (c := 116) y165_0 (by omega)]; exact (dkK_v (T := (I0 345)) (n := (I0 340 6)) (a := dkTe (I0 345) (I0 340 6) (0)) (by omega)).symm)
              have hps : dkPs (I0 345) (I0 340 6) (dkTv (I0 345) (I0 340 6) (dkTe (I0 345) (I0 340 6) (0))) (dkTe (I0 345) (I0 340 6) (dkTe (I0 345) (I0 340 6) (dkTe (I0 345) (I0 340 6) (dkTe (I0 345) (I0 340 6) (dkTe (I0 345) (I0 340 6) (0)))))) = dkPw (I0 345) (I0 340 6) (dkTv (I0 345) (I0 340 6) (dkTe (I0 345) (I0 340 6) (0))) 5 (dkTe (I0 345) (I0 340 6) (dkTe (I0 345) (I0 340 6) (dkTe (I0 345) (I0 340 6) (dkTe (I0 345) (I0 340 6) (dkTe (I0 345) (I0 340 6) (0)))))) := dkPs_w (dkK_l (T := (I0 345)) (n := (I0 340 6)) (a := dkTe (I0 345) (I0 340 6) (dkTe (I0 345) (I0 340 6) (dkTe (I0 345) (I0 340 6) (dkTe (I0 345) (I0 340 6) (dkTe (I0 345) (I0 340 6) (0)))))) (c := 109) y165_10 (by omega))
              obtain ⟨c9, g1, g2, g3⟩ := cx165.2
              have hp2 := hps.trans g1
              have hd9 := dkX2_e g3 (by omega)
              have e74 : dkTw (I0 345) (I0 340 6) = (0, _) := (dkTw_d hlw hhh hp2).trans hd9.1
              exact W.iret (v := v73) hx hb hr (fun t ht hW9 => ⟨⟨v73, I72, rfl, ⟨hF, hO, hP, Or.inr (⟨dkN_sub dv73 rfl, (show dkN [(0, 0)] (I72 340 11) from dkN_sub (by rw [eI72, dkU_sn (by decide)]; exact (by rw [(dkCp_n eI71 (by decide))]; exact (by rw [hF68 340 11 rfl]; exact (by rw [eI67, dkU_sn (by decide)]; exact (by rw [hF65 340 11 rfl]; exact f64))))) rfl), (show dkN [(0, 0)] (I72 340 17) from dkN_sub (by rw [eI72, dkU_ss]; exact (dkN_lit (x := 0) (0) rfl)) rfl), (show dkN [(0, 0)] (I72 340 6) from dkN_sub (by rw [eI72, dkU_sn (by decide)]; exact (by rw [(dkCp_n eI71 (by decide))]; exact (by rw [hF68 340 6 rfl]; exact (by rw [eI67, dkU_ss]; exact (dkN_lit (x := 0) (0) rfl))))) rfl), (show dkN [(-1, -1)] (I72 340 8) from dkN_sub (by rw [eI72, dkU_sn (by decide)]; exact (by rw [(dkCp_n eI71 (by decide))]; exact f68_340_8)) rfl), (show dkN [(3, 9)] (I72 346 0) from dkN_sub (by rw [eI72, dkU_n (by decide)]; exact (by rw [dkCp_in eI71 (by decide)]; exact (by rw [hF68 347 0 rfl]; exact (by rw [eI67, dkU_n (by decide)]; exact (by rw [hF65 347 0 rfl]; exact (by rw [hF27 347 0 rfl]; exact f165_2)))))) rfl), (show dkN [(1, 30)] (I72 346 1) from dkN_sub (by rw [eI72, dkU_n (by decide)]; exact (by rw [dkCp_in eI71 (by decide)]; exact (by rw [hF68 347 1 rfl]; exact (by rw [eI67, dkU_n (by decide)]; exact (by rw [hF65 347 1 rfl]; exact (by rw [hF27 347 1 rfl]; exact f165_3)))))) rfl), (show dkN [(1, 5)] (I72 346 4) from dkN_sub (by rw [eI72, dkU_n (by decide)]; exact (by rw [dkCp_in eI71 (by decide)]; exact (by rw [hF68 347 4 rfl]; exact (by rw [eI67, dkU_n (by decide)]; exact (by rw [hF65 347 4 rfl]; exact (by rw [hF27 347 4 rfl]; exact f165_4)))))) rfl), (show dkN [(3, 9)] (I72 347 0) from dkN_sub (by rw [eI72, dkU_n (by decide)]; exact (by rw [(dkCp_n eI71 (by decide))]; exact (by rw [hF68 347 0 rfl]; exact (by rw [eI67, dkU_n (by decide)]; exact (by rw [hF65 347 0 rfl]; exact (by rw [hF27 347 0 rfl]; exact f165_2)))))) rfl), (show dkN [(1, 30)] (I72 347 1) from dkN_sub (by rw [eI72, dkU_n (by decide)]; exact (by rw [(dkCp_n eI71 (by decide))]; exact (by rw [hF68 347 1 rfl]; exact (by rw [eI67, dkU_n (by decide)]; exact (by rw [hF65 347 1 rfl]; exact (by rw [hF27 347 1 rfl]; exact f165_3)))))) rfl), (show dkN [(1, 5)] (I72 347 4) from dkN_sub (by rw [eI72, dkU_n (by decide)]; exact (by rw [(dkCp_n eI71 (by decide))]; exact (by rw [hF68 347 4 rfl]; exact (by rw [eI67, dkU_n (by decide)]; exact (by rw [hF65 347 4 rfl]; exact (by rw [hF27 347 4 rfl]; exact f165_4)))))) rfl), (dkP_1 e74), ((xv73).trans (dkTd_d hlw hhh hp2 hd9.2)), (((show I72 346 0 = dkTv (I0 345) (I0 340 6) (dkTe (I0 345) (I0 340 6) (0)) from ((by rw [eI72, dkU_n (by decide)] : I72 346 0 = _).trans ((dkCp_in eI71 (by decide)).trans ((hF68 347 0 rfl).trans ((by rw [eI67, dkU_n (by decide)] : I67 347 0 = _).trans ((hF65 347 0 rfl).trans ((hF27 347 0 rfl).trans zp165_6)))))))).trans hhh.symm), (((show I72 346 4 = I165_ 347 4 from ((by rw [eI72, dkU_n (by decide)] : I72 346 4 = _).trans ((dkCp_in eI71 (by decide)).trans ((hF68 347 4 rfl).trans ((by rw [eI67, dkU_n (by decide)] : I67 347 4 = _).trans ((hF65 347 4 rfl).trans ((hF27 347 4 rfl).trans rfl)))))))).trans (dkTp_d hlw hhh g2)), (((show I72 346 5 = I165_ 347 5 from ((by rw [eI72, dkU_n (by decide)] : I72 346 5 = _).trans ((dkCp_in eI71 (by decide)).trans ((hF68 347 5 rfl).trans ((by rw [eI67, dkU_n (by decide)] : I67 347 5 = _).trans ((hF65 347 5 rfl).trans ((hF27 347 5 rfl).trans rfl)))))))).trans (dkTd_d hlw hhh hp2 hd9.2)), (show I72 340 6 = 0 from ((by rw [eI72, dkU_sn (by decide)] : I72 340 6 = _).trans ((dkCp_n eI71 (by decide)).trans ((hF68 340 6 rfl).trans (by rw [eI67, dkU_ss]))))), (show I72 340 17 = 0 from (by rw [eI72, dkU_ss])), (show I72 340 7 = I0 340 7 from ((by rw [eI72, dkU_sn (by decide)] : I72 340 7 = _).trans ((dkCp_n eI71 (by decide)).trans ((hF68 340 7 rfl).trans ((by rw [eI67, dkU_sn (by decide)] : I67 340 7 = _).trans ((hF65 340 7 rfl).trans ((hF27 340 7 rfl).trans zp165_2))))))), trivial⟩)⟩, dkW_eq ht hW⟩, hS.F ht⟩) hS.2.2 dX6_town_257
            ·
              exact (dkN_nil (show dkN [] v68 from dkN_eq1 dv68 (dkN_lit (x := 0) (0) rfl) (congrArg Int32.toInt c70) rfl)).elim
        ·
          have q75 : (dkTk (I0 345) (I0 340 6) (I165_ 340 10)).toInt = (1 : Int) := by first | (rw [← xv31]; exact (congrArg Int32.toInt c32)) | (subst xv31; exact (congrArg Int32.toInt c32))
          have d76 : dkN [(1, 1)] v31 := dkN_eq1 dv31 (dkN_lit (x := 1) (1) rfl) (congrArg Int32.toInt c32) rfl
          have f77 : dkN [(1, 1)] (I165_ 340 11) := by rw [← ev31]; exact d76
          refine lv_aload_n hx hb dX6_town_180 rfl (lv_at hl 0 rfl) ?_
          refine dk_get (k := 340) hx hb hts iX6_town_6 hown hK (dk_at340 hW) rfl 12 (by decide) (hts (.fieldLink RX6 95 "DogKingsModel" "value" "I") (List.mem_of_getElem? (i := 5) rfl)) rfl dX6_town_181 ?_
          refine lv_topi (fun v78 ev78 => ?_)
          have xv78 : v78 = dkTv (I0 345) (I0 340 6) (I165_ 340 10) := ev78.trans ((hF27 340 12 rfl).trans cx165.1.2.1)
          refine dk_Si (As := [.int v78]) (rest := []) ⟨hx, hb, hml, hown, hts⟩ (h_X6_kindOf_0 l g z I165_ v78 hO) (va_cwS 1 hts gX6_town_X6_kindOf rfl rfl rfl (by decide +kernel) ⟨Nat.le_of_ble_eq_true rfl, Nat.le_of_ble_eq_true rfl⟩) hK hT hW hS rfl hl.1 rfl (Nat.le_of_ble_eq_true rfl) dX6_town_184 ⟨Nat.zero_le _, Nat.zero_le _⟩ (fun v79 I79 H79 L79 hp79 hW hS => ?_)
          obtain ⟨hF79, hO, hc79⟩ := hp79
          have hF := dkF_call hF hF79 rfl
          have hP := dkPP_F hP hF79 rfl
          have eI79 : I165_ = I79 := (dkF_nil hF79).symm
          subst eI79
          rcases hc79 with ⟨dv79, x79_0, xr79, -⟩ | hc79
          ·
            have q80 : dkSo (dkTv (I0 345) (I0 340 6) (I165_ 340 10)).toInt ≠ -1000000 := by have h := x79_0; rw [xv78] at h; exact h
            have xv79 : v79 = dkSo (dkTv (I0 345) (I0 340 6) (I165_ 340 10)).toInt := by have h := xr79; rw [xv78] at h; exact h
            refine lv_if_le (tgt := 197) hx hb dX6_town_187 (by decide) (fun c81 => ?_) (fun c81 => ?_)
            ·
              exact (dkN_nil (show dkN [] v79 from dkN_le1 0 dv79 (dkN_lit (x := 0) (0) rfl) (dkc_le c81) rfl)).elim
            ·
              have q82 : (0 : Int) + 1 ≤ (dkSo (dkTv (I0 345) (I0 340 6) (I165_ 340 10)).toInt).toInt := by first | (rw [← xv79]; exact (dkc_nle c81)) | (subst xv79; exact (dkc_nle c81))
              refine lv_aload_n hx hb dX6_town_190 rfl (lv_at hl 0 rfl) ?_
              refine dk_Vv (As := []) (rest := []) ⟨hx, hb, hml, hown, hts⟩ (fx_X6_readsDog_1 l g z I165_ (show dkN [(-1, -1)] (I165_ 340 8) from dkN_sub (by rw [hF79 340 8 rfl]; exact f27_340_8) rfl) (show dkN [(3, 9)] (I165_ 347 0) from dkN_sub (by rw [hF79 347 0 rfl]; exact (by rw [hF27 347 0 rfl]; exact f165_2)) rfl) hO) (cwV 0 hts gX6_town_X6_readsDog rfl rfl rfl (by decide +kernel) ⟨Nat.le_of_ble_eq_true rfl, Nat.le_of_ble_eq_true rfl⟩) (dk_at340 hW) rfl hK hT hW hS rfl hl.1 rfl (Nat.le_of_ble_eq_true rfl) dX6_town_191 ⟨Nat.zero_le _, Nat.zero_le _⟩ (fun I83 H83 L83 hp83 hW hS => ?_)
              obtain ⟨hF83, hO, hc83⟩ := hp83
              have hF := dkF_call hF hF83 rfl
              have hP := dkPP_F hP hF83 rfl
              rcases hc83 with ⟨f83_340_7, f83_340_8, f83_347_0, f83_347_5, x83_0, xh83_0, xh83_1, xh83_2, xh83_3, xh83_4, -⟩ | hc83
              ·
                have w84 : I165_ 347 5 = I165_ 347 5 := ((hF79 347 5 rfl).trans ((hF27 347 5 rfl).trans rfl))
                have q85 : (6 : Int) + 0 ≤ (I165_ 347 5).toInt := by have h := x83_0; rw [w84] at h; exact h
                have y86 : I83 340 7 = 3 := by have h := xh83_0; exact h
                have w87 : I165_ 340 10 = I165_ 340 10 := ((hF79 340 10 rfl).trans ((hF27 340 10 rfl).trans rfl))
                have y88 : I83 340 8 = I165_ 340 10 := by have h := xh83_1; rw [w87] at h; exact h
                have w89 : I165_ 347 0 = dkTv (I0 345) (I0 340 6) (dkTe (I0 345) (I0 340 6) (0)) := ((hF79 347 0 rfl).trans ((hF27 347 0 rfl).trans zp165_6))
                have y90 : I83 347 0 = dkTv (I0 345) (I0 340 6) (dkTe (I0 345) (I0 340 6) (0)) := by have h := xh83_2; rw [w89] at h; exact h
                have w91 : I165_ 347 4 = I165_ 347 4 := ((hF79 347 4 rfl).trans ((hF27 347 4 rfl).trans rfl))
                have y92 : I83 347 4 = I165_ 347 4 := by have h := xh83_3; rw [w91] at h; exact h
                have y93 : I83 347 5 = I165_ 347 5 := by have h := xh83_4; rw [w84] at h; exact h
                refine lv_goto (tgt := 165) hx hb dX6_town_194 (by decide) ?_
                refine lv_aload_n hx hb dX6_town_165 rfl (lv_at hl 0 rfl) ?_
                refine dk_Vi (As := []) (rest := []) ⟨hx, hb, hml, hown, hts⟩ (fx_X6_isWell_7 l g z I83 (show dkN [(0, 90)] (I83 340 8) from dkN_sub f83_340_8 rfl) hO) (cwV 0 hts gX6_town_X6_isWell rfl rfl rfl (by decide +kernel) ⟨Nat.le_of_ble_eq_true rfl, Nat.le_of_ble_eq_true rfl⟩) (dk_at340 hW) rfl hK hT hW hS rfl hl.1 rfl (Nat.le_of_ble_eq_true rfl) dX6_town_166 ⟨Nat.zero_le _, Nat.zero_le _⟩ (fun v94 I94 H94 L94 hp94 hW hS => ?_)
                obtain ⟨hF94, hO, hc94⟩ := hp94
                have hF := dkF_call hF hF94 rfl
                have hP := dkPP_F hP hF94 rfl
                have eI94 : I83 = I94 := (dkF_nil hF94).symm
                subst eI94
                obtain ⟨dv94, f94_340_8, x94_0, xr94, -⟩ := hc94
                have w95 : I83 340 8 = I165_ 340 10 := y88
                have q96 : (0 : Int) + 0 ≤ (I165_ 340 10).toInt := by have h := x94_0; rw [w95] at h; exact h
                have xv94 : v94 = 0 := by have h := xr94; exact h
                refine lv_if_eq (tgt := 197) hx hb dX6_town_169 (by decide) (fun c97 => ?_) (fun c97 => ?_)
                ·
                  have i0 : (0 : Int32).toInt = 0 := rfl
                  have i1 : (1 : Int32).toInt = 1 := rfl
                  have i2 : (2 : Int32).toInt = 2 := rfl
                  have i3 : (3 : Int32).toInt = 3 := rfl
                  have i9 : (9 : Int32).toInt = 9 := rfl
                  have i30 : (30 : Int32).toInt = 30 := rfl
                  have i44 : (44 : Int32).toInt = 44 := rfl
                  have i59 : (59 : Int32).toInt = 59 := rfl
                  have i109 : (109 : Int32).toInt = 109 := rfl
                  have i116 : (116 : Int32).toInt = 116 := rfl
                  have hlw : dkLw (I0 345) (I0 340 6) 0 = (0, dkTe (I0 345) (I0 340 6) (dkTe (I0 345) (I0 340 6) (dkTe (I0 345) (I0 340 6) (dkTe (I0 345) (I0 340 6) (dkTe (I0 345) (I0 340 6) (0)))))) := ((dkTh_p (dkK_l (T := (I0 345)) (n := (I0 340 6)) (a := 0) (c := 116) y165_0 (by omega))).trans ((dkTh_p (dkK_0 (T := (I0 345)) (n := (I0 340 6)) (a := dkTe (I0 345) (I0 340 6) (0)) (lo := 3) (hi := 9) y165_2 (by omega) (by omega))).trans ((dkTh_p (dkK_c (T := (I0 345)) (n := (I0 340 6)) (a := dkTe (I0 345) (I0 340 6) (dkTe (I0 345) (I0 340 6) (0))) y165_5)).trans ((dkTh_p (dkK_0 (T := (I0 345)) (n := (I0 340 6)) (a := dkTe (I0 345) (I0 340 6) (dkTe (I0 345) (I0 340 6) (dkTe (I0 345) (I0 340 6) (0)))) (lo := 1) (hi := 30) y165_6 (by omega) (by omega))).trans (dkK_s (T := (I0 345)) (n := (I0 340 6)) (a := dkTe (I0 345) (I0 340 6) (dkTe (I0 345) (I0 340 6) (dkTe (I0 345) (I0 340 6) (dkTe (I0 345) (I0 340 6) (0))))) y165_9)))))
                  have hhh : dkHh (I0 345) (I0 340 6) = (dkTv (I0 345) (I0 340 6) (dkTe (I0 345) (I0 340 6) (0))) := (by unfold dkHh; rw [show dkSg (I0 345) (I0 340 6) 116 0 = (0, dkTe (I0 345) (I0 340 6) (0)) from dkK_l (T := (I0 345)) (n := (I0 340 6)) (a := 0) (c := 116) y165_0 (by omega)]; exact (dkK_v (T := (I0 345)) (n := (I0 340 6)) (a := dkTe (I0 345) (I0 340 6) (0)) (by omega)).symm)
                  have hps : dkPs (I0 345) (I0 340 6) (dkTv (I0 345) (I0 340 6) (dkTe (I0 345) (I0 340 6) (0))) (dkTe (I0 345) (I0 340 6) (dkTe (I0 345) (I0 340 6) (dkTe (I0 345) (I0 340 6) (dkTe (I0 345) (I0 340 6) (dkTe (I0 345) (I0 340 6) (0)))))) = dkPw (I0 345) (I0 340 6) (dkTv (I0 345) (I0 340 6) (dkTe (I0 345) (I0 340 6) (0))) 5 (dkTe (I0 345) (I0 340 6) (dkTe (I0 345) (I0 340 6) (dkTe (I0 345) (I0 340 6) (dkTe (I0 345) (I0 340 6) (dkTe (I0 345) (I0 340 6) (0)))))) := dkPs_w (dkK_l (T := (I0 345)) (n := (I0 340 6)) (a := dkTe (I0 345) (I0 340 6) (dkTe (I0 345) (I0 340 6) (dkTe (I0 345) (I0 340 6) (dkTe (I0 345) (I0 340 6) (dkTe (I0 345) (I0 340 6) (0)))))) (c := 109) y165_10 (by omega))
                  obtain ⟨c9, g1, g2, g3⟩ := cx165.2
                  have hp2 := hps.trans g1
                  have e98 : dkTw (I0 345) (I0 340 6) = (3, I165_ 340 10) := (dkTw_d hlw hhh hp2).trans (dkX2_o g3 (by omega) q80 (by omega))
                  exact C197 I83 _ _ ls x165_1 hW hS hF hO hP (dkN_sub k165_0 rfl) (show dkN [(1, 3)] (I83 340 7) from dkN_sub (by rw [hF94 340 7 rfl]; exact f83_340_7) rfl) (show dkN [(0, 90)] (I83 340 8) from dkN_sub f94_340_8 rfl) (show dkN [(0, 0), (3, 9)] (I83 347 0) from dkN_sub (by rw [hF94 347 0 rfl]; exact f83_347_0) rfl) ((funext fun j => hF94 345 j dkNin_nil).trans ((funext fun j => hF83 345 j (dkNin_k rfl (dkNin_k rfl (dkNin_k rfl dkNin_nil)))).trans ((funext fun j => hF79 345 j dkNin_nil).trans ((funext fun j => hF27 345 j dkNin_nil).trans z165_0)))) ((hF94 340 17 rfl).trans ((hF83 340 17 rfl).trans ((hF79 340 17 rfl).trans ((hF27 340 17 rfl).trans zp165_0)))) ((hF94 340 6 rfl).trans ((hF83 340 6 rfl).trans ((hF79 340 6 rfl).trans ((hF27 340 6 rfl).trans zp165_1)))) ((hF94 346 0 rfl).trans ((hF83 346 0 rfl).trans ((hF79 346 0 rfl).trans ((hF27 346 0 rfl).trans zp165_3)))) ((hF94 346 4 rfl).trans ((hF83 346 4 rfl).trans ((hF79 346 4 rfl).trans ((hF27 346 4 rfl).trans zp165_4)))) ((hF94 346 5 rfl).trans ((hF83 346 5 rfl).trans ((hF79 346 5 rfl).trans ((hF27 346 5 rfl).trans zp165_5)))) ⟨(dkE_k e98 (by decide)), (((show I83 340 7 = 3 from ((hF94 340 7 rfl).trans y86))).trans (dkP_1 e98).symm), (((show I83 340 8 = I165_ 340 10 from ((hF94 340 8 rfl).trans y88))).trans (dkP_2 e98).symm)⟩ (lv_sub hl [0, 1] rfl)
                ·
                  exact absurd ((xv94).trans (rfl).symm) c97
              rcases hc83 with ⟨f83_340_7, f83_340_8, f83_347_0, f83_347_5, x83_0, x83_1, xh83_0, xh83_1, xh83_2, xh83_3, xh83_4, -⟩ | hc83
              ·
                have w99 : I165_ 347 5 = I165_ 347 5 := ((hF79 347 5 rfl).trans ((hF27 347 5 rfl).trans rfl))
                have q100 : (I165_ 347 5).toInt + 1 ≤ (6 : Int) := by have h := x83_0; rw [w99] at h; exact h
                have w101 : I165_ 345 = I0 345 := ((funext fun j => hF79 345 j dkNin_nil).trans ((funext fun j => hF27 345 j dkNin_nil).trans z165_0))
                have w102 : I165_ 340 6 = I0 340 6 := ((hF79 340 6 rfl).trans ((hF27 340 6 rfl).trans zp165_1))
                have w103 : I165_ 347 0 = dkTv (I0 345) (I0 340 6) (dkTe (I0 345) (I0 340 6) (0)) := ((hF79 347 0 rfl).trans ((hF27 347 0 rfl).trans zp165_6))
                have w104 : I165_ 340 9 = dkTe (I0 345) (I0 340 6) (I165_ 340 10) := ((hF79 340 9 rfl).trans ((hF27 340 9 rfl).trans cx165.1.2.2))
                have q105 : (dkDo (I0 345) (I0 340 6) (dkTv (I0 345) (I0 340 6) (dkTe (I0 345) (I0 340 6) (0))) (dkTe (I0 345) (I0 340 6) (I165_ 340 10))).1 ≠ 0 := by have h := x83_1; rw [w101, w102, w103, w104] at h; exact h
                have y106 : I83 340 7 = (dkDo (I0 345) (I0 340 6) (dkTv (I0 345) (I0 340 6) (dkTe (I0 345) (I0 340 6) (0))) (dkTe (I0 345) (I0 340 6) (I165_ 340 10))).1 := by have h := xh83_0; rw [w101, w102, w103, w104] at h; exact h
                have y107 : I83 340 8 = (dkDo (I0 345) (I0 340 6) (dkTv (I0 345) (I0 340 6) (dkTe (I0 345) (I0 340 6) (0))) (dkTe (I0 345) (I0 340 6) (I165_ 340 10))).2 := by have h := xh83_1; rw [w101, w102, w103, w104] at h; exact h
                have y108 : I83 347 0 = dkTv (I0 345) (I0 340 6) (dkTe (I0 345) (I0 340 6) (0)) := by have h := xh83_2; rw [w103] at h; exact h
                have w109 : I165_ 347 4 = I165_ 347 4 := ((hF79 347 4 rfl).trans ((hF27 347 4 rfl).trans rfl))
                have y110 : I83 347 4 = I165_ 347 4 := by have h := xh83_3; rw [w109] at h; exact h
                have y111 : I83 347 5 = I165_ 347 5 := by have h := xh83_4; rw [w99] at h; exact h
                refine lv_goto (tgt := 165) hx hb dX6_town_194 (by decide) ?_
                refine lv_aload_n hx hb dX6_town_165 rfl (lv_at hl 0 rfl) ?_
                refine dk_Vi (As := []) (rest := []) ⟨hx, hb, hml, hown, hts⟩ (fx_X6_isWell_7 l g z I83 (show dkN [(0, 90)] (I83 340 8) from dkN_sub f83_340_8 rfl) hO) (cwV 0 hts gX6_town_X6_isWell rfl rfl rfl (by decide +kernel) ⟨Nat.le_of_ble_eq_true rfl, Nat.le_of_ble_eq_true rfl⟩) (dk_at340 hW) rfl hK hT hW hS rfl hl.1 rfl (Nat.le_of_ble_eq_true rfl) dX6_town_166 ⟨Nat.zero_le _, Nat.zero_le _⟩ (fun v112 I112 H112 L112 hp112 hW hS => ?_)
                obtain ⟨hF112, hO, hc112⟩ := hp112
                have hF := dkF_call hF hF112 rfl
                have hP := dkPP_F hP hF112 rfl
                have eI112 : I83 = I112 := (dkF_nil hF112).symm
                subst eI112
                obtain ⟨dv112, f112_340_8, x112_0, xr112, -⟩ := hc112
                have w113 : I83 340 8 = (dkDo (I0 345) (I0 340 6) (dkTv (I0 345) (I0 340 6) (dkTe (I0 345) (I0 340 6) (0))) (dkTe (I0 345) (I0 340 6) (I165_ 340 10))).2 := y107
                have q114 : (0 : Int) + 0 ≤ ((dkDo (I0 345) (I0 340 6) (dkTv (I0 345) (I0 340 6) (dkTe (I0 345) (I0 340 6) (0))) (dkTe (I0 345) (I0 340 6) (I165_ 340 10))).2).toInt := by have h := x112_0; rw [w113] at h; exact h
                have xv112 : v112 = 0 := by have h := xr112; exact h
                refine lv_if_eq (tgt := 197) hx hb dX6_town_169 (by decide) (fun c115 => ?_) (fun c115 => ?_)
                ·
                  have i0 : (0 : Int32).toInt = 0 := rfl
                  have i1 : (1 : Int32).toInt = 1 := rfl
                  have i2 : (2 : Int32).toInt = 2 := rfl
                  have i3 : (3 : Int32).toInt = 3 := rfl
                  have i9 : (9 : Int32).toInt = 9 := rfl
                  have i30 : (30 : Int32).toInt = 30 := rfl
                  have i44 : (44 : Int32).toInt = 44 := rfl
                  have i59 : (59 : Int32).toInt = 59 := rfl
                  have i109 : (109 : Int32).toInt = 109 := rfl
                  have i116 : (116 : Int32).toInt = 116 := rfl
                  have hlw : dkLw (I0 345) (I0 340 6) 0 = (0, dkTe (I0 345) (I0 340 6) (dkTe (I0 345) (I0 340 6) (dkTe (I0 345) (I0 340 6) (dkTe (I0 345) (I0 340 6) (dkTe (I0 345) (I0 340 6) (0)))))) := ((dkTh_p (dkK_l (T := (I0 345)) (n := (I0 340 6)) (a := 0) (c := 116) y165_0 (by omega))).trans ((dkTh_p (dkK_0 (T := (I0 345)) (n := (I0 340 6)) (a := dkTe (I0 345) (I0 340 6) (0)) (lo := 3) (hi := 9) y165_2 (by omega) (by omega))).trans ((dkTh_p (dkK_c (T := (I0 345)) (n := (I0 340 6)) (a := dkTe (I0 345) (I0 340 6) (dkTe (I0 345) (I0 340 6) (0))) y165_5)).trans ((dkTh_p (dkK_0 (T := (I0 345)) (n := (I0 340 6)) (a := dkTe (I0 345) (I0 340 6) (dkTe (I0 345) (I0 340 6) (dkTe (I0 345) (I0 340 6) (0)))) (lo := 1) (hi := 30) y165_6 (by omega) (by omega))).trans (dkK_s (T := (I0 345)) (n := (I0 340 6)) (a := dkTe (I0 345) (I0 340 6) (dkTe (I0 345) (I0 340 6) (dkTe (I0 345) (I0 340 6) (dkTe (I0 345) (I0 340 6) (0))))) y165_9)))))
                  have hhh : dkHh (I0 345) (I0 340 6) = (dkTv (I0 345) (I0 340 6) (dkTe (I0 345) (I0 340 6) (0))) := (by unfold dkHh; rw [show dkSg (I0 345) (I0 340 6) 116 0 = (0, dkTe (I0 345) (I0 340 6) (0)) from dkK_l (T := (I0 345)) (n := (I0 340 6)) (a := 0) (c := 116) y165_0 (by omega)]; exact (dkK_v (T := (I0 345)) (n := (I0 340 6)) (a := dkTe (I0 345) (I0 340 6) (0)) (by omega)).symm)
                  have hps : dkPs (I0 345) (I0 340 6) (dkTv (I0 345) (I0 340 6) (dkTe (I0 345) (I0 340 6) (0))) (dkTe (I0 345) (I0 340 6) (dkTe (I0 345) (I0 340 6) (dkTe (I0 345) (I0 340 6) (dkTe (I0 345) (I0 340 6) (dkTe (I0 345) (I0 340 6) (0)))))) = dkPw (I0 345) (I0 340 6) (dkTv (I0 345) (I0 340 6) (dkTe (I0 345) (I0 340 6) (0))) 5 (dkTe (I0 345) (I0 340 6) (dkTe (I0 345) (I0 340 6) (dkTe (I0 345) (I0 340 6) (dkTe (I0 345) (I0 340 6) (dkTe (I0 345) (I0 340 6) (0)))))) := dkPs_w (dkK_l (T := (I0 345)) (n := (I0 340 6)) (a := dkTe (I0 345) (I0 340 6) (dkTe (I0 345) (I0 340 6) (dkTe (I0 345) (I0 340 6) (dkTe (I0 345) (I0 340 6) (dkTe (I0 345) (I0 340 6) (0)))))) (c := 109) y165_10 (by omega))
                  obtain ⟨c9, g1, g2, g3⟩ := cx165.2
                  have hp2 := hps.trans g1
                  have e116 : dkTw (I0 345) (I0 340 6) = ((dkDo (I0 345) (I0 340 6) (dkTv (I0 345) (I0 340 6) (dkTe (I0 345) (I0 340 6) (0))) (dkTe (I0 345) (I0 340 6) (I165_ 340 10))).1, (dkDo (I0 345) (I0 340 6) (dkTv (I0 345) (I0 340 6) (dkTe (I0 345) (I0 340 6) (0))) (dkTe (I0 345) (I0 340 6) (I165_ 340 10))).2) := (dkTw_d hlw hhh hp2).trans (dkX2_f g3 (by omega) q80 (by omega) q105)
                  exact C197 I83 _ _ ls x165_1 hW hS hF hO hP (dkN_sub k165_0 rfl) (show dkN [(1, 3)] (I83 340 7) from dkN_sub (by rw [hF112 340 7 rfl]; exact f83_340_7) rfl) (show dkN [(0, 90)] (I83 340 8) from dkN_sub f112_340_8 rfl) (show dkN [(0, 0), (3, 9)] (I83 347 0) from dkN_sub (by rw [hF112 347 0 rfl]; exact f83_347_0) rfl) ((funext fun j => hF112 345 j dkNin_nil).trans ((funext fun j => hF83 345 j (dkNin_k rfl (dkNin_k rfl (dkNin_k rfl dkNin_nil)))).trans ((funext fun j => hF79 345 j dkNin_nil).trans ((funext fun j => hF27 345 j dkNin_nil).trans z165_0)))) ((hF112 340 17 rfl).trans ((hF83 340 17 rfl).trans ((hF79 340 17 rfl).trans ((hF27 340 17 rfl).trans zp165_0)))) ((hF112 340 6 rfl).trans ((hF83 340 6 rfl).trans ((hF79 340 6 rfl).trans ((hF27 340 6 rfl).trans zp165_1)))) ((hF112 346 0 rfl).trans ((hF83 346 0 rfl).trans ((hF79 346 0 rfl).trans ((hF27 346 0 rfl).trans zp165_3)))) ((hF112 346 4 rfl).trans ((hF83 346 4 rfl).trans ((hF79 346 4 rfl).trans ((hF27 346 4 rfl).trans zp165_4)))) ((hF112 346 5 rfl).trans ((hF83 346 5 rfl).trans ((hF79 346 5 rfl).trans ((hF27 346 5 rfl).trans zp165_5)))) ⟨(fun q => q105 ((dkP_1 e116).symm.trans q)), (((show I83 340 7 = (dkDo (I0 345) (I0 340 6) (dkTv (I0 345) (I0 340 6) (dkTe (I0 345) (I0 340 6) (0))) (dkTe (I0 345) (I0 340 6) (I165_ 340 10))).1 from ((hF112 340 7 rfl).trans y106))).trans (dkP_1 e116).symm), (((show I83 340 8 = (dkDo (I0 345) (I0 340 6) (dkTv (I0 345) (I0 340 6) (dkTe (I0 345) (I0 340 6) (0))) (dkTe (I0 345) (I0 340 6) (I165_ 340 10))).2 from ((hF112 340 8 rfl).trans y107))).trans (dkP_2 e116).symm)⟩ (lv_sub hl [0, 1] rfl)
                ·
                  exact absurd ((xv112).trans (rfl).symm) c115
              ·
                obtain ⟨f83_340_11, f83_340_8, f83_347_0, f83_347_5, x83_0, x83_1, xh83_0, xh83_1, xh83_2, xh83_3, xh83_4, xh83_5, xh83_6, xh83_7, xh83_8, ci83_0, -⟩ := hc83
                have w117 : I165_ 347 5 = I165_ 347 5 := ((hF79 347 5 rfl).trans ((hF27 347 5 rfl).trans rfl))
                have q118 : (I165_ 347 5).toInt + 1 ≤ (6 : Int) := by have h := x83_0; rw [w117] at h; exact h
                have w119 : I165_ 345 = I0 345 := ((funext fun j => hF79 345 j dkNin_nil).trans ((funext fun j => hF27 345 j dkNin_nil).trans z165_0))
                have w120 : I165_ 340 6 = I0 340 6 := ((hF79 340 6 rfl).trans ((hF27 340 6 rfl).trans zp165_1))
                have w121 : I165_ 347 0 = dkTv (I0 345) (I0 340 6) (dkTe (I0 345) (I0 340 6) (0)) := ((hF79 347 0 rfl).trans ((hF27 347 0 rfl).trans zp165_6))
                have w122 : I165_ 340 9 = dkTe (I0 345) (I0 340 6) (I165_ 340 10) := ((hF79 340 9 rfl).trans ((hF27 340 9 rfl).trans cx165.1.2.2))
                have q123 : (dkDo (I0 345) (I0 340 6) (dkTv (I0 345) (I0 340 6) (dkTe (I0 345) (I0 340 6) (0))) (dkTe (I0 345) (I0 340 6) (I165_ 340 10))).1 = 0 := by have h := x83_1; rw [w119, w120, w121, w122] at h; exact h
                have w124 : I165_ 340 7 = I0 340 7 := ((hF79 340 7 rfl).trans ((hF27 340 7 rfl).trans zp165_2))
                have y125 : I83 340 7 = I0 340 7 := by have h := xh83_0; rw [w124] at h; exact h
                have w126 : I165_ 340 8 = I165_ 340 8 := ((hF79 340 8 rfl).trans ((hF27 340 8 rfl).trans rfl))
                have y127 : I83 340 8 = I165_ 340 8 := by have h := xh83_1; rw [w126] at h; exact h
                have y128 : I83 340 9 = dkTe (I0 345) (I0 340 6) (dkDo (I0 345) (I0 340 6) (dkTv (I0 345) (I0 340 6) (dkTe (I0 345) (I0 340 6) (0))) (dkTe (I0 345) (I0 340 6) (I165_ 340 10))).2 := by have h := xh83_2; rw [w119, w120, w121, w122] at h; exact h
                have y129 : I83 340 10 = (dkDo (I0 345) (I0 340 6) (dkTv (I0 345) (I0 340 6) (dkTe (I0 345) (I0 340 6) (0))) (dkTe (I0 345) (I0 340 6) (I165_ 340 10))).2 := by have h := xh83_3; rw [w119, w120, w121, w122] at h; exact h
                have y130 : I83 340 11 = dkTk (I0 345) (I0 340 6) (dkDo (I0 345) (I0 340 6) (dkTv (I0 345) (I0 340 6) (dkTe (I0 345) (I0 340 6) (0))) (dkTe (I0 345) (I0 340 6) (I165_ 340 10))).2 := by have h := xh83_4; rw [w119, w120, w121, w122] at h; exact h
                have y131 : I83 340 12 = dkTv (I0 345) (I0 340 6) (dkDo (I0 345) (I0 340 6) (dkTv (I0 345) (I0 340 6) (dkTe (I0 345) (I0 340 6) (0))) (dkTe (I0 345) (I0 340 6) (I165_ 340 10))).2 := by have h := xh83_5; rw [w119, w120, w121, w122] at h; exact h
                have y132 : I83 347 0 = dkTv (I0 345) (I0 340 6) (dkTe (I0 345) (I0 340 6) (0)) := by have h := xh83_6; rw [w121] at h; exact h
                have w133 : I165_ 347 4 = I165_ 347 4 := ((hF79 347 4 rfl).trans ((hF27 347 4 rfl).trans rfl))
                have y134 : I83 347 4 = I165_ 347 4 := by have h := xh83_7; rw [w133] at h; exact h
                have y135 : I83 347 5 = (I165_ 347 5) + 1 := by have h := xh83_8; rw [w117] at h; exact h
                refine lv_goto (tgt := 165) hx hb dX6_town_194 (by decide) ?_
                exact ih165 I83 _ _ ls x165_1 (dk_nearH hn165 ci83_0 rfl (‹dkOk I165_› 347 5) rfl rfl) hW hS hF hO hP (dkN_sub k165_0 rfl) (show dkN [(0, 5)] (I83 340 11) from dkN_sub f83_340_11 rfl) (show dkN [(-1, -1)] (I83 340 8) from dkN_sub f83_340_8 rfl) (show dkN [(3, 9)] (I83 347 0) from dkN_sub f83_347_0 rfl) (show dkN [(1, 30)] (I83 347 1) from dkN_sub (by rw [hF83 347 1 rfl]; exact (by rw [hF79 347 1 rfl]; exact (by rw [hF27 347 1 rfl]; exact f165_3))) rfl) (show dkN [(1, 5)] (I83 347 4) from dkN_sub (by rw [hF83 347 4 rfl]; exact (by rw [hF79 347 4 rfl]; exact (by rw [hF27 347 4 rfl]; exact f165_4))) rfl) ((funext fun j => hF83 345 j (dkNin_k rfl (dkNin_k rfl (dkNin_k rfl dkNin_nil)))).trans ((funext fun j => hF79 345 j dkNin_nil).trans ((funext fun j => hF27 345 j dkNin_nil).trans z165_0))) ((hF83 340 17 rfl).trans ((hF79 340 17 rfl).trans ((hF27 340 17 rfl).trans zp165_0))) ((hF83 340 6 rfl).trans ((hF79 340 6 rfl).trans ((hF27 340 6 rfl).trans zp165_1))) y125 ((hF83 346 0 rfl).trans ((hF79 346 0 rfl).trans ((hF27 346 0 rfl).trans zp165_3))) ((hF83 346 4 rfl).trans ((hF79 346 4 rfl).trans ((hF27 346 4 rfl).trans zp165_4))) ((hF83 346 5 rfl).trans ((hF79 346 5 rfl).trans ((hF27 346 5 rfl).trans zp165_5))) y132 y165_0 y165_1 y165_2 y165_3 y165_4 y165_5 y165_6 y165_7 y165_8 y165_9 y165_10 y165_11 y165_12 ⟨⟨(((show I83 340 11 = dkTk (I0 345) (I0 340 6) (dkDo (I0 345) (I0 340 6) (dkTv (I0 345) (I0 340 6) (dkTe (I0 345) (I0 340 6) (0))) (dkTe (I0 345) (I0 340 6) (I165_ 340 10))).2 from y130)).trans (congrArg (dkTk (I0 345) (I0 340 6)) ((show I83 340 10 = (dkDo (I0 345) (I0 340 6) (dkTv (I0 345) (I0 340 6) (dkTe (I0 345) (I0 340 6) (0))) (dkTe (I0 345) (I0 340 6) (I165_ 340 10))).2 from y129)).symm)), (((show I83 340 12 = dkTv (I0 345) (I0 340 6) (dkDo (I0 345) (I0 340 6) (dkTv (I0 345) (I0 340 6) (dkTe (I0 345) (I0 340 6) (0))) (dkTe (I0 345) (I0 340 6) (I165_ 340 10))).2 from y131)).trans (congrArg (dkTv (I0 345) (I0 340 6)) ((show I83 340 10 = (dkDo (I0 345) (I0 340 6) (dkTv (I0 345) (I0 340 6) (dkTe (I0 345) (I0 340 6) (0))) (dkTe (I0 345) (I0 340 6) (I165_ 340 10))).2 from y129)).symm)), (((show I83 340 9 = dkTe (I0 345) (I0 340 6) (dkDo (I0 345) (I0 340 6) (dkTv (I0 345) (I0 340 6) (dkTe (I0 345) (I0 340 6) (0))) (dkTe (I0 345) (I0 340 6) (I165_ 340 10))).2 from y128)).trans (congrArg (dkTe (I0 345) (I0 340 6)) ((show I83 340 10 = (dkDo (I0 345) (I0 340 6) (dkTv (I0 345) (I0 340 6) (dkTe (I0 345) (I0 340 6) (0))) (dkTe (I0 345) (I0 340 6) (I165_ 340 10))).2 from y129)).symm))⟩, (by obtain ⟨c9, g1, g2, g3⟩ := cx165.2; exact ⟨c9, g1, (by rw [show I83 347 4 = I165_ 347 4 from y134]; exact g2), (by rw [show I83 340 10 = (dkDo (I0 345) (I0 340 6) (dkTv (I0 345) (I0 340 6) (dkTe (I0 345) (I0 340 6) (0))) (dkTe (I0 345) (I0 340 6) (I165_ 340 10))).2 from y129, show I83 347 5 = (I165_ 347 5) + 1 from y135]; exact dkX2_s g3 (by omega) q80 (by omega) (dk_nlt (dkN_ge (show dkN [(0, 6)] (I165_ 347 5) from ‹dkOk I165_› 347 5) rfl)) q123)⟩)⟩ (lv_sub hl [0, 1] rfl)
          ·
            obtain ⟨dv79, x79_0, xr79, -⟩ := hc79
            have q137 : dkSo (dkTv (I0 345) (I0 340 6) (I165_ 340 10)).toInt = -1000000 := by have h := x79_0; rw [xv78] at h; exact h
            have xv79 : v79 = 0 := by have h := xr79; exact h
            refine lv_if_le (tgt := 197) hx hb dX6_town_187 (by decide) (fun c138 => ?_) (fun c138 => ?_)
            ·
              refine lv_aload_n hx hb dX6_town_197 rfl (lv_at hl 0 rfl) ?_
              refine lv_aload_n hx hb dX6_town_198 rfl (lv_at hl 0 rfl) ?_
              refine dk_get (k := 340) hx hb hts iX6_town_6 hown hK (dk_at340 hW) rfl 11 (by decide) (hts (.fieldLink RX6 98 "DogKingsModel" "token" "I") (List.mem_of_getElem? (i := 4) rfl)) rfl dX6_town_199 ?_
              refine lv_topi (fun v139 ev139 => ?_)
              have dv139 : dkN [(1, 1)] v139 := by rw [ev139]; exact (by rw [hF79 340 11 rfl]; exact f77)
              have xv139 : v139 = dkTk (I0 345) (I0 340 6) (I165_ 340 10) := ev139.trans ((hF79 340 11 rfl).trans ((hF27 340 11 rfl).trans cx165.1.1))
              refine lv_if_ne (tgt := 209) hx hb dX6_town_202 (by decide) (fun c140 => ?_) (fun c140 => ?_)
              ·
                have q141 : (dkTk (I0 345) (I0 340 6) (I165_ 340 10)).toInt ≠ (0 : Int) := by first | (rw [← xv139]; exact (dk_ne c140)) | (subst xv139; exact (dk_ne c140))
                refine lv_iconst (v := 0) hx hb dX6_town_209 (by decide) ?_
                refine dk_Vv (As := [.int 0]) (rest := []) ⟨hx, hb, hml, hown, hts⟩ (fx_X6_must_8 l g z I165_ 0 (dkN_lit (x := 0) (0) rfl) (show dkN [(-1, -1)] (I165_ 340 8) from dkN_sub (by rw [hF79 340 8 rfl]; exact f27_340_8) rfl) hO) (cwV 1 hts gX6_town_X6_must rfl rfl rfl (by decide +kernel) ⟨Nat.le_of_ble_eq_true rfl, Nat.le_of_ble_eq_true rfl⟩) (dk_at340 hW) rfl hK hT hW hS rfl hl.1 rfl (Nat.le_of_ble_eq_true rfl) dX6_town_210 ⟨Nat.zero_le _, Nat.zero_le _⟩ (fun I142 H142 L142 hp142 hW hS => ?_)
                obtain ⟨hF142, hO, hc142⟩ := hp142
                have hF := dkF_call hF hF142 rfl
                have hP := dkPP_F hP hF142 rfl
                obtain ⟨f142_340_7, f142_340_8, x142_0, x142_1, xh142_0, xh142_1, xh142_2, xh142_3, xh142_4, xh142_5, -⟩ := hc142
                have w143 : I165_ 340 8 = I165_ 340 8 := ((hF79 340 8 rfl).trans ((hF27 340 8 rfl).trans rfl))
                have y144 : I142 340 7 = 1 := by have h := xh142_0; exact h
                have w145 : I165_ 340 10 = I165_ 340 10 := ((hF79 340 10 rfl).trans ((hF27 340 10 rfl).trans rfl))
                have y146 : I142 340 8 = I165_ 340 10 := by have h := xh142_1; rw [w145] at h; exact h
                have w147 : I165_ 340 9 = dkTe (I0 345) (I0 340 6) (I165_ 340 10) := ((hF79 340 9 rfl).trans ((hF27 340 9 rfl).trans cx165.1.2.2))
                have y148 : I142 340 9 = dkTe (I0 345) (I0 340 6) (I165_ 340 10) := by have h := xh142_2; rw [w147] at h; exact h
                have y149 : I142 340 10 = I165_ 340 10 := by have h := xh142_3; rw [w145] at h; exact h
                have w150 : I165_ 340 11 = dkTk (I0 345) (I0 340 6) (I165_ 340 10) := ((hF79 340 11 rfl).trans ((hF27 340 11 rfl).trans cx165.1.1))
                have y151 : I142 340 11 = dkTk (I0 345) (I0 340 6) (I165_ 340 10) := by have h := xh142_4; rw [w150] at h; exact h
                have w152 : I165_ 340 12 = dkTv (I0 345) (I0 340 6) (I165_ 340 10) := ((hF79 340 12 rfl).trans ((hF27 340 12 rfl).trans cx165.1.2.1))
                have y153 : I142 340 12 = dkTv (I0 345) (I0 340 6) (I165_ 340 10) := by have h := xh142_5; rw [w152] at h; exact h
                refine lv_aload_n hx hb dX6_town_213 rfl (lv_at hl 0 rfl) ?_
                refine lv_iconst (v := 0) hx hb dX6_town_214 (by decide) ?_
                refine dk_put (k := 340) hx hb hts iX6_town_6 tyX6 tyX6_ok nmX6 hown hK hW (dk_at340 hW) hS rfl 6 (by decide) (hts (.fieldLink RX6 82 "DogKingsModel" "taped" "I") (List.mem_of_getElem? (i := 6) rfl)) rfl rfl (Nat.le_of_ble_eq_true rfl) rfl dX6_town_215 (fun I154 H154 L154 eI154 hW hS => ?_)
                have eI154 : I154 = dkU I142 340 6 0 := eI154
                have hO := dkO_set hO eI154 (dkN_sub (dkN_lit (x := 0) (0) rfl) rfl)
                have hF := dkF_set hF eI154 rfl
                have hP := dkPP_set hP eI154 rfl
                refine lv_aload_n hx hb dX6_town_218 rfl (lv_at hl 0 rfl) ?_
                refine dk_Vi (As := []) (rest := []) ⟨hx, hb, hml, hown, hts⟩ (fx_X6_isWell_7 l g z I154 (show dkN [(0, 90)] (I154 340 8) from dkN_sub (by rw [eI154, dkU_sn (by decide)]; exact f142_340_8) rfl) hO) (cwV 0 hts gX6_town_X6_isWell rfl rfl rfl (by decide +kernel) ⟨Nat.le_of_ble_eq_true rfl, Nat.le_of_ble_eq_true rfl⟩) (dk_at340 hW) rfl hK hT hW hS rfl hl.1 rfl (Nat.le_of_ble_eq_true rfl) dX6_town_219 ⟨Nat.zero_le _, Nat.zero_le _⟩ (fun v155 I155 H155 L155 hp155 hW hS => ?_)
                obtain ⟨hF155, hO, hc155⟩ := hp155
                have hF := dkF_call hF hF155 rfl
                have hP := dkPP_F hP hF155 rfl
                have eI155 : I154 = I155 := (dkF_nil hF155).symm
                subst eI155
                obtain ⟨dv155, f155_340_8, x155_0, xr155, -⟩ := hc155
                have w156 : I154 340 8 = I165_ 340 10 := ((by rw [eI154, dkU_sn (by decide)] : I154 340 8 = _).trans y146)
                have q157 : (0 : Int) + 0 ≤ (I165_ 340 10).toInt := by have h := x155_0; rw [w156] at h; exact h
                have xv155 : v155 = 0 := by have h := xr155; exact h
                refine lv_if_ne (tgt := 233) hx hb dX6_town_222 (by decide) (fun c158 => ?_) (fun c158 => ?_)
                ·
                  exact absurd ((xv155).trans (rfl).symm) c158
                ·
                  refine lv_ldc (v := (-1000100)) hx hb hown (hts (.constant RX6 137 (-1000100)) (List.mem_of_getElem? (i := 7) rfl)) dX6_town_225 ?_
                  refine lv_aload_n hx hb dX6_town_227 rfl (lv_at hl 0 rfl) ?_
                  refine dk_get (k := 340) hx hb hts iX6_town_6 hown hK (dk_at340 hW) rfl 8 (by decide) (hts (.fieldLink RX6 101 "DogKingsModel" "faultPlace" "I") (List.mem_of_getElem? (i := 3) rfl)) rfl dX6_town_228 ?_
                  refine lv_topi (fun v159 ev159 => ?_)
                  have dv159 : dkN [(0, 90)] v159 := by rw [ev159]; exact f155_340_8
                  have xv159 : v159 = I165_ 340 10 := ev159.trans ((hF155 340 8 rfl).trans ((by rw [eI154, dkU_sn (by decide)] : I154 340 8 = _).trans y146))
                  refine lv_isub hx hb dX6_town_231 ?_
                  refine lv_topi (fun v160 ev160 => ?_)
                  have dv160 : dkN [(-1000190, -1000100)] v160 := by rw [ev160]; exact dkN_subt (dkN_lit (x := (-1000100)) (-1000100) rfl) dv159 rfl
                  have xv160 : v160 = (-1000100 : Int32) - (I165_ 340 10) := by rw [ev160, xv159]
                  have q161 : ((-1000100 : Int32) - (I165_ 340 10)).toInt = (-1000100 : Int) - (I165_ 340 10).toInt := by first | (rw [← xv160, ← xv159]; exact (by rw [ev160]; exact dk_subE (dkN_lit (x := (-1000100)) (-1000100) rfl) dv159 rfl)) | (subst xv160 xv159; exact (by rw [ev160]; exact dk_subE (dkN_lit (x := (-1000100)) (-1000100) rfl) dv159 rfl))
                  have i0 : (0 : Int32).toInt = 0 := rfl
                  have i1 : (1 : Int32).toInt = 1 := rfl
                  have i2 : (2 : Int32).toInt = 2 := rfl
                  have i3 : (3 : Int32).toInt = 3 := rfl
                  have i9 : (9 : Int32).toInt = 9 := rfl
                  have i30 : (30 : Int32).toInt = 30 := rfl
                  have i44 : (44 : Int32).toInt = 44 := rfl
                  have i59 : (59 : Int32).toInt = 59 := rfl
                  have i109 : (109 : Int32).toInt = 109 := rfl
                  have i116 : (116 : Int32).toInt = 116 := rfl
                  have hlw : dkLw (I0 345) (I0 340 6) 0 = (0, dkTe (I0 345) (I0 340 6) (dkTe (I0 345) (I0 340 6) (dkTe (I0 345) (I0 340 6) (dkTe (I0 345) (I0 340 6) (dkTe (I0 345) (I0 340 6) (0)))))) := ((dkTh_p (dkK_l (T := (I0 345)) (n := (I0 340 6)) (a := 0) (c := 116) y165_0 (by omega))).trans ((dkTh_p (dkK_0 (T := (I0 345)) (n := (I0 340 6)) (a := dkTe (I0 345) (I0 340 6) (0)) (lo := 3) (hi := 9) y165_2 (by omega) (by omega))).trans ((dkTh_p (dkK_c (T := (I0 345)) (n := (I0 340 6)) (a := dkTe (I0 345) (I0 340 6) (dkTe (I0 345) (I0 340 6) (0))) y165_5)).trans ((dkTh_p (dkK_0 (T := (I0 345)) (n := (I0 340 6)) (a := dkTe (I0 345) (I0 340 6) (dkTe (I0 345) (I0 340 6) (dkTe (I0 345) (I0 340 6) (0)))) (lo := 1) (hi := 30) y165_6 (by omega) (by omega))).trans (dkK_s (T := (I0 345)) (n := (I0 340 6)) (a := dkTe (I0 345) (I0 340 6) (dkTe (I0 345) (I0 340 6) (dkTe (I0 345) (I0 340 6) (dkTe (I0 345) (I0 340 6) (0))))) y165_9)))))
                  have hhh : dkHh (I0 345) (I0 340 6) = (dkTv (I0 345) (I0 340 6) (dkTe (I0 345) (I0 340 6) (0))) := (by unfold dkHh; rw [show dkSg (I0 345) (I0 340 6) 116 0 = (0, dkTe (I0 345) (I0 340 6) (0)) from dkK_l (T := (I0 345)) (n := (I0 340 6)) (a := 0) (c := 116) y165_0 (by omega)]; exact (dkK_v (T := (I0 345)) (n := (I0 340 6)) (a := dkTe (I0 345) (I0 340 6) (0)) (by omega)).symm)
                  have hps : dkPs (I0 345) (I0 340 6) (dkTv (I0 345) (I0 340 6) (dkTe (I0 345) (I0 340 6) (0))) (dkTe (I0 345) (I0 340 6) (dkTe (I0 345) (I0 340 6) (dkTe (I0 345) (I0 340 6) (dkTe (I0 345) (I0 340 6) (dkTe (I0 345) (I0 340 6) (0)))))) = dkPw (I0 345) (I0 340 6) (dkTv (I0 345) (I0 340 6) (dkTe (I0 345) (I0 340 6) (0))) 5 (dkTe (I0 345) (I0 340 6) (dkTe (I0 345) (I0 340 6) (dkTe (I0 345) (I0 340 6) (dkTe (I0 345) (I0 340 6) (dkTe (I0 345) (I0 340 6) (0)))))) := dkPs_w (dkK_l (T := (I0 345)) (n := (I0 340 6)) (a := dkTe (I0 345) (I0 340 6) (dkTe (I0 345) (I0 340 6) (dkTe (I0 345) (I0 340 6) (dkTe (I0 345) (I0 340 6) (dkTe (I0 345) (I0 340 6) (0)))))) (c := 109) y165_10 (by omega))
                  obtain ⟨c9, g1, g2, g3⟩ := cx165.2
                  have hp2 := hps.trans g1
                  have e162 : dkTw (I0 345) (I0 340 6) = (1, I165_ 340 10) := (dkTw_d hlw hhh hp2).trans (dkX2_u g3 (by omega) (Or.inr q137))
                  exact W.iret (v := v160) hx hb hr (fun t ht hW9 => ⟨⟨v160, I154, rfl, ⟨hF, hO, hP, Or.inl ⟨dkN_sub dv160 rfl, (show dkN [(0, 0)] (I154 340 6) from dkN_sub (by rw [hF155 340 6 rfl]; exact (by rw [eI154, dkU_ss]; exact (dkN_lit (x := 0) (0) rfl))) rfl), (show dkN [(1, 3)] (I154 340 7) from dkN_sub (by rw [hF155 340 7 rfl]; exact (by rw [eI154, dkU_sn (by decide)]; exact f142_340_7)) rfl), (show dkN [(0, 90)] (I154 340 8) from dkN_sub f155_340_8 rfl), (show dkN [(0, 0), (3, 9)] (I154 347 0) from dkN_sub (by rw [hF155 347 0 rfl]; exact (by rw [eI154, dkU_n (by decide)]; exact (by rw [hF142 347 0 rfl]; exact (by rw [hF79 347 0 rfl]; exact (by rw [hF27 347 0 rfl]; exact f165_2))))) rfl), (dkE_k e162 (by decide)), ((xv160).trans (congrArg (fun y => (-1000100 : Int32) - y) (dkP_2 e162).symm)), (show I154 346 0 = I0 346 0 from ((hF155 346 0 rfl).trans ((by rw [eI154, dkU_n (by decide)] : I154 346 0 = _).trans ((hF142 346 0 rfl).trans ((hF79 346 0 rfl).trans ((hF27 346 0 rfl).trans zp165_3)))))), (show I154 346 4 = I0 346 4 from ((hF155 346 4 rfl).trans ((by rw [eI154, dkU_n (by decide)] : I154 346 4 = _).trans ((hF142 346 4 rfl).trans ((hF79 346 4 rfl).trans ((hF27 346 4 rfl).trans zp165_4)))))), (show I154 346 5 = I0 346 5 from ((hF155 346 5 rfl).trans ((by rw [eI154, dkU_n (by decide)] : I154 346 5 = _).trans ((hF142 346 5 rfl).trans ((hF79 346 5 rfl).trans ((hF27 346 5 rfl).trans zp165_5)))))), (show I154 340 6 = 0 from ((hF155 340 6 rfl).trans (by rw [eI154, dkU_ss]))), (show I154 340 17 = I0 340 17 from ((hF155 340 17 rfl).trans ((by rw [eI154, dkU_sn (by decide)] : I154 340 17 = _).trans ((hF142 340 17 rfl).trans ((hF79 340 17 rfl).trans ((hF27 340 17 rfl).trans zp165_0)))))), (((show I154 340 7 = 1 from ((hF155 340 7 rfl).trans ((by rw [eI154, dkU_sn (by decide)] : I154 340 7 = _).trans y144)))).trans (dkP_1 e162).symm), trivial⟩⟩, dkW_eq ht hW⟩, hS.F ht⟩) hS.2.2 dX6_town_232
              ·
                exact (dkN_nil (show dkN [] v139 from dkN_eq1 dv139 (dkN_lit (x := 0) (0) rfl) (congrArg Int32.toInt c140) rfl)).elim
            ·
              exact (dkN_nil (show dkN [] v79 from dkN_le2 1 (dkN_lit (x := 0) (0) rfl) dv79 (dkc_nle c138) rfl)).elim
  have C134 : ∀ (n : Nat), ∀ (I : dkI) (H : Heap) (locs : List Loc) (ls : Array Slot) (x134_1 : Int32), (6 - (I 347 4).toInt).toNat < n → dkW g z I H → va_S (dkA z) s.heap H locs → dkF [(340, 340, 6, 12), (340, 340, 17, 17), (346, 346, 0, 53), (347, 347, 0, 53)] I0 I → dkOk I → dkPP I → dkN [(54, 54)] x134_1 → dkN [(0, 5)] (I 340 11) → dkN [(-1, -1)] (I 340 8) → dkN [(3, 9)] (I 347 0) → dkN [(1, 30)] (I 347 1) → dkN [(1, 5)] (I 347 4) → dkN [(0, 0)] (I 347 5) → I 345 = I0 345 → I 340 17 = I0 340 17 → I 340 6 = I0 340 6 → I 340 7 = I0 340 7 → I 346 0 = I0 346 0 → I 346 4 = I0 346 4 → I 346 5 = I0 346 5 → I 347 0 = dkTv (I0 345) (I0 340 6) (dkTe (I0 345) (I0 340 6) (0)) → (dkTk (I0 345) (I0 340 6) (0)).toInt = (1 : Int) → (dkTv (I0 345) (I0 340 6) (0)).toInt = (116 : Int) → (dkTk (I0 345) (I0 340 6) (dkTe (I0 345) (I0 340 6) (0))).toInt = (2 : Int) → (3 : Int) + 0 ≤ (dkTv (I0 345) (I0 340 6) (dkTe (I0 345) (I0 340 6) (0))).toInt → (dkTv (I0 345) (I0 340 6) (dkTe (I0 345) (I0 340 6) (0))).toInt + 0 ≤ (9 : Int) → (dkTk (I0 345) (I0 340 6) (dkTe (I0 345) (I0 340 6) (dkTe (I0 345) (I0 340 6) (0)))).toInt = (3 : Int) → (dkTk (I0 345) (I0 340 6) (dkTe (I0 345) (I0 340 6) (dkTe (I0 345) (I0 340 6) (dkTe (I0 345) (I0 340 6) (0))))).toInt = (2 : Int) → (1 : Int) + 0 ≤ (dkTv (I0 345) (I0 340 6) (dkTe (I0 345) (I0 340 6) (dkTe (I0 345) (I0 340 6) (dkTe (I0 345) (I0 340 6) (0))))).toInt → (dkTv (I0 345) (I0 340 6) (dkTe (I0 345) (I0 340 6) (dkTe (I0 345) (I0 340 6) (dkTe (I0 345) (I0 340 6) (0))))).toInt + 0 ≤ (30 : Int) → (dkTk (I0 345) (I0 340 6) (dkTe (I0 345) (I0 340 6) (dkTe (I0 345) (I0 340 6) (dkTe (I0 345) (I0 340 6) (dkTe (I0 345) (I0 340 6) (0)))))).toInt = (4 : Int) → (dkTk (I0 345) (I0 340 6) (dkTe (I0 345) (I0 340 6) (dkTe (I0 345) (I0 340 6) (dkTe (I0 345) (I0 340 6) (dkTe (I0 345) (I0 340 6) (dkTe (I0 345) (I0 340 6) (0))))))).toInt = (1 : Int) → (dkTv (I0 345) (I0 340 6) (dkTe (I0 345) (I0 340 6) (dkTe (I0 345) (I0 340 6) (dkTe (I0 345) (I0 340 6) (dkTe (I0 345) (I0 340 6) (dkTe (I0 345) (I0 340 6) (0))))))).toInt = (109 : Int) → (dkMb (I0 345) (I0 340 6) (dkTv (I0 345) (I0 340 6) (dkTe (I0 345) (I0 340 6) (0))) (dkTe (I0 345) (I0 340 6) (dkTe (I0 345) (I0 340 6) (dkTe (I0 345) (I0 340 6) (dkTe (I0 345) (I0 340 6) (dkTe (I0 345) (I0 340 6) (dkTe (I0 345) (I0 340 6) (0)))))))).1 = 0 → (dkSy (I0 345) (I0 340 6) I ∧ dkX1 (I0 345) (I0 340 6) (dkTv (I0 345) (I0 340 6) (dkTe (I0 345) (I0 340 6) (0))) (dkTe (I0 345) (I0 340 6) (dkTe (I0 345) (I0 340 6) (dkTe (I0 345) (I0 340 6) (dkTe (I0 345) (I0 340 6) (dkTe (I0 345) (I0 340 6) (0)))))) (I 340 10) (I 347 4) ∧ I 347 5 = 0) → lv_has ls 2 [(0, .ref (z + 340)), (1, .int x134_1)] → W p l e (headSpec wsX6_town (dkR 6)).room s m args below meth c H locs 0 0 (MQ below (dkQi g z (fun r I1 => dkF [(340, 340, 6, 12), (340, 340, 17, 17), (346, 346, 0, 53), (347, 347, 0, 53)] I0 I1 ∧ dkOk I1 ∧ dkPP I1 ∧ ((dkN [(-1000190, -1000100)] r ∧ dkN [(0, 0)] (I1 340 6) ∧ dkN [(1, 3)] (I1 340 7) ∧ dkN [(0, 90)] (I1 340 8) ∧ dkN [(0, 0), (3, 9)] (I1 347 0) ∧ (dkTw (I0 345) (I0 340 6)).1 ≠ 0 ∧ r = (-1000100 : Int32) - (dkTw (I0 345) (I0 340 6)).2 ∧ I1 346 0 = I0 346 0 ∧ I1 346 4 = I0 346 4 ∧ I1 346 5 = I0 346 5 ∧ I1 340 6 = 0 ∧ I1 340 17 = I0 340 17 ∧ I1 340 7 = (dkTw (I0 345) (I0 340 6)).1 ∧ True) ∨ (dkN [(0, 6)] r ∧ dkN [(0, 0)] (I1 340 11) ∧ dkN [(0, 0)] (I1 340 17) ∧ dkN [(0, 0)] (I1 340 6) ∧ dkN [(-1, -1)] (I1 340 8) ∧ dkN [(3, 9)] (I1 346 0) ∧ dkN [(1, 30)] (I1 346 1) ∧ dkN [(1, 5)] (I1 346 4) ∧ dkN [(3, 9)] (I1 347 0) ∧ dkN [(1, 30)] (I1 347 1) ∧ dkN [(1, 5)] (I1 347 4) ∧ (dkTw (I0 345) (I0 340 6)).1 = 0 ∧ r = dkTd (I0 345) (I0 340 6) ∧ I1 346 0 = dkHh (I0 345) (I0 340 6) ∧ I1 346 4 = dkTp (I0 345) (I0 340 6) ∧ I1 346 5 = dkTd (I0 345) (I0 340 6) ∧ I1 340 6 = 0 ∧ I1 340 17 = 0 ∧ I1 340 7 = I0 340 7 ∧ True)))) args s 0 0 (dkA z)) (F0 m 134 ls []) := by
    intro n
    induction n with
    | zero => intro I H locs ls x134_1 hn; exact absurd hn (Nat.not_lt_zero _)
    | succ n ih134 =>
      intro I134_ H locs ls x134_1 hn134 hW hS hF_134 hO hP k134_0 f134_0 f134_1 f134_2 f134_3 f134_4 f134_5 z134_0 zp134_0 zp134_1 zp134_2 zp134_3 zp134_4 zp134_5 zp134_6 y134_0 y134_1 y134_2 y134_3 y134_4 y134_5 y134_6 y134_7 y134_8 y134_9 y134_10 y134_11 y134_12 cx134 hl
      have hF := hF_134
      refine lv_aload_n hx hb dX6_town_134 rfl (lv_at hl 0 rfl) ?_
      refine dk_Vi (As := []) (rest := []) ⟨hx, hb, hml, hown, hts⟩ (fx_X6_isWell_6 l g z I134_ (show dkN [(-1, -1)] (I134_ 340 8) from dkN_sub f134_1 rfl) hO) (cwV 0 hts gX6_town_X6_isWell rfl rfl rfl (by decide +kernel) ⟨Nat.le_of_ble_eq_true rfl, Nat.le_of_ble_eq_true rfl⟩) (dk_at340 hW) rfl hK hT hW hS rfl hl.1 rfl (Nat.le_of_ble_eq_true rfl) dX6_town_135 ⟨Nat.zero_le _, Nat.zero_le _⟩ (fun v163 I163 H163 L163 hp163 hW hS => ?_)
      obtain ⟨hF163, hO, hc163⟩ := hp163
      have hF := dkF_call hF hF163 rfl
      have hP := dkPP_F hP hF163 rfl
      have eI163 : I134_ = I163 := (dkF_nil hF163).symm
      subst eI163
      obtain ⟨dv163, f163_340_8, x163_0, xr163, -⟩ := hc163
      have w164 : I134_ 340 8 = I134_ 340 8 := rfl
      have q165 : (I134_ 340 8).toInt + 1 ≤ (0 : Int) := by have h := x163_0; rw [w164] at h; exact h
      have xv163 : v163 = 1 := by have h := xr163; exact h
      refine lv_if_eq (tgt := 165) hx hb dX6_town_138 (by decide) (fun c166 => ?_) (fun c166 => ?_)
      ·
        exact (dkN_nil (show dkN [] v163 from dkN_eq1 dv163 (dkN_lit (x := 0) (0) rfl) (congrArg Int32.toInt c166) rfl)).elim
      ·
        refine lv_aload_n hx hb dX6_town_141 rfl (lv_at hl 0 rfl) ?_
        refine dk_get (k := 340) hx hb hts iX6_town_6 hown hK (dk_at340 hW) rfl 11 (by decide) (hts (.fieldLink RX6 98 "DogKingsModel" "token" "I") (List.mem_of_getElem? (i := 4) rfl)) rfl dX6_town_142 ?_
        refine lv_topi (fun v167 ev167 => ?_)
        have dv167 : dkN [(0, 5)] v167 := by rw [ev167]; exact (by rw [hF163 340 11 rfl]; exact f134_0)
        have xv167 : v167 = dkTk (I0 345) (I0 340 6) (I134_ 340 10) := ev167.trans ((hF163 340 11 rfl).trans cx134.1.1)
        refine lv_iconst (v := 1) hx hb dX6_town_145 (by decide) ?_
        refine lv_icmp_ne (tgt := 165) hx hb dX6_town_146 (by decide) (fun c168 => ?_) (fun c168 => ?_)
        ·
          have q169 : (dkTk (I0 345) (I0 340 6) (I134_ 340 10)).toInt ≠ (1 : Int) := by first | (rw [← xv167]; exact (dk_ne c168)) | (subst xv167; exact (dk_ne c168))
          have d170 : dkN [(0, 0), (2, 5)] v167 := dkN_ne1 (1) dv167 (dkN_lit (x := 1) (1) rfl) (dk_ne c168) rfl
          have f171 : dkN [(0, 0), (2, 5)] (I134_ 340 11) := by rw [← ev167]; exact d170
          exact C165 _ I134_ _ _ ls x134_1 (Nat.lt_succ_self _) hW hS hF hO hP (dkN_sub k134_0 rfl) (show dkN [(0, 5)] (I134_ 340 11) from dkN_sub f171 rfl) (show dkN [(-1, -1)] (I134_ 340 8) from dkN_sub f163_340_8 rfl) (show dkN [(3, 9)] (I134_ 347 0) from dkN_sub (by rw [hF163 347 0 rfl]; exact f134_2) rfl) (show dkN [(1, 30)] (I134_ 347 1) from dkN_sub (by rw [hF163 347 1 rfl]; exact f134_3) rfl) (show dkN [(1, 5)] (I134_ 347 4) from dkN_sub (by rw [hF163 347 4 rfl]; exact f134_4) rfl) ((funext fun j => hF163 345 j dkNin_nil).trans z134_0) ((hF163 340 17 rfl).trans zp134_0) ((hF163 340 6 rfl).trans zp134_1) ((hF163 340 7 rfl).trans zp134_2) ((hF163 346 0 rfl).trans zp134_3) ((hF163 346 4 rfl).trans zp134_4) ((hF163 346 5 rfl).trans zp134_5) ((hF163 347 0 rfl).trans zp134_6) y134_0 y134_1 y134_2 y134_3 y134_4 y134_5 y134_6 y134_7 y134_8 y134_9 y134_10 y134_11 y134_12 ⟨cx134.1, _, (dkX1_e cx134.2.1 (by omega)).1, (dkX1_e cx134.2.1 (by omega)).2, (by rw [cx134.2.2]; exact dkX2_0)⟩ (lv_sub hl [0, 1] rfl)
        ·
          have q172 : (dkTk (I0 345) (I0 340 6) (I134_ 340 10)).toInt = (1 : Int) := by first | (rw [← xv167]; exact (congrArg Int32.toInt c168)) | (subst xv167; exact (congrArg Int32.toInt c168))
          have d173 : dkN [(1, 1)] v167 := dkN_eq1 dv167 (dkN_lit (x := 1) (1) rfl) (congrArg Int32.toInt c168) rfl
          have f174 : dkN [(1, 1)] (I134_ 340 11) := by rw [← ev167]; exact d173
          refine lv_aload_n hx hb dX6_town_149 rfl (lv_at hl 0 rfl) ?_
          refine dk_get (k := 340) hx hb hts iX6_town_6 hown hK (dk_at340 hW) rfl 12 (by decide) (hts (.fieldLink RX6 95 "DogKingsModel" "value" "I") (List.mem_of_getElem? (i := 5) rfl)) rfl dX6_town_150 ?_
          refine lv_topi (fun v175 ev175 => ?_)
          have xv175 : v175 = dkTv (I0 345) (I0 340 6) (I134_ 340 10) := ev175.trans ((hF163 340 12 rfl).trans cx134.1.2.1)
          refine lv_bipush (v := 109) hx hb dX6_town_153 (by decide) ?_
          refine lv_icmp_ne (tgt := 165) hx hb dX6_town_155 (by decide) (fun c176 => ?_) (fun c176 => ?_)
          ·
            have q177 : (dkTv (I0 345) (I0 340 6) (I134_ 340 10)).toInt ≠ (109 : Int) := by first | (rw [← xv175]; exact (dk_ne c176)) | (subst xv175; exact (dk_ne c176))
            have d178 : dkN [(-2147483648, 108), (110, 2147483647)] v175 := dkN_ne1 (109) (dkN_top v175) (dkN_lit (x := 109) (109) rfl) (dk_ne c176) rfl
            have f179 : dkN [(-2147483648, 108), (110, 2147483647)] (I134_ 340 12) := by rw [← ev175]; exact d178
            exact C165 _ I134_ _ _ ls x134_1 (Nat.lt_succ_self _) hW hS hF hO hP (dkN_sub k134_0 rfl) (show dkN [(0, 5)] (I134_ 340 11) from dkN_sub f174 rfl) (show dkN [(-1, -1)] (I134_ 340 8) from dkN_sub f163_340_8 rfl) (show dkN [(3, 9)] (I134_ 347 0) from dkN_sub (by rw [hF163 347 0 rfl]; exact f134_2) rfl) (show dkN [(1, 30)] (I134_ 347 1) from dkN_sub (by rw [hF163 347 1 rfl]; exact f134_3) rfl) (show dkN [(1, 5)] (I134_ 347 4) from dkN_sub (by rw [hF163 347 4 rfl]; exact f134_4) rfl) ((funext fun j => hF163 345 j dkNin_nil).trans z134_0) ((hF163 340 17 rfl).trans zp134_0) ((hF163 340 6 rfl).trans zp134_1) ((hF163 340 7 rfl).trans zp134_2) ((hF163 346 0 rfl).trans zp134_3) ((hF163 346 4 rfl).trans zp134_4) ((hF163 346 5 rfl).trans zp134_5) ((hF163 347 0 rfl).trans zp134_6) y134_0 y134_1 y134_2 y134_3 y134_4 y134_5 y134_6 y134_7 y134_8 y134_9 y134_10 y134_11 y134_12 ⟨cx134.1, _, (dkX1_e cx134.2.1 (by omega)).1, (dkX1_e cx134.2.1 (by omega)).2, (by rw [cx134.2.2]; exact dkX2_0)⟩ (lv_sub hl [0, 1] rfl)
          ·
            have q180 : (dkTv (I0 345) (I0 340 6) (I134_ 340 10)).toInt = (109 : Int) := by first | (rw [← xv175]; exact (congrArg Int32.toInt c176)) | (subst xv175; exact (congrArg Int32.toInt c176))
            have d181 : dkN [(109, 109)] v175 := dkN_eq1 (dkN_top v175) (dkN_lit (x := 109) (109) rfl) (congrArg Int32.toInt c176) rfl
            have f182 : dkN [(109, 109)] (I134_ 340 12) := by rw [← ev175]; exact d181
            refine lv_aload_n hx hb dX6_town_158 rfl (lv_at hl 0 rfl) ?_
            refine dk_Vv (As := []) (rest := []) ⟨hx, hb, hml, hown, hts⟩ (fx_X6_readsPerson_1 l g z I134_ (show dkN [(-1, -1)] (I134_ 340 8) from dkN_sub f163_340_8 rfl) (show dkN [(3, 9)] (I134_ 347 0) from dkN_sub (by rw [hF163 347 0 rfl]; exact f134_2) rfl) hO) (cwV 0 hts gX6_town_X6_readsPerson rfl rfl rfl (by decide +kernel) ⟨Nat.le_of_ble_eq_true rfl, Nat.le_of_ble_eq_true rfl⟩) (dk_at340 hW) rfl hK hT hW hS rfl hl.1 rfl (Nat.le_of_ble_eq_true rfl) dX6_town_159 ⟨Nat.zero_le _, Nat.zero_le _⟩ (fun I183 H183 L183 hp183 hW hS => ?_)
            obtain ⟨hF183, hO, hc183⟩ := hp183
            have hF := dkF_call hF hF183 rfl
            have hP := dkPP_F hP hF183 rfl
            rcases hc183 with ⟨f183_340_7, f183_340_8, f183_347_0, f183_347_4, x183_0, xh183_0, xh183_1, xh183_2, xh183_3, xh183_4, -⟩ | hc183
            ·
              have w184 : I134_ 347 4 = I134_ 347 4 := ((hF163 347 4 rfl).trans rfl)
              have q185 : (5 : Int) + 0 ≤ (I134_ 347 4).toInt := by have h := x183_0; rw [w184] at h; exact h
              have y186 : I183 340 7 = 3 := by have h := xh183_0; exact h
              have w187 : I134_ 340 10 = I134_ 340 10 := ((hF163 340 10 rfl).trans rfl)
              have y188 : I183 340 8 = I134_ 340 10 := by have h := xh183_1; rw [w187] at h; exact h
              have w189 : I134_ 347 0 = dkTv (I0 345) (I0 340 6) (dkTe (I0 345) (I0 340 6) (0)) := ((hF163 347 0 rfl).trans zp134_6)
              have y190 : I183 347 0 = dkTv (I0 345) (I0 340 6) (dkTe (I0 345) (I0 340 6) (0)) := by have h := xh183_2; rw [w189] at h; exact h
              have y191 : I183 347 4 = I134_ 347 4 := by have h := xh183_3; rw [w184] at h; exact h
              have w192 : I134_ 347 5 = 0 := ((hF163 347 5 rfl).trans cx134.2.2)
              have y193 : I183 347 5 = 0 := by have h := xh183_4; rw [w192] at h; exact h
              refine lv_goto (tgt := 134) hx hb dX6_town_162 (by decide) ?_
              refine lv_aload_n hx hb dX6_town_134 rfl (lv_at hl 0 rfl) ?_
              refine dk_Vi (As := []) (rest := []) ⟨hx, hb, hml, hown, hts⟩ (fx_X6_isWell_7 l g z I183 (show dkN [(0, 90)] (I183 340 8) from dkN_sub f183_340_8 rfl) hO) (cwV 0 hts gX6_town_X6_isWell rfl rfl rfl (by decide +kernel) ⟨Nat.le_of_ble_eq_true rfl, Nat.le_of_ble_eq_true rfl⟩) (dk_at340 hW) rfl hK hT hW hS rfl hl.1 rfl (Nat.le_of_ble_eq_true rfl) dX6_town_135 ⟨Nat.zero_le _, Nat.zero_le _⟩ (fun v194 I194 H194 L194 hp194 hW hS => ?_)
              obtain ⟨hF194, hO, hc194⟩ := hp194
              have hF := dkF_call hF hF194 rfl
              have hP := dkPP_F hP hF194 rfl
              have eI194 : I183 = I194 := (dkF_nil hF194).symm
              subst eI194
              obtain ⟨dv194, f194_340_8, x194_0, xr194, -⟩ := hc194
              have w195 : I183 340 8 = I134_ 340 10 := y188
              have q196 : (0 : Int) + 0 ≤ (I134_ 340 10).toInt := by have h := x194_0; rw [w195] at h; exact h
              have xv194 : v194 = 0 := by have h := xr194; exact h
              refine lv_if_eq (tgt := 165) hx hb dX6_town_138 (by decide) (fun c197 => ?_) (fun c197 => ?_)
              ·
                refine lv_aload_n hx hb dX6_town_165 rfl (lv_at hl 0 rfl) ?_
                refine dk_Vi (As := []) (rest := []) ⟨hx, hb, hml, hown, hts⟩ (fx_X6_isWell_7 l g z I183 (show dkN [(0, 90)] (I183 340 8) from dkN_sub f194_340_8 rfl) hO) (cwV 0 hts gX6_town_X6_isWell rfl rfl rfl (by decide +kernel) ⟨Nat.le_of_ble_eq_true rfl, Nat.le_of_ble_eq_true rfl⟩) (dk_at340 hW) rfl hK hT hW hS rfl hl.1 rfl (Nat.le_of_ble_eq_true rfl) dX6_town_166 ⟨Nat.zero_le _, Nat.zero_le _⟩ (fun v198 I198 H198 L198 hp198 hW hS => ?_)
                obtain ⟨hF198, hO, hc198⟩ := hp198
                have hF := dkF_call hF hF198 rfl
                have hP := dkPP_F hP hF198 rfl
                have eI198 : I183 = I198 := (dkF_nil hF198).symm
                subst eI198
                obtain ⟨dv198, f198_340_8, x198_0, xr198, -⟩ := hc198
                have w199 : I183 340 8 = I134_ 340 10 := ((hF194 340 8 rfl).trans y188)
                have xv198 : v198 = 0 := by have h := xr198; exact h
                refine lv_if_eq (tgt := 197) hx hb dX6_town_169 (by decide) (fun c200 => ?_) (fun c200 => ?_)
                ·
                  have i0 : (0 : Int32).toInt = 0 := rfl
                  have i1 : (1 : Int32).toInt = 1 := rfl
                  have i2 : (2 : Int32).toInt = 2 := rfl
                  have i3 : (3 : Int32).toInt = 3 := rfl
                  have i9 : (9 : Int32).toInt = 9 := rfl
                  have i30 : (30 : Int32).toInt = 30 := rfl
                  have i44 : (44 : Int32).toInt = 44 := rfl
                  have i59 : (59 : Int32).toInt = 59 := rfl
                  have i109 : (109 : Int32).toInt = 109 := rfl
                  have i116 : (116 : Int32).toInt = 116 := rfl
                  have hlw : dkLw (I0 345) (I0 340 6) 0 = (0, dkTe (I0 345) (I0 340 6) (dkTe (I0 345) (I0 340 6) (dkTe (I0 345) (I0 340 6) (dkTe (I0 345) (I0 340 6) (dkTe (I0 345) (I0 340 6) (0)))))) := ((dkTh_p (dkK_l (T := (I0 345)) (n := (I0 340 6)) (a := 0) (c := 116) y134_0 (by omega))).trans ((dkTh_p (dkK_0 (T := (I0 345)) (n := (I0 340 6)) (a := dkTe (I0 345) (I0 340 6) (0)) (lo := 3) (hi := 9) y134_2 (by omega) (by omega))).trans ((dkTh_p (dkK_c (T := (I0 345)) (n := (I0 340 6)) (a := dkTe (I0 345) (I0 340 6) (dkTe (I0 345) (I0 340 6) (0))) y134_5)).trans ((dkTh_p (dkK_0 (T := (I0 345)) (n := (I0 340 6)) (a := dkTe (I0 345) (I0 340 6) (dkTe (I0 345) (I0 340 6) (dkTe (I0 345) (I0 340 6) (0)))) (lo := 1) (hi := 30) y134_6 (by omega) (by omega))).trans (dkK_s (T := (I0 345)) (n := (I0 340 6)) (a := dkTe (I0 345) (I0 340 6) (dkTe (I0 345) (I0 340 6) (dkTe (I0 345) (I0 340 6) (dkTe (I0 345) (I0 340 6) (0))))) y134_9)))))
                  have hhh : dkHh (I0 345) (I0 340 6) = (dkTv (I0 345) (I0 340 6) (dkTe (I0 345) (I0 340 6) (0))) := (by unfold dkHh; rw [show dkSg (I0 345) (I0 340 6) 116 0 = (0, dkTe (I0 345) (I0 340 6) (0)) from dkK_l (T := (I0 345)) (n := (I0 340 6)) (a := 0) (c := 116) y134_0 (by omega)]; exact (dkK_v (T := (I0 345)) (n := (I0 340 6)) (a := dkTe (I0 345) (I0 340 6) (0)) (by omega)).symm)
                  have hps : dkPs (I0 345) (I0 340 6) (dkTv (I0 345) (I0 340 6) (dkTe (I0 345) (I0 340 6) (0))) (dkTe (I0 345) (I0 340 6) (dkTe (I0 345) (I0 340 6) (dkTe (I0 345) (I0 340 6) (dkTe (I0 345) (I0 340 6) (dkTe (I0 345) (I0 340 6) (0)))))) = dkPw (I0 345) (I0 340 6) (dkTv (I0 345) (I0 340 6) (dkTe (I0 345) (I0 340 6) (0))) 5 (dkTe (I0 345) (I0 340 6) (dkTe (I0 345) (I0 340 6) (dkTe (I0 345) (I0 340 6) (dkTe (I0 345) (I0 340 6) (dkTe (I0 345) (I0 340 6) (0)))))) := dkPs_w (dkK_l (T := (I0 345)) (n := (I0 340 6)) (a := dkTe (I0 345) (I0 340 6) (dkTe (I0 345) (I0 340 6) (dkTe (I0 345) (I0 340 6) (dkTe (I0 345) (I0 340 6) (dkTe (I0 345) (I0 340 6) (0)))))) (c := 109) y134_10 (by omega))
                  have e201 : dkTw (I0 345) (I0 340 6) = (3, I134_ 340 10) := dkTw_p hlw hhh (hps.trans (dkX1_o cx134.2.1 (by omega) (by omega) (by omega))) (by decide)
                  exact C197 I183 _ _ ls x134_1 hW hS hF hO hP (dkN_sub k134_0 rfl) (show dkN [(1, 3)] (I183 340 7) from dkN_sub (by rw [hF198 340 7 rfl]; exact (by rw [hF194 340 7 rfl]; exact f183_340_7)) rfl) (show dkN [(0, 90)] (I183 340 8) from dkN_sub f198_340_8 rfl) (show dkN [(0, 0), (3, 9)] (I183 347 0) from dkN_sub (by rw [hF198 347 0 rfl]; exact (by rw [hF194 347 0 rfl]; exact f183_347_0)) rfl) ((funext fun j => hF198 345 j dkNin_nil).trans ((funext fun j => hF194 345 j dkNin_nil).trans ((funext fun j => hF183 345 j (dkNin_k rfl (dkNin_k rfl (dkNin_k rfl dkNin_nil)))).trans ((funext fun j => hF163 345 j dkNin_nil).trans z134_0)))) ((hF198 340 17 rfl).trans ((hF194 340 17 rfl).trans ((hF183 340 17 rfl).trans ((hF163 340 17 rfl).trans zp134_0)))) ((hF198 340 6 rfl).trans ((hF194 340 6 rfl).trans ((hF183 340 6 rfl).trans ((hF163 340 6 rfl).trans zp134_1)))) ((hF198 346 0 rfl).trans ((hF194 346 0 rfl).trans ((hF183 346 0 rfl).trans ((hF163 346 0 rfl).trans zp134_3)))) ((hF198 346 4 rfl).trans ((hF194 346 4 rfl).trans ((hF183 346 4 rfl).trans ((hF163 346 4 rfl).trans zp134_4)))) ((hF198 346 5 rfl).trans ((hF194 346 5 rfl).trans ((hF183 346 5 rfl).trans ((hF163 346 5 rfl).trans zp134_5)))) ⟨(dkE_k e201 (by decide)), (((show I183 340 7 = 3 from ((hF198 340 7 rfl).trans ((hF194 340 7 rfl).trans y186)))).trans (dkP_1 e201).symm), (((show I183 340 8 = I134_ 340 10 from ((hF198 340 8 rfl).trans ((hF194 340 8 rfl).trans y188)))).trans (dkP_2 e201).symm)⟩ (lv_sub hl [0, 1] rfl)
                ·
                  exact absurd ((xv198).trans (rfl).symm) c200
              ·
                exact absurd ((xv194).trans (rfl).symm) c197
            rcases hc183 with ⟨f183_340_7, f183_340_8, f183_347_0, f183_347_4, x183_0, x183_1, xh183_0, xh183_1, xh183_2, xh183_3, xh183_4, -⟩ | hc183
            ·
              have w202 : I134_ 347 4 = I134_ 347 4 := ((hF163 347 4 rfl).trans rfl)
              have q203 : (I134_ 347 4).toInt + 1 ≤ (5 : Int) := by have h := x183_0; rw [w202] at h; exact h
              have w204 : I134_ 345 = I0 345 := ((funext fun j => hF163 345 j dkNin_nil).trans z134_0)
              have w205 : I134_ 340 6 = I0 340 6 := ((hF163 340 6 rfl).trans zp134_1)
              have w206 : I134_ 347 0 = dkTv (I0 345) (I0 340 6) (dkTe (I0 345) (I0 340 6) (0)) := ((hF163 347 0 rfl).trans zp134_6)
              have w207 : I134_ 340 9 = dkTe (I0 345) (I0 340 6) (I134_ 340 10) := ((hF163 340 9 rfl).trans cx134.1.2.2)
              have q208 : (dkMb (I0 345) (I0 340 6) (dkTv (I0 345) (I0 340 6) (dkTe (I0 345) (I0 340 6) (0))) (dkTe (I0 345) (I0 340 6) (I134_ 340 10))).1 ≠ 0 := by have h := x183_1; rw [w204, w205, w206, w207] at h; exact h
              have y209 : I183 340 7 = (dkMb (I0 345) (I0 340 6) (dkTv (I0 345) (I0 340 6) (dkTe (I0 345) (I0 340 6) (0))) (dkTe (I0 345) (I0 340 6) (I134_ 340 10))).1 := by have h := xh183_0; rw [w204, w205, w206, w207] at h; exact h
              have y210 : I183 340 8 = (dkMb (I0 345) (I0 340 6) (dkTv (I0 345) (I0 340 6) (dkTe (I0 345) (I0 340 6) (0))) (dkTe (I0 345) (I0 340 6) (I134_ 340 10))).2 := by have h := xh183_1; rw [w204, w205, w206, w207] at h; exact h
              have y211 : I183 347 0 = dkTv (I0 345) (I0 340 6) (dkTe (I0 345) (I0 340 6) (0)) := by have h := xh183_2; rw [w206] at h; exact h
              have y212 : I183 347 4 = I134_ 347 4 := by have h := xh183_3; rw [w202] at h; exact h
              have w213 : I134_ 347 5 = 0 := ((hF163 347 5 rfl).trans cx134.2.2)
              have y214 : I183 347 5 = 0 := by have h := xh183_4; rw [w213] at h; exact h
              refine lv_goto (tgt := 134) hx hb dX6_town_162 (by decide) ?_
              refine lv_aload_n hx hb dX6_town_134 rfl (lv_at hl 0 rfl) ?_
              refine dk_Vi (As := []) (rest := []) ⟨hx, hb, hml, hown, hts⟩ (fx_X6_isWell_7 l g z I183 (show dkN [(0, 90)] (I183 340 8) from dkN_sub f183_340_8 rfl) hO) (cwV 0 hts gX6_town_X6_isWell rfl rfl rfl (by decide +kernel) ⟨Nat.le_of_ble_eq_true rfl, Nat.le_of_ble_eq_true rfl⟩) (dk_at340 hW) rfl hK hT hW hS rfl hl.1 rfl (Nat.le_of_ble_eq_true rfl) dX6_town_135 ⟨Nat.zero_le _, Nat.zero_le _⟩ (fun v215 I215 H215 L215 hp215 hW hS => ?_)
              obtain ⟨hF215, hO, hc215⟩ := hp215
              have hF := dkF_call hF hF215 rfl
              have hP := dkPP_F hP hF215 rfl
              have eI215 : I183 = I215 := (dkF_nil hF215).symm
              subst eI215
              obtain ⟨dv215, f215_340_8, x215_0, xr215, -⟩ := hc215
              have w216 : I183 340 8 = (dkMb (I0 345) (I0 340 6) (dkTv (I0 345) (I0 340 6) (dkTe (I0 345) (I0 340 6) (0))) (dkTe (I0 345) (I0 340 6) (I134_ 340 10))).2 := y210
              have q217 : (0 : Int) + 0 ≤ ((dkMb (I0 345) (I0 340 6) (dkTv (I0 345) (I0 340 6) (dkTe (I0 345) (I0 340 6) (0))) (dkTe (I0 345) (I0 340 6) (I134_ 340 10))).2).toInt := by have h := x215_0; rw [w216] at h; exact h
              have xv215 : v215 = 0 := by have h := xr215; exact h
              refine lv_if_eq (tgt := 165) hx hb dX6_town_138 (by decide) (fun c218 => ?_) (fun c218 => ?_)
              ·
                refine lv_aload_n hx hb dX6_town_165 rfl (lv_at hl 0 rfl) ?_
                refine dk_Vi (As := []) (rest := []) ⟨hx, hb, hml, hown, hts⟩ (fx_X6_isWell_7 l g z I183 (show dkN [(0, 90)] (I183 340 8) from dkN_sub f215_340_8 rfl) hO) (cwV 0 hts gX6_town_X6_isWell rfl rfl rfl (by decide +kernel) ⟨Nat.le_of_ble_eq_true rfl, Nat.le_of_ble_eq_true rfl⟩) (dk_at340 hW) rfl hK hT hW hS rfl hl.1 rfl (Nat.le_of_ble_eq_true rfl) dX6_town_166 ⟨Nat.zero_le _, Nat.zero_le _⟩ (fun v219 I219 H219 L219 hp219 hW hS => ?_)
                obtain ⟨hF219, hO, hc219⟩ := hp219
                have hF := dkF_call hF hF219 rfl
                have hP := dkPP_F hP hF219 rfl
                have eI219 : I183 = I219 := (dkF_nil hF219).symm
                subst eI219
                obtain ⟨dv219, f219_340_8, x219_0, xr219, -⟩ := hc219
                have w220 : I183 340 8 = (dkMb (I0 345) (I0 340 6) (dkTv (I0 345) (I0 340 6) (dkTe (I0 345) (I0 340 6) (0))) (dkTe (I0 345) (I0 340 6) (I134_ 340 10))).2 := ((hF215 340 8 rfl).trans y210)
                have xv219 : v219 = 0 := by have h := xr219; exact h
                refine lv_if_eq (tgt := 197) hx hb dX6_town_169 (by decide) (fun c221 => ?_) (fun c221 => ?_)
                ·
                  have i0 : (0 : Int32).toInt = 0 := rfl
                  have i1 : (1 : Int32).toInt = 1 := rfl
                  have i2 : (2 : Int32).toInt = 2 := rfl
                  have i3 : (3 : Int32).toInt = 3 := rfl
                  have i9 : (9 : Int32).toInt = 9 := rfl
                  have i30 : (30 : Int32).toInt = 30 := rfl
                  have i44 : (44 : Int32).toInt = 44 := rfl
                  have i59 : (59 : Int32).toInt = 59 := rfl
                  have i109 : (109 : Int32).toInt = 109 := rfl
                  have i116 : (116 : Int32).toInt = 116 := rfl
                  have hlw : dkLw (I0 345) (I0 340 6) 0 = (0, dkTe (I0 345) (I0 340 6) (dkTe (I0 345) (I0 340 6) (dkTe (I0 345) (I0 340 6) (dkTe (I0 345) (I0 340 6) (dkTe (I0 345) (I0 340 6) (0)))))) := ((dkTh_p (dkK_l (T := (I0 345)) (n := (I0 340 6)) (a := 0) (c := 116) y134_0 (by omega))).trans ((dkTh_p (dkK_0 (T := (I0 345)) (n := (I0 340 6)) (a := dkTe (I0 345) (I0 340 6) (0)) (lo := 3) (hi := 9) y134_2 (by omega) (by omega))).trans ((dkTh_p (dkK_c (T := (I0 345)) (n := (I0 340 6)) (a := dkTe (I0 345) (I0 340 6) (dkTe (I0 345) (I0 340 6) (0))) y134_5)).trans ((dkTh_p (dkK_0 (T := (I0 345)) (n := (I0 340 6)) (a := dkTe (I0 345) (I0 340 6) (dkTe (I0 345) (I0 340 6) (dkTe (I0 345) (I0 340 6) (0)))) (lo := 1) (hi := 30) y134_6 (by omega) (by omega))).trans (dkK_s (T := (I0 345)) (n := (I0 340 6)) (a := dkTe (I0 345) (I0 340 6) (dkTe (I0 345) (I0 340 6) (dkTe (I0 345) (I0 340 6) (dkTe (I0 345) (I0 340 6) (0))))) y134_9)))))
                  have hhh : dkHh (I0 345) (I0 340 6) = (dkTv (I0 345) (I0 340 6) (dkTe (I0 345) (I0 340 6) (0))) := (by unfold dkHh; rw [show dkSg (I0 345) (I0 340 6) 116 0 = (0, dkTe (I0 345) (I0 340 6) (0)) from dkK_l (T := (I0 345)) (n := (I0 340 6)) (a := 0) (c := 116) y134_0 (by omega)]; exact (dkK_v (T := (I0 345)) (n := (I0 340 6)) (a := dkTe (I0 345) (I0 340 6) (0)) (by omega)).symm)
                  have hps : dkPs (I0 345) (I0 340 6) (dkTv (I0 345) (I0 340 6) (dkTe (I0 345) (I0 340 6) (0))) (dkTe (I0 345) (I0 340 6) (dkTe (I0 345) (I0 340 6) (dkTe (I0 345) (I0 340 6) (dkTe (I0 345) (I0 340 6) (dkTe (I0 345) (I0 340 6) (0)))))) = dkPw (I0 345) (I0 340 6) (dkTv (I0 345) (I0 340 6) (dkTe (I0 345) (I0 340 6) (0))) 5 (dkTe (I0 345) (I0 340 6) (dkTe (I0 345) (I0 340 6) (dkTe (I0 345) (I0 340 6) (dkTe (I0 345) (I0 340 6) (dkTe (I0 345) (I0 340 6) (0)))))) := dkPs_w (dkK_l (T := (I0 345)) (n := (I0 340 6)) (a := dkTe (I0 345) (I0 340 6) (dkTe (I0 345) (I0 340 6) (dkTe (I0 345) (I0 340 6) (dkTe (I0 345) (I0 340 6) (dkTe (I0 345) (I0 340 6) (0)))))) (c := 109) y134_10 (by omega))
                  have e2220 := dkX1_f cx134.2.1 (by omega) (by omega) (by omega) q208
                  have e222 : dkTw (I0 345) (I0 340 6) = ((dkMb (I0 345) (I0 340 6) (dkTv (I0 345) (I0 340 6) (dkTe (I0 345) (I0 340 6) (0))) (dkTe (I0 345) (I0 340 6) (I134_ 340 10))).1, (dkMb (I0 345) (I0 340 6) (dkTv (I0 345) (I0 340 6) (dkTe (I0 345) (I0 340 6) (0))) (dkTe (I0 345) (I0 340 6) (I134_ 340 10))).2) := dkTw_p hlw hhh (hps.trans e2220) q208
                  exact C197 I183 _ _ ls x134_1 hW hS hF hO hP (dkN_sub k134_0 rfl) (show dkN [(1, 3)] (I183 340 7) from dkN_sub (by rw [hF219 340 7 rfl]; exact (by rw [hF215 340 7 rfl]; exact f183_340_7)) rfl) (show dkN [(0, 90)] (I183 340 8) from dkN_sub f219_340_8 rfl) (show dkN [(0, 0), (3, 9)] (I183 347 0) from dkN_sub (by rw [hF219 347 0 rfl]; exact (by rw [hF215 347 0 rfl]; exact f183_347_0)) rfl) ((funext fun j => hF219 345 j dkNin_nil).trans ((funext fun j => hF215 345 j dkNin_nil).trans ((funext fun j => hF183 345 j (dkNin_k rfl (dkNin_k rfl (dkNin_k rfl dkNin_nil)))).trans ((funext fun j => hF163 345 j dkNin_nil).trans z134_0)))) ((hF219 340 17 rfl).trans ((hF215 340 17 rfl).trans ((hF183 340 17 rfl).trans ((hF163 340 17 rfl).trans zp134_0)))) ((hF219 340 6 rfl).trans ((hF215 340 6 rfl).trans ((hF183 340 6 rfl).trans ((hF163 340 6 rfl).trans zp134_1)))) ((hF219 346 0 rfl).trans ((hF215 346 0 rfl).trans ((hF183 346 0 rfl).trans ((hF163 346 0 rfl).trans zp134_3)))) ((hF219 346 4 rfl).trans ((hF215 346 4 rfl).trans ((hF183 346 4 rfl).trans ((hF163 346 4 rfl).trans zp134_4)))) ((hF219 346 5 rfl).trans ((hF215 346 5 rfl).trans ((hF183 346 5 rfl).trans ((hF163 346 5 rfl).trans zp134_5)))) ⟨(fun q => q208 ((dkP_1 e222).symm.trans q)), (((show I183 340 7 = (dkMb (I0 345) (I0 340 6) (dkTv (I0 345) (I0 340 6) (dkTe (I0 345) (I0 340 6) (0))) (dkTe (I0 345) (I0 340 6) (I134_ 340 10))).1 from ((hF219 340 7 rfl).trans ((hF215 340 7 rfl).trans y209)))).trans (dkP_1 e222).symm), (((show I183 340 8 = (dkMb (I0 345) (I0 340 6) (dkTv (I0 345) (I0 340 6) (dkTe (I0 345) (I0 340 6) (0))) (dkTe (I0 345) (I0 340 6) (I134_ 340 10))).2 from ((hF219 340 8 rfl).trans ((hF215 340 8 rfl).trans y210)))).trans (dkP_2 e222).symm)⟩ (lv_sub hl [0, 1] rfl)
                ·
                  exact absurd ((xv219).trans (rfl).symm) c221
              ·
                exact absurd ((xv215).trans (rfl).symm) c218
            ·
              obtain ⟨f183_340_11, f183_340_8, f183_347_0, f183_347_4, x183_0, x183_1, xh183_0, xh183_1, xh183_2, xh183_3, xh183_4, xh183_5, xh183_6, xh183_7, xh183_8, ci183_0, -⟩ := hc183
              have w223 : I134_ 347 4 = I134_ 347 4 := ((hF163 347 4 rfl).trans rfl)
              have q224 : (I134_ 347 4).toInt + 1 ≤ (5 : Int) := by have h := x183_0; rw [w223] at h; exact h
              have w225 : I134_ 345 = I0 345 := ((funext fun j => hF163 345 j dkNin_nil).trans z134_0)
              have w226 : I134_ 340 6 = I0 340 6 := ((hF163 340 6 rfl).trans zp134_1)
              have w227 : I134_ 347 0 = dkTv (I0 345) (I0 340 6) (dkTe (I0 345) (I0 340 6) (0)) := ((hF163 347 0 rfl).trans zp134_6)
              have w228 : I134_ 340 9 = dkTe (I0 345) (I0 340 6) (I134_ 340 10) := ((hF163 340 9 rfl).trans cx134.1.2.2)
              have q229 : (dkMb (I0 345) (I0 340 6) (dkTv (I0 345) (I0 340 6) (dkTe (I0 345) (I0 340 6) (0))) (dkTe (I0 345) (I0 340 6) (I134_ 340 10))).1 = 0 := by have h := x183_1; rw [w225, w226, w227, w228] at h; exact h
              have w230 : I134_ 340 7 = I0 340 7 := ((hF163 340 7 rfl).trans zp134_2)
              have y231 : I183 340 7 = I0 340 7 := by have h := xh183_0; rw [w230] at h; exact h
              have w232 : I134_ 340 8 = I134_ 340 8 := ((hF163 340 8 rfl).trans rfl)
              have y233 : I183 340 8 = I134_ 340 8 := by have h := xh183_1; rw [w232] at h; exact h
              have y234 : I183 340 9 = dkTe (I0 345) (I0 340 6) (dkMb (I0 345) (I0 340 6) (dkTv (I0 345) (I0 340 6) (dkTe (I0 345) (I0 340 6) (0))) (dkTe (I0 345) (I0 340 6) (I134_ 340 10))).2 := by have h := xh183_2; rw [w225, w226, w227, w228] at h; exact h
              have y235 : I183 340 10 = (dkMb (I0 345) (I0 340 6) (dkTv (I0 345) (I0 340 6) (dkTe (I0 345) (I0 340 6) (0))) (dkTe (I0 345) (I0 340 6) (I134_ 340 10))).2 := by have h := xh183_3; rw [w225, w226, w227, w228] at h; exact h
              have y236 : I183 340 11 = dkTk (I0 345) (I0 340 6) (dkMb (I0 345) (I0 340 6) (dkTv (I0 345) (I0 340 6) (dkTe (I0 345) (I0 340 6) (0))) (dkTe (I0 345) (I0 340 6) (I134_ 340 10))).2 := by have h := xh183_4; rw [w225, w226, w227, w228] at h; exact h
              have y237 : I183 340 12 = dkTv (I0 345) (I0 340 6) (dkMb (I0 345) (I0 340 6) (dkTv (I0 345) (I0 340 6) (dkTe (I0 345) (I0 340 6) (0))) (dkTe (I0 345) (I0 340 6) (I134_ 340 10))).2 := by have h := xh183_5; rw [w225, w226, w227, w228] at h; exact h
              have y238 : I183 347 0 = dkTv (I0 345) (I0 340 6) (dkTe (I0 345) (I0 340 6) (0)) := by have h := xh183_6; rw [w227] at h; exact h
              have w239 : I134_ 347 5 = 0 := ((hF163 347 5 rfl).trans cx134.2.2)
              have y240 : I183 347 5 = 0 := by have h := xh183_7; rw [w239] at h; exact h
              have y241 : I183 347 4 = (I134_ 347 4) + 1 := by have h := xh183_8; rw [w223] at h; exact h
              refine lv_goto (tgt := 134) hx hb dX6_town_162 (by decide) ?_
              exact ih134 I183 _ _ ls x134_1 (dk_nearH hn134 ci183_0 rfl (by rw [hF163 347 4 rfl]; exact f134_4) rfl rfl) hW hS hF hO hP (dkN_sub k134_0 rfl) (show dkN [(0, 5)] (I183 340 11) from dkN_sub f183_340_11 rfl) (show dkN [(-1, -1)] (I183 340 8) from dkN_sub f183_340_8 rfl) (show dkN [(3, 9)] (I183 347 0) from dkN_sub f183_347_0 rfl) (show dkN [(1, 30)] (I183 347 1) from dkN_sub (by rw [hF183 347 1 rfl]; exact (by rw [hF163 347 1 rfl]; exact f134_3)) rfl) (show dkN [(1, 5)] (I183 347 4) from dkN_sub f183_347_4 rfl) (show dkN [(0, 0)] (I183 347 5) from dkN_sub (by rw [hF183 347 5 rfl]; exact (by rw [hF163 347 5 rfl]; exact f134_5)) rfl) ((funext fun j => hF183 345 j (dkNin_k rfl (dkNin_k rfl (dkNin_k rfl dkNin_nil)))).trans ((funext fun j => hF163 345 j dkNin_nil).trans z134_0)) ((hF183 340 17 rfl).trans ((hF163 340 17 rfl).trans zp134_0)) ((hF183 340 6 rfl).trans ((hF163 340 6 rfl).trans zp134_1)) y231 ((hF183 346 0 rfl).trans ((hF163 346 0 rfl).trans zp134_3)) ((hF183 346 4 rfl).trans ((hF163 346 4 rfl).trans zp134_4)) ((hF183 346 5 rfl).trans ((hF163 346 5 rfl).trans zp134_5)) y238 y134_0 y134_1 y134_2 y134_3 y134_4 y134_5 y134_6 y134_7 y134_8 y134_9 y134_10 y134_11 y134_12 ⟨⟨(((show I183 340 11 = dkTk (I0 345) (I0 340 6) (dkMb (I0 345) (I0 340 6) (dkTv (I0 345) (I0 340 6) (dkTe (I0 345) (I0 340 6) (0))) (dkTe (I0 345) (I0 340 6) (I134_ 340 10))).2 from y236)).trans (congrArg (dkTk (I0 345) (I0 340 6)) ((show I183 340 10 = (dkMb (I0 345) (I0 340 6) (dkTv (I0 345) (I0 340 6) (dkTe (I0 345) (I0 340 6) (0))) (dkTe (I0 345) (I0 340 6) (I134_ 340 10))).2 from y235)).symm)), (((show I183 340 12 = dkTv (I0 345) (I0 340 6) (dkMb (I0 345) (I0 340 6) (dkTv (I0 345) (I0 340 6) (dkTe (I0 345) (I0 340 6) (0))) (dkTe (I0 345) (I0 340 6) (I134_ 340 10))).2 from y237)).trans (congrArg (dkTv (I0 345) (I0 340 6)) ((show I183 340 10 = (dkMb (I0 345) (I0 340 6) (dkTv (I0 345) (I0 340 6) (dkTe (I0 345) (I0 340 6) (0))) (dkTe (I0 345) (I0 340 6) (I134_ 340 10))).2 from y235)).symm)), (((show I183 340 9 = dkTe (I0 345) (I0 340 6) (dkMb (I0 345) (I0 340 6) (dkTv (I0 345) (I0 340 6) (dkTe (I0 345) (I0 340 6) (0))) (dkTe (I0 345) (I0 340 6) (I134_ 340 10))).2 from y234)).trans (congrArg (dkTe (I0 345) (I0 340 6)) ((show I183 340 10 = (dkMb (I0 345) (I0 340 6) (dkTv (I0 345) (I0 340 6) (dkTe (I0 345) (I0 340 6) (0))) (dkTe (I0 345) (I0 340 6) (I134_ 340 10))).2 from y235)).symm))⟩, (by rw [show I183 340 10 = (dkMb (I0 345) (I0 340 6) (dkTv (I0 345) (I0 340 6) (dkTe (I0 345) (I0 340 6) (0))) (dkTe (I0 345) (I0 340 6) (I134_ 340 10))).2 from y235, show I183 347 4 = (I134_ 347 4) + 1 from y241]; exact dkX1_s cx134.2.1 (by omega) (by omega) (by omega) (dk_nlt (dkN_ge (show dkN [(0, 5)] (I134_ 347 4) from ‹dkOk I134_› 347 4) rfl)) q229), (show I183 347 5 = 0 from y240)⟩ (lv_sub hl [0, 1] rfl)
  have C131 : ∀ (I : dkI) (H : Heap) (locs : List Loc) (ls : Array Slot) (x131_1 : Int32) (x131_s0 : Int32), dkW g z I H → va_S (dkA z) s.heap H locs → dkF [(340, 340, 6, 12), (340, 340, 17, 17), (346, 346, 0, 53), (347, 347, 0, 53)] I0 I → dkOk I → dkPP I → dkN [(54, 54)] x131_1 → dkN [(0, 1)] x131_s0 → dkN [(1, 2)] (I 340 7) → dkN [(0, 90)] (I 340 8) → dkN [(0, 0), (3, 9)] (I 347 0) → dkN [(0, 0)] (I 347 4) → dkN [(0, 0)] (I 347 5) → I 345 = I0 345 → I 340 17 = I0 340 17 → I 340 6 = I0 340 6 → I 346 0 = I0 346 0 → I 346 4 = I0 346 4 → I 346 5 = I0 346 5 → ((dkTw (I0 345) (I0 340 6)).1 ≠ 0 ∧ I 340 7 = (dkTw (I0 345) (I0 340 6)).1 ∧ I 340 8 = (dkTw (I0 345) (I0 340 6)).2) → lv_has ls 2 [(0, .ref (z + 340)), (1, .int x131_1)] → W p l e (headSpec wsX6_town (dkR 6)).room s m args below meth c H locs 0 0 (MQ below (dkQi g z (fun r I1 => dkF [(340, 340, 6, 12), (340, 340, 17, 17), (346, 346, 0, 53), (347, 347, 0, 53)] I0 I1 ∧ dkOk I1 ∧ dkPP I1 ∧ ((dkN [(-1000190, -1000100)] r ∧ dkN [(0, 0)] (I1 340 6) ∧ dkN [(1, 3)] (I1 340 7) ∧ dkN [(0, 90)] (I1 340 8) ∧ dkN [(0, 0), (3, 9)] (I1 347 0) ∧ (dkTw (I0 345) (I0 340 6)).1 ≠ 0 ∧ r = (-1000100 : Int32) - (dkTw (I0 345) (I0 340 6)).2 ∧ I1 346 0 = I0 346 0 ∧ I1 346 4 = I0 346 4 ∧ I1 346 5 = I0 346 5 ∧ I1 340 6 = 0 ∧ I1 340 17 = I0 340 17 ∧ I1 340 7 = (dkTw (I0 345) (I0 340 6)).1 ∧ True) ∨ (dkN [(0, 6)] r ∧ dkN [(0, 0)] (I1 340 11) ∧ dkN [(0, 0)] (I1 340 17) ∧ dkN [(0, 0)] (I1 340 6) ∧ dkN [(-1, -1)] (I1 340 8) ∧ dkN [(3, 9)] (I1 346 0) ∧ dkN [(1, 30)] (I1 346 1) ∧ dkN [(1, 5)] (I1 346 4) ∧ dkN [(3, 9)] (I1 347 0) ∧ dkN [(1, 30)] (I1 347 1) ∧ dkN [(1, 5)] (I1 347 4) ∧ (dkTw (I0 345) (I0 340 6)).1 = 0 ∧ r = dkTd (I0 345) (I0 340 6) ∧ I1 346 0 = dkHh (I0 345) (I0 340 6) ∧ I1 346 4 = dkTp (I0 345) (I0 340 6) ∧ I1 346 5 = dkTd (I0 345) (I0 340 6) ∧ I1 340 6 = 0 ∧ I1 340 17 = 0 ∧ I1 340 7 = I0 340 7 ∧ True)))) args s 0 0 (dkA z)) (F0 m 131 ls [.int x131_s0, .ref (z + 340)]) := by
    intro I131_ H locs ls x131_1 x131_s0 hW hS hF_131 hO hP k131_0 k131_1 f131_0 f131_1 f131_2 f131_3 f131_4 z131_0 zp131_0 zp131_1 zp131_2 zp131_3 zp131_4 cx131 hl
    have hF := hF_131
    refine dk_Vv (As := [.int x131_s0]) (rest := []) ⟨hx, hb, hml, hown, hts⟩ (h_X6_must_0 l g z I131_ x131_s0 (show dkN [(0, 90)] (I131_ 340 8) from dkN_sub f131_1 rfl) hO) (cwV 1 hts gX6_town_X6_must rfl rfl rfl (by decide +kernel) ⟨Nat.le_of_ble_eq_true rfl, Nat.le_of_ble_eq_true rfl⟩) (dk_at340 hW) rfl hK hT hW hS rfl hl.1 rfl (Nat.le_of_ble_eq_true rfl) dX6_town_131 ⟨Nat.zero_le _, Nat.zero_le _⟩ (fun I243 H243 L243 hp243 hW hS => ?_)
    obtain ⟨hF243, hO, hc243⟩ := hp243
    have hF := dkF_call hF hF243 rfl
    have hP := dkPP_F hP hF243 rfl
    have eI243 : I131_ = I243 := (dkF_nil hF243).symm
    subst eI243
    refine lv_aload_n hx hb dX6_town_134 rfl (lv_at hl 0 rfl) ?_
    refine dk_Vi (As := []) (rest := []) ⟨hx, hb, hml, hown, hts⟩ (fx_X6_isWell_7 l g z I131_ (show dkN [(0, 90)] (I131_ 340 8) from dkN_sub (by rw [hF243 340 8 rfl]; exact f131_1) rfl) hO) (cwV 0 hts gX6_town_X6_isWell rfl rfl rfl (by decide +kernel) ⟨Nat.le_of_ble_eq_true rfl, Nat.le_of_ble_eq_true rfl⟩) (dk_at340 hW) rfl hK hT hW hS rfl hl.1 rfl (Nat.le_of_ble_eq_true rfl) dX6_town_135 ⟨Nat.zero_le _, Nat.zero_le _⟩ (fun v244 I244 H244 L244 hp244 hW hS => ?_)
    obtain ⟨hF244, hO, hc244⟩ := hp244
    have hF := dkF_call hF hF244 rfl
    have hP := dkPP_F hP hF244 rfl
    have eI244 : I131_ = I244 := (dkF_nil hF244).symm
    subst eI244
    obtain ⟨dv244, f244_340_8, x244_0, xr244, -⟩ := hc244
    have w245 : I131_ 340 8 = I131_ 340 8 := ((hF243 340 8 rfl).trans rfl)
    have q246 : (0 : Int) + 0 ≤ (I131_ 340 8).toInt := by have h := x244_0; rw [w245] at h; exact h
    have xv244 : v244 = 0 := by have h := xr244; exact h
    refine lv_if_eq (tgt := 165) hx hb dX6_town_138 (by decide) (fun c247 => ?_) (fun c247 => ?_)
    ·
      refine lv_aload_n hx hb dX6_town_165 rfl (lv_at hl 0 rfl) ?_
      refine dk_Vi (As := []) (rest := []) ⟨hx, hb, hml, hown, hts⟩ (fx_X6_isWell_7 l g z I131_ (show dkN [(0, 90)] (I131_ 340 8) from dkN_sub f244_340_8 rfl) hO) (cwV 0 hts gX6_town_X6_isWell rfl rfl rfl (by decide +kernel) ⟨Nat.le_of_ble_eq_true rfl, Nat.le_of_ble_eq_true rfl⟩) (dk_at340 hW) rfl hK hT hW hS rfl hl.1 rfl (Nat.le_of_ble_eq_true rfl) dX6_town_166 ⟨Nat.zero_le _, Nat.zero_le _⟩ (fun v248 I248 H248 L248 hp248 hW hS => ?_)
      obtain ⟨hF248, hO, hc248⟩ := hp248
      have hF := dkF_call hF hF248 rfl
      have hP := dkPP_F hP hF248 rfl
      have eI248 : I131_ = I248 := (dkF_nil hF248).symm
      subst eI248
      obtain ⟨dv248, f248_340_8, x248_0, xr248, -⟩ := hc248
      have w249 : I131_ 340 8 = I131_ 340 8 := ((hF244 340 8 rfl).trans ((hF243 340 8 rfl).trans rfl))
      have xv248 : v248 = 0 := by have h := xr248; exact h
      refine lv_if_eq (tgt := 197) hx hb dX6_town_169 (by decide) (fun c250 => ?_) (fun c250 => ?_)
      ·
        exact C197 I131_ _ _ ls x131_1 hW hS hF hO hP (dkN_sub k131_0 rfl) (show dkN [(1, 3)] (I131_ 340 7) from dkN_sub (by rw [hF248 340 7 rfl]; exact (by rw [hF244 340 7 rfl]; exact (by rw [hF243 340 7 rfl]; exact f131_0))) rfl) (show dkN [(0, 90)] (I131_ 340 8) from dkN_sub f248_340_8 rfl) (show dkN [(0, 0), (3, 9)] (I131_ 347 0) from dkN_sub (by rw [hF248 347 0 rfl]; exact (by rw [hF244 347 0 rfl]; exact (by rw [hF243 347 0 rfl]; exact f131_2))) rfl) ((funext fun j => hF248 345 j dkNin_nil).trans ((funext fun j => hF244 345 j dkNin_nil).trans ((funext fun j => hF243 345 j dkNin_nil).trans z131_0))) ((hF248 340 17 rfl).trans ((hF244 340 17 rfl).trans ((hF243 340 17 rfl).trans zp131_0))) ((hF248 340 6 rfl).trans ((hF244 340 6 rfl).trans ((hF243 340 6 rfl).trans zp131_1))) ((hF248 346 0 rfl).trans ((hF244 346 0 rfl).trans ((hF243 346 0 rfl).trans zp131_2))) ((hF248 346 4 rfl).trans ((hF244 346 4 rfl).trans ((hF243 346 4 rfl).trans zp131_3))) ((hF248 346 5 rfl).trans ((hF244 346 5 rfl).trans ((hF243 346 5 rfl).trans zp131_4))) ⟨cx131.1, (((show I131_ 340 7 = I131_ 340 7 from ((hF248 340 7 rfl).trans ((hF244 340 7 rfl).trans ((hF243 340 7 rfl).trans rfl))))).trans cx131.2.1), (((show I131_ 340 8 = I131_ 340 8 from ((hF248 340 8 rfl).trans ((hF244 340 8 rfl).trans ((hF243 340 8 rfl).trans rfl))))).trans cx131.2.2)⟩ (lv_sub hl [0, 1] rfl)
      ·
        exact absurd ((xv248).trans (rfl).symm) c250
    ·
      exact absurd ((xv244).trans (rfl).symm) c247
  have C2 : ∀ (n : Nat), ∀ (I : dkI) (H : Heap) (locs : List Loc) (ls : Array Slot) (x2_1 : Int32), (54 - x2_1.toInt).toNat < n → dkW g z I H → va_S (dkA z) s.heap H locs → dkF [(340, 340, 6, 12), (340, 340, 17, 17), (346, 346, 0, 53), (347, 347, 0, 53)] I0 I → dkOk I → dkPP I → dkN [(0, 54)] x2_1 → I 345 = I0 345 → I 340 17 = I0 340 17 → I 340 6 = I0 340 6 → I 340 7 = I0 340 7 → I 346 0 = I0 346 0 → I 346 4 = I0 346 4 → I 346 5 = I0 346 5 → (∀ j : Nat, (j : Int) < x2_1.toInt → I 347 j = 0) → lv_has ls 2 [(0, .ref (z + 340)), (1, .int x2_1)] → W p l e (headSpec wsX6_town (dkR 6)).room s m args below meth c H locs 0 0 (MQ below (dkQi g z (fun r I1 => dkF [(340, 340, 6, 12), (340, 340, 17, 17), (346, 346, 0, 53), (347, 347, 0, 53)] I0 I1 ∧ dkOk I1 ∧ dkPP I1 ∧ ((dkN [(-1000190, -1000100)] r ∧ dkN [(0, 0)] (I1 340 6) ∧ dkN [(1, 3)] (I1 340 7) ∧ dkN [(0, 90)] (I1 340 8) ∧ dkN [(0, 0), (3, 9)] (I1 347 0) ∧ (dkTw (I0 345) (I0 340 6)).1 ≠ 0 ∧ r = (-1000100 : Int32) - (dkTw (I0 345) (I0 340 6)).2 ∧ I1 346 0 = I0 346 0 ∧ I1 346 4 = I0 346 4 ∧ I1 346 5 = I0 346 5 ∧ I1 340 6 = 0 ∧ I1 340 17 = I0 340 17 ∧ I1 340 7 = (dkTw (I0 345) (I0 340 6)).1 ∧ True) ∨ (dkN [(0, 6)] r ∧ dkN [(0, 0)] (I1 340 11) ∧ dkN [(0, 0)] (I1 340 17) ∧ dkN [(0, 0)] (I1 340 6) ∧ dkN [(-1, -1)] (I1 340 8) ∧ dkN [(3, 9)] (I1 346 0) ∧ dkN [(1, 30)] (I1 346 1) ∧ dkN [(1, 5)] (I1 346 4) ∧ dkN [(3, 9)] (I1 347 0) ∧ dkN [(1, 30)] (I1 347 1) ∧ dkN [(1, 5)] (I1 347 4) ∧ (dkTw (I0 345) (I0 340 6)).1 = 0 ∧ r = dkTd (I0 345) (I0 340 6) ∧ I1 346 0 = dkHh (I0 345) (I0 340 6) ∧ I1 346 4 = dkTp (I0 345) (I0 340 6) ∧ I1 346 5 = dkTd (I0 345) (I0 340 6) ∧ I1 340 6 = 0 ∧ I1 340 17 = 0 ∧ I1 340 7 = I0 340 7 ∧ True)))) args s 0 0 (dkA z)) (F0 m 2 ls []) := by
    intro n
    induction n with
    | zero => intro I H locs ls x2_1 hn; exact absurd hn (Nat.not_lt_zero _)
    | succ n ih2 =>
      intro I2_ H locs ls x2_1 hn2 hW hS hF_2 hO hP k2_0 z2_0 zp2_0 zp2_1 zp2_2 zp2_3 zp2_4 zp2_5 cx2 hl
      have hF := hF_2
      refine lv_iload_n hx hb dX6_town_2 rfl (lv_at hl 1 rfl) ?_
      refine lv_bipush (v := 54) hx hb dX6_town_3 (by decide) ?_
      refine lv_icmp_ge (tgt := 21) hx hb dX6_town_5 (by decide) (fun c251 => ?_) (fun c251 => ?_)
      ·
        have d252 : dkN [(54, 54)] x2_1 := dkN_le2 0 (dkN_lit (x := 54) (54) rfl) k2_0 (dkc_le c251) rfl
        have hz9 := dkN_one d252
        have hz4 : I2_ 347 4 = 0 := cx2 4 (by rw [hz9]; decide)
        have hz5 : I2_ 347 5 = 0 := cx2 5 (by rw [hz9]; decide)
        refine lv_aload_n hx hb dX6_town_21 rfl (lv_at hl 0 rfl) ?_
        refine lv_iconst (v := 0) hx hb dX6_town_22 (by decide) ?_
        refine dk_put (k := 340) hx hb hts iX6_town_6 tyX6 tyX6_ok nmX6 hown hK hW (dk_at340 hW) hS rfl 9 (by decide) (hts (.fieldLink RX6 86 "DogKingsModel" "at" "I") (List.mem_of_getElem? (i := 2) rfl)) rfl rfl (Nat.le_of_ble_eq_true rfl) rfl dX6_town_23 (fun I253 H253 L253 eI253 hW hS => ?_)
        have eI253 : I253 = dkU I2_ 340 9 0 := eI253
        have hO := dkO_set hO eI253 (dkN_sub (dkN_lit (x := 0) (0) rfl) rfl)
        have hF := dkF_set hF eI253 rfl
        have hP := dkPP_set hP eI253 rfl
        refine lv_aload_n hx hb dX6_town_26 rfl (lv_at hl 0 rfl) ?_
        refine lv_iconst (v := (-1)) hx hb dX6_town_27 (by decide) ?_
        refine dk_put (k := 340) hx hb hts iX6_town_6 tyX6 tyX6_ok nmX6 hown hK hW (dk_at340 hW) hS rfl 8 (by decide) (hts (.fieldLink RX6 101 "DogKingsModel" "faultPlace" "I") (List.mem_of_getElem? (i := 3) rfl)) rfl rfl (Nat.le_of_ble_eq_true rfl) rfl dX6_town_28 (fun I254 H254 L254 eI254 hW hS => ?_)
        have eI254 : I254 = dkU I253 340 8 ((-1)) := eI254
        have hO := dkO_set hO eI254 (dkN_sub (dkN_lit (x := (-1)) (-1) rfl) rfl)
        have hF := dkF_set hF eI254 rfl
        have hP := dkPP_set hP eI254 rfl
        refine lv_aload_n hx hb dX6_town_31 rfl (lv_at hl 0 rfl) ?_
        refine dk_Vv (As := []) (rest := []) ⟨hx, hb, hml, hown, hts⟩ (fx_X6_advances_1 l g z I254 hO) (cwV 0 hts gX6_town_X6_advances rfl rfl rfl (by decide +kernel) ⟨Nat.le_of_ble_eq_true rfl, Nat.le_of_ble_eq_true rfl⟩) (dk_at340 hW) rfl hK hT hW hS rfl hl.1 rfl (Nat.le_of_ble_eq_true rfl) dX6_town_32 ⟨Nat.zero_le _, Nat.zero_le _⟩ (fun I255 H255 L255 hp255 hW hS => ?_)
        obtain ⟨hF255, hO, hc255⟩ := hp255
        have hF := dkF_call hF hF255 rfl
        have hP := dkPP_F hP hF255 rfl
        obtain ⟨f255_340_11, xh255_0, xh255_1, xh255_2, xh255_3, -⟩ := hc255
        have w256 : I254 345 = I0 345 := ((by rw [eI254, dkU_n (by decide)] : I254 345 = _).trans ((by rw [eI253, dkU_n (by decide)] : I253 345 = _).trans z2_0))
        have w257 : I254 340 6 = I0 340 6 := ((by rw [eI254, dkU_sn (by decide)] : I254 340 6 = _).trans ((by rw [eI253, dkU_sn (by decide)] : I253 340 6 = _).trans zp2_1))
        have w258 : I254 340 9 = 0 := ((by rw [eI254, dkU_sn (by decide)] : I254 340 9 = _).trans (by rw [eI253, dkU_ss]))
        have y259 : I255 340 9 = dkTe (I0 345) (I0 340 6) (0) := by have h := xh255_0; rw [w256, w257, w258] at h; exact h
        have y260 : I255 340 10 = 0 := by have h := xh255_1; rw [w258] at h; exact h
        have y261 : I255 340 11 = dkTk (I0 345) (I0 340 6) (0) := by have h := xh255_2; rw [w256, w257, w258] at h; exact h
        have y262 : I255 340 12 = dkTv (I0 345) (I0 340 6) (0) := by have h := xh255_3; rw [w256, w257, w258] at h; exact h
        refine lv_aload_n hx hb dX6_town_35 rfl (lv_at hl 0 rfl) ?_
        refine lv_aload_n hx hb dX6_town_36 rfl (lv_at hl 0 rfl) ?_
        refine dk_get (k := 340) hx hb hts iX6_town_6 hown hK (dk_at340 hW) rfl 11 (by decide) (hts (.fieldLink RX6 98 "DogKingsModel" "token" "I") (List.mem_of_getElem? (i := 4) rfl)) rfl dX6_town_37 ?_
        refine lv_topi (fun v263 ev263 => ?_)
        have dv263 : dkN [(0, 5)] v263 := by rw [ev263]; exact f255_340_11
        have xv263 : v263 = dkTk (I0 345) (I0 340 6) (0) := ev263.trans y261
        refine lv_iconst (v := 1) hx hb dX6_town_40 (by decide) ?_
        refine lv_icmp_ne (tgt := 57) hx hb dX6_town_41 (by decide) (fun c264 => ?_) (fun c264 => ?_)
        ·
          have q265 : (dkTk (I0 345) (I0 340 6) (0)).toInt ≠ (1 : Int) := by first | (rw [← xv263]; exact (dk_ne c264)) | (subst xv263; exact (dk_ne c264))
          have d266 : dkN [(0, 0), (2, 5)] v263 := dkN_ne1 (1) dv263 (dkN_lit (x := 1) (1) rfl) (dk_ne c264) rfl
          have f267 : dkN [(0, 0), (2, 5)] (I255 340 11) := by rw [← ev263]; exact d266
          refine lv_iconst (v := 0) hx hb dX6_town_57 (by decide) ?_
          refine lv_iconst (v := 1) hx hb dX6_town_58 (by decide) ?_
          refine dk_Vi (As := [.int 0, .int 1]) (rest := []) ⟨hx, hb, hml, hown, hts⟩ (fx_X6_takes_31 l g z I255 0 1 (dkN_lit (x := 0) (0) rfl) (dkN_lit (x := 1) (1) rfl) (show dkN [(-1, -1)] (I255 340 8) from dkN_sub (by rw [hF255 340 8 rfl]; exact (by rw [eI254, dkU_ss]; exact (dkN_lit (x := (-1)) (-1) rfl))) rfl) hO) (cwV 2 hts gX6_town_X6_takes rfl rfl rfl (by decide +kernel) ⟨Nat.le_of_ble_eq_true rfl, Nat.le_of_ble_eq_true rfl⟩) (dk_at340 hW) rfl hK hT hW hS rfl hl.1 rfl (Nat.le_of_ble_eq_true rfl) dX6_town_59 ⟨Nat.zero_le _, Nat.zero_le _⟩ (fun v268 I268 H268 L268 hp268 hW hS => ?_)
          obtain ⟨hF268, hO, hc268⟩ := hp268
          have hF := dkF_call hF hF268 rfl
          have hP := dkPP_F hP hF268 rfl
          obtain ⟨dv268, f268_340_7, f268_340_8, x268_0, x268_1, xr268, xh268_0, xh268_1, xh268_2, xh268_3, xh268_4, xh268_5, -⟩ := hc268
          have w269 : I255 340 8 = (-1) := ((hF255 340 8 rfl).trans (by rw [eI254, dkU_ss]))
          have y270 : I268 340 7 = 1 := by have h := xh268_0; exact h
          have w271 : I255 340 10 = 0 := y260
          have y272 : I268 340 8 = 0 := by have h := xh268_1; rw [w271] at h; exact h
          have w273 : I255 340 9 = dkTe (I0 345) (I0 340 6) (0) := y259
          have y274 : I268 340 9 = dkTe (I0 345) (I0 340 6) (0) := by have h := xh268_2; rw [w273] at h; exact h
          have y275 : I268 340 10 = 0 := by have h := xh268_3; rw [w271] at h; exact h
          have w276 : I255 340 11 = dkTk (I0 345) (I0 340 6) (0) := y261
          have y277 : I268 340 11 = dkTk (I0 345) (I0 340 6) (0) := by have h := xh268_4; rw [w276] at h; exact h
          have w278 : I255 340 12 = dkTv (I0 345) (I0 340 6) (0) := y262
          have y279 : I268 340 12 = dkTv (I0 345) (I0 340 6) (0) := by have h := xh268_5; rw [w278] at h; exact h
          have xv268 : v268 = 0 := by have h := xr268; exact h
          refine lv_pop hx hb dX6_town_62 rfl ?_
          refine lv_aload_n hx hb dX6_town_63 rfl (lv_at hl 0 rfl) ?_
          refine dk_get (k := 340) hx hb hts iX6_town_6 hown hK (dk_at340 hW) rfl 14 (by decide) (hts (.fieldLink RX6 28 "DogKingsModel" "draft" "[I") (List.mem_of_getElem? (i := 1) rfl)) rfl dX6_town_64 ?_
          refine lv_iconst (v := 0) hx hb dX6_town_67 (by decide) ?_
          refine lv_aload_n hx hb dX6_town_68 rfl (lv_at hl 0 rfl) ?_
          refine lv_iconst (v := 3) hx hb dX6_town_69 (by decide) ?_
          refine lv_bipush (v := 9) hx hb dX6_town_70 (by decide) ?_
          refine dk_Vi (As := [.int 3, .int 9]) (rest := [.int 0, .ref (z + 347)]) ⟨hx, hb, hml, hown, hts⟩ (h_X6_figure_0 l g z I268 3 9 (show dkN [(0, 90)] (I268 340 8) from dkN_sub f268_340_8 rfl) hO) (cwV 2 hts gX6_town_X6_figure rfl rfl rfl (by decide +kernel) ⟨Nat.le_of_ble_eq_true rfl, Nat.le_of_ble_eq_true rfl⟩) (dk_at340 hW) rfl hK hT hW hS rfl hl.1 rfl (Nat.le_of_ble_eq_true rfl) dX6_town_72 ⟨Nat.zero_le _, Nat.zero_le _⟩ (fun v280 I280 H280 L280 hp280 hW hS => ?_)
          obtain ⟨hF280, hO, hc280⟩ := hp280
          have hF := dkF_call hF hF280 rfl
          have hP := dkPP_F hP hF280 rfl
          have eI280 : I268 = I280 := (dkF_nil hF280).symm
          subst eI280
          obtain ⟨dv280, xr280, -⟩ := hc280
          have xv280 : v280 = 0 := by have h := xr280; exact h
          refine dk_ist (k := 347) hx hb hK hW (fun _ => rfl) (by decide) hS (dkN_in (n := 54) (dkN_lit (x := 0) (0) rfl) rfl) dX6_town_75 (fun I281 H281 L281 eI281 hW hS => ?_)
          have eI281 : I281 = dkU I268 347 0 v280 := eI281
          have hO := dkO_set hO eI281 (dkN_sub dv280 rfl)
          have hF := dkF_set hF eI281 rfl
          have hP := dkPP_set hP eI281 rfl
          refine lv_aload_n hx hb dX6_town_76 rfl (lv_at hl 0 rfl) ?_
          refine dk_get (k := 340) hx hb hts iX6_town_6 hown hK (dk_at340 hW) rfl 14 (by decide) (hts (.fieldLink RX6 28 "DogKingsModel" "draft" "[I") (List.mem_of_getElem? (i := 1) rfl)) rfl dX6_town_77 ?_
          refine lv_iconst (v := 1) hx hb dX6_town_80 (by decide) ?_
          refine lv_aload_n hx hb dX6_town_81 rfl (lv_at hl 0 rfl) ?_
          refine lv_iconst (v := 1) hx hb dX6_town_82 (by decide) ?_
          refine lv_bipush (v := 30) hx hb dX6_town_83 (by decide) ?_
          refine dk_Vi (As := [.int 1, .int 30]) (rest := [.int 1, .ref (z + 347)]) ⟨hx, hb, hml, hown, hts⟩ (h_X6_follows_0 l g z I281 1 30 (show dkN [(0, 90)] (I281 340 8) from dkN_sub (by rw [eI281, dkU_n (by decide)]; exact (by rw [hF280 340 8 rfl]; exact f268_340_8)) rfl) hO) (cwV 2 hts gX6_town_X6_follows rfl rfl rfl (by decide +kernel) ⟨Nat.le_of_ble_eq_true rfl, Nat.le_of_ble_eq_true rfl⟩) (dk_at340 hW) rfl hK hT hW hS rfl hl.1 rfl (Nat.le_of_ble_eq_true rfl) dX6_town_85 ⟨Nat.zero_le _, Nat.zero_le _⟩ (fun v282 I282 H282 L282 hp282 hW hS => ?_)
          obtain ⟨hF282, hO, hc282⟩ := hp282
          have hF := dkF_call hF hF282 rfl
          have hP := dkPP_F hP hF282 rfl
          have eI282 : I281 = I282 := (dkF_nil hF282).symm
          subst eI282
          obtain ⟨dv282, xr282, -⟩ := hc282
          have xv282 : v282 = 0 := by have h := xr282; exact h
          refine dk_ist (k := 347) hx hb hK hW (fun _ => rfl) (by decide) hS (dkN_in (n := 54) (dkN_lit (x := 1) (1) rfl) rfl) dX6_town_88 (fun I283 H283 L283 eI283 hW hS => ?_)
          have eI283 : I283 = dkU I281 347 1 v282 := eI283
          have hO := dkO_set hO eI283 (dkN_sub dv282 rfl)
          have hF := dkF_set hF eI283 rfl
          have hP := dkPP_set hP eI283 rfl
          refine lv_aload_n hx hb dX6_town_89 rfl (lv_at hl 0 rfl) ?_
          refine lv_aload_n hx hb dX6_town_90 rfl (lv_at hl 0 rfl) ?_
          refine dk_get (k := 340) hx hb hts iX6_town_6 hown hK (dk_at340 hW) rfl 11 (by decide) (hts (.fieldLink RX6 98 "DogKingsModel" "token" "I") (List.mem_of_getElem? (i := 4) rfl)) rfl dX6_town_91 ?_
          refine lv_topi (fun v284 ev284 => ?_)
          have dv284 : dkN [(0, 0), (2, 5)] v284 := by rw [ev284]; exact (by rw [eI283, dkU_n (by decide)]; exact (by rw [hF282 340 11 rfl]; exact (by rw [eI281, dkU_n (by decide)]; exact (by rw [hF280 340 11 rfl]; exact (by rw [hF268 340 11 rfl]; exact f267)))))
          have xv284 : v284 = dkTk (I0 345) (I0 340 6) (0) := ev284.trans ((by rw [eI283, dkU_n (by decide)] : I283 340 11 = _).trans ((hF282 340 11 rfl).trans ((by rw [eI281, dkU_n (by decide)] : I281 340 11 = _).trans ((hF280 340 11 rfl).trans y277))))
          refine lv_iconst (v := 4) hx hb dX6_town_94 (by decide) ?_
          refine lv_icmp_ne (tgt := 102) hx hb dX6_town_95 (by decide) (fun c285 => ?_) (fun c285 => ?_)
          ·
            have q286 : (dkTk (I0 345) (I0 340 6) (0)).toInt ≠ (4 : Int) := by first | (rw [← xv284]; exact (dk_ne c285)) | (subst xv284; exact (dk_ne c285))
            have d287 : dkN [(0, 0), (2, 3), (5, 5)] v284 := dkN_ne1 (4) dv284 (dkN_lit (x := 4) (4) rfl) (dk_ne c285) rfl
            have f288 : dkN [(0, 0), (2, 3), (5, 5)] (I283 340 11) := by rw [← ev284]; exact d287
            refine lv_iconst (v := 0) hx hb dX6_town_102 (by decide) ?_
            refine lv_iconst (v := 1) hx hb dX6_town_103 (by decide) ?_
            refine dk_Vi (As := [.int 0, .int 1]) (rest := []) ⟨hx, hb, hml, hown, hts⟩ (h_X6_takes_0 l g z I283 0 1 (show dkN [(0, 90)] (I283 340 8) from dkN_sub (by rw [eI283, dkU_n (by decide)]; exact (by rw [hF282 340 8 rfl]; exact (by rw [eI281, dkU_n (by decide)]; exact (by rw [hF280 340 8 rfl]; exact f268_340_8)))) rfl) hO) (cwV 2 hts gX6_town_X6_takes rfl rfl rfl (by decide +kernel) ⟨Nat.le_of_ble_eq_true rfl, Nat.le_of_ble_eq_true rfl⟩) (dk_at340 hW) rfl hK hT hW hS rfl hl.1 rfl (Nat.le_of_ble_eq_true rfl) dX6_town_104 ⟨Nat.zero_le _, Nat.zero_le _⟩ (fun v289 I289 H289 L289 hp289 hW hS => ?_)
            obtain ⟨hF289, hO, hc289⟩ := hp289
            have hF := dkF_call hF hF289 rfl
            have hP := dkPP_F hP hF289 rfl
            have eI289 : I283 = I289 := (dkF_nil hF289).symm
            subst eI289
            obtain ⟨dv289, xr289, -⟩ := hc289
            have xv289 : v289 = 0 := by have h := xr289; exact h
            refine lv_pop hx hb dX6_town_107 rfl ?_
            refine lv_aload_n hx hb dX6_town_108 rfl (lv_at hl 0 rfl) ?_
            refine lv_aload_n hx hb dX6_town_109 rfl (lv_at hl 0 rfl) ?_
            refine dk_get (k := 340) hx hb hts iX6_town_6 hown hK (dk_at340 hW) rfl 11 (by decide) (hts (.fieldLink RX6 98 "DogKingsModel" "token" "I") (List.mem_of_getElem? (i := 4) rfl)) rfl dX6_town_110 ?_
            refine lv_topi (fun v290 ev290 => ?_)
            have dv290 : dkN [(0, 0), (2, 3), (5, 5)] v290 := by rw [ev290]; exact (by rw [hF289 340 11 rfl]; exact f288)
            have xv290 : v290 = dkTk (I0 345) (I0 340 6) (0) := ev290.trans ((hF289 340 11 rfl).trans ((by rw [eI283, dkU_n (by decide)] : I283 340 11 = _).trans ((hF282 340 11 rfl).trans ((by rw [eI281, dkU_n (by decide)] : I281 340 11 = _).trans ((hF280 340 11 rfl).trans y277)))))
            refine lv_iconst (v := 1) hx hb dX6_town_113 (by decide) ?_
            refine lv_icmp_ne (tgt := 130) hx hb dX6_town_114 (by decide) (fun c291 => ?_) (fun c291 => ?_)
            ·
              refine lv_iconst (v := 0) hx hb dX6_town_130 (by decide) ?_
              have i0 : (0 : Int32).toInt = 0 := rfl
              have i1 : (1 : Int32).toInt = 1 := rfl
              have i2 : (2 : Int32).toInt = 2 := rfl
              have i3 : (3 : Int32).toInt = 3 := rfl
              have i9 : (9 : Int32).toInt = 9 := rfl
              have i30 : (30 : Int32).toInt = 30 := rfl
              have i44 : (44 : Int32).toInt = 44 := rfl
              have i59 : (59 : Int32).toInt = 59 := rfl
              have i109 : (109 : Int32).toInt = 109 := rfl
              have i116 : (116 : Int32).toInt = 116 := rfl
              have e292 : dkTw (I0 345) (I0 340 6) = (1, 0) := dkTw_l (dkTh_q (dkK_ln (T := (I0 345)) (n := (I0 340 6)) (a := 0) (c := 116) (by omega) (by omega)) (by decide)) (by decide)
              exact C131 I283 _ _ ls x2_1 0 hW hS hF hO hP (dkN_sub d252 rfl) (dkN_sub (dkN_lit (x := 0) (0) rfl) rfl) (show dkN [(1, 2)] (I283 340 7) from dkN_sub (by rw [hF289 340 7 rfl]; exact (by rw [eI283, dkU_n (by decide)]; exact (by rw [hF282 340 7 rfl]; exact (by rw [eI281, dkU_n (by decide)]; exact (by rw [hF280 340 7 rfl]; exact f268_340_7))))) rfl) (show dkN [(0, 90)] (I283 340 8) from dkN_sub (by rw [hF289 340 8 rfl]; exact (by rw [eI283, dkU_n (by decide)]; exact (by rw [hF282 340 8 rfl]; exact (by rw [eI281, dkU_n (by decide)]; exact (by rw [hF280 340 8 rfl]; exact f268_340_8))))) rfl) (show dkN [(0, 0), (3, 9)] (I283 347 0) from dkN_sub (by rw [hF289 347 0 rfl]; exact (by rw [eI283, dkU_sn (by decide)]; exact (by rw [hF282 347 0 rfl]; exact (by rw [eI281, dkU_ss]; exact dv280)))) rfl) (show dkN [(0, 0)] (I283 347 4) from dkN_sub (by rw [hF289 347 4 rfl]; exact (by rw [eI283, dkU_sn (by decide)]; exact (by rw [hF282 347 4 rfl]; exact (by rw [eI281, dkU_sn (by decide)]; exact (by rw [hF280 347 4 rfl]; exact (by rw [hF268 347 4 rfl]; exact (by rw [hF255 347 4 rfl]; exact (by rw [eI254, dkU_n (by decide)]; exact (by rw [eI253, dkU_n (by decide)]; exact (dkN_lit (0) (by rw [hz4]; rfl))))))))))) rfl) (show dkN [(0, 0)] (I283 347 5) from dkN_sub (by rw [hF289 347 5 rfl]; exact (by rw [eI283, dkU_sn (by decide)]; exact (by rw [hF282 347 5 rfl]; exact (by rw [eI281, dkU_sn (by decide)]; exact (by rw [hF280 347 5 rfl]; exact (by rw [hF268 347 5 rfl]; exact (by rw [hF255 347 5 rfl]; exact (by rw [eI254, dkU_n (by decide)]; exact (by rw [eI253, dkU_n (by decide)]; exact (dkN_lit (0) (by rw [hz5]; rfl))))))))))) rfl) ((funext fun j => hF289 345 j dkNin_nil).trans ((by rw [eI283, dkU_n (by decide)] : I283 345 = _).trans ((funext fun j => hF282 345 j dkNin_nil).trans ((by rw [eI281, dkU_n (by decide)] : I281 345 = _).trans ((funext fun j => hF280 345 j dkNin_nil).trans ((funext fun j => hF268 345 j (dkNin_k rfl dkNin_nil)).trans ((funext fun j => hF255 345 j (dkNin_k rfl dkNin_nil)).trans ((by rw [eI254, dkU_n (by decide)] : I254 345 = _).trans ((by rw [eI253, dkU_n (by decide)] : I253 345 = _).trans z2_0))))))))) ((hF289 340 17 rfl).trans ((by rw [eI283, dkU_n (by decide)] : I283 340 17 = _).trans ((hF282 340 17 rfl).trans ((by rw [eI281, dkU_n (by decide)] : I281 340 17 = _).trans ((hF280 340 17 rfl).trans ((hF268 340 17 rfl).trans ((hF255 340 17 rfl).trans ((by rw [eI254, dkU_sn (by decide)] : I254 340 17 = _).trans ((by rw [eI253, dkU_sn (by decide)] : I253 340 17 = _).trans zp2_0))))))))) ((hF289 340 6 rfl).trans ((by rw [eI283, dkU_n (by decide)] : I283 340 6 = _).trans ((hF282 340 6 rfl).trans ((by rw [eI281, dkU_n (by decide)] : I281 340 6 = _).trans ((hF280 340 6 rfl).trans ((hF268 340 6 rfl).trans ((hF255 340 6 rfl).trans ((by rw [eI254, dkU_sn (by decide)] : I254 340 6 = _).trans ((by rw [eI253, dkU_sn (by decide)] : I253 340 6 = _).trans zp2_1))))))))) ((hF289 346 0 rfl).trans ((by rw [eI283, dkU_n (by decide)] : I283 346 0 = _).trans ((hF282 346 0 rfl).trans ((by rw [eI281, dkU_n (by decide)] : I281 346 0 = _).trans ((hF280 346 0 rfl).trans ((hF268 346 0 rfl).trans ((hF255 346 0 rfl).trans ((by rw [eI254, dkU_n (by decide)] : I254 346 0 = _).trans ((by rw [eI253, dkU_n (by decide)] : I253 346 0 = _).trans zp2_3))))))))) ((hF289 346 4 rfl).trans ((by rw [eI283, dkU_n (by decide)] : I283 346 4 = _).trans ((hF282 346 4 rfl).trans ((by rw [eI281, dkU_n (by decide)] : I281 346 4 = _).trans ((hF280 346 4 rfl).trans ((hF268 346 4 rfl).trans ((hF255 346 4 rfl).trans ((by rw [eI254, dkU_n (by decide)] : I254 346 4 = _).trans ((by rw [eI253, dkU_n (by decide)] : I253 346 4 = _).trans zp2_4))))))))) ((hF289 346 5 rfl).trans ((by rw [eI283, dkU_n (by decide)] : I283 346 5 = _).trans ((hF282 346 5 rfl).trans ((by rw [eI281, dkU_n (by decide)] : I281 346 5 = _).trans ((hF280 346 5 rfl).trans ((hF268 346 5 rfl).trans ((hF255 346 5 rfl).trans ((by rw [eI254, dkU_n (by decide)] : I254 346 5 = _).trans ((by rw [eI253, dkU_n (by decide)] : I253 346 5 = _).trans zp2_5))))))))) ⟨(dkE_k e292 (by decide)), (((show I283 340 7 = 1 from ((hF289 340 7 rfl).trans ((by rw [eI283, dkU_n (by decide)] : I283 340 7 = _).trans ((hF282 340 7 rfl).trans ((by rw [eI281, dkU_n (by decide)] : I281 340 7 = _).trans ((hF280 340 7 rfl).trans y270))))))).trans (dkP_1 e292).symm), (((show I283 340 8 = 0 from ((hF289 340 8 rfl).trans ((by rw [eI283, dkU_n (by decide)] : I283 340 8 = _).trans ((hF282 340 8 rfl).trans ((by rw [eI281, dkU_n (by decide)] : I281 340 8 = _).trans ((hF280 340 8 rfl).trans y272))))))).trans (dkP_2 e292).symm)⟩ (lv_sub hl [0, 1] rfl)
            ·
              exact (dkN_nil (show dkN [] v290 from dkN_eq1 dv290 (dkN_lit (x := 1) (1) rfl) (congrArg Int32.toInt c291) rfl)).elim
          ·
            have q293 : (dkTk (I0 345) (I0 340 6) (0)).toInt = (4 : Int) := by first | (rw [← xv284]; exact (congrArg Int32.toInt c285)) | (subst xv284; exact (congrArg Int32.toInt c285))
            have d294 : dkN [(4, 4)] v284 := dkN_eq1 dv284 (dkN_lit (x := 4) (4) rfl) (congrArg Int32.toInt c285) rfl
            have f295 : dkN [(4, 4)] (I283 340 11) := by rw [← ev284]; exact d294
            refine lv_iconst (v := 1) hx hb dX6_town_98 (by decide) ?_
            refine lv_goto (tgt := 103) hx hb dX6_town_99 (by decide) ?_
            refine lv_iconst (v := 1) hx hb dX6_town_103 (by decide) ?_
            refine dk_Vi (As := [.int 1, .int 1]) (rest := []) ⟨hx, hb, hml, hown, hts⟩ (h_X6_takes_0 l g z I283 1 1 (show dkN [(0, 90)] (I283 340 8) from dkN_sub (by rw [eI283, dkU_n (by decide)]; exact (by rw [hF282 340 8 rfl]; exact (by rw [eI281, dkU_n (by decide)]; exact (by rw [hF280 340 8 rfl]; exact f268_340_8)))) rfl) hO) (cwV 2 hts gX6_town_X6_takes rfl rfl rfl (by decide +kernel) ⟨Nat.le_of_ble_eq_true rfl, Nat.le_of_ble_eq_true rfl⟩) (dk_at340 hW) rfl hK hT hW hS rfl hl.1 rfl (Nat.le_of_ble_eq_true rfl) dX6_town_104 ⟨Nat.zero_le _, Nat.zero_le _⟩ (fun v296 I296 H296 L296 hp296 hW hS => ?_)
            obtain ⟨hF296, hO, hc296⟩ := hp296
            have hF := dkF_call hF hF296 rfl
            have hP := dkPP_F hP hF296 rfl
            have eI296 : I283 = I296 := (dkF_nil hF296).symm
            subst eI296
            obtain ⟨dv296, xr296, -⟩ := hc296
            have xv296 : v296 = 0 := by have h := xr296; exact h
            refine lv_pop hx hb dX6_town_107 rfl ?_
            refine lv_aload_n hx hb dX6_town_108 rfl (lv_at hl 0 rfl) ?_
            refine lv_aload_n hx hb dX6_town_109 rfl (lv_at hl 0 rfl) ?_
            refine dk_get (k := 340) hx hb hts iX6_town_6 hown hK (dk_at340 hW) rfl 11 (by decide) (hts (.fieldLink RX6 98 "DogKingsModel" "token" "I") (List.mem_of_getElem? (i := 4) rfl)) rfl dX6_town_110 ?_
            refine lv_topi (fun v297 ev297 => ?_)
            have dv297 : dkN [(4, 4)] v297 := by rw [ev297]; exact (by rw [hF296 340 11 rfl]; exact f295)
            have xv297 : v297 = dkTk (I0 345) (I0 340 6) (0) := ev297.trans ((hF296 340 11 rfl).trans ((by rw [eI283, dkU_n (by decide)] : I283 340 11 = _).trans ((hF282 340 11 rfl).trans ((by rw [eI281, dkU_n (by decide)] : I281 340 11 = _).trans ((hF280 340 11 rfl).trans y277)))))
            refine lv_iconst (v := 1) hx hb dX6_town_113 (by decide) ?_
            refine lv_icmp_ne (tgt := 130) hx hb dX6_town_114 (by decide) (fun c298 => ?_) (fun c298 => ?_)
            ·
              refine lv_iconst (v := 0) hx hb dX6_town_130 (by decide) ?_
              have i0 : (0 : Int32).toInt = 0 := rfl
              have i1 : (1 : Int32).toInt = 1 := rfl
              have i2 : (2 : Int32).toInt = 2 := rfl
              have i3 : (3 : Int32).toInt = 3 := rfl
              have i9 : (9 : Int32).toInt = 9 := rfl
              have i30 : (30 : Int32).toInt = 30 := rfl
              have i44 : (44 : Int32).toInt = 44 := rfl
              have i59 : (59 : Int32).toInt = 59 := rfl
              have i109 : (109 : Int32).toInt = 109 := rfl
              have i116 : (116 : Int32).toInt = 116 := rfl
              have e299 : dkTw (I0 345) (I0 340 6) = (1, 0) := dkTw_l (dkTh_q (dkK_ln (T := (I0 345)) (n := (I0 340 6)) (a := 0) (c := 116) (by omega) (by omega)) (by decide)) (by decide)
              exact C131 I283 _ _ ls x2_1 0 hW hS hF hO hP (dkN_sub d252 rfl) (dkN_sub (dkN_lit (x := 0) (0) rfl) rfl) (show dkN [(1, 2)] (I283 340 7) from dkN_sub (by rw [hF296 340 7 rfl]; exact (by rw [eI283, dkU_n (by decide)]; exact (by rw [hF282 340 7 rfl]; exact (by rw [eI281, dkU_n (by decide)]; exact (by rw [hF280 340 7 rfl]; exact f268_340_7))))) rfl) (show dkN [(0, 90)] (I283 340 8) from dkN_sub (by rw [hF296 340 8 rfl]; exact (by rw [eI283, dkU_n (by decide)]; exact (by rw [hF282 340 8 rfl]; exact (by rw [eI281, dkU_n (by decide)]; exact (by rw [hF280 340 8 rfl]; exact f268_340_8))))) rfl) (show dkN [(0, 0), (3, 9)] (I283 347 0) from dkN_sub (by rw [hF296 347 0 rfl]; exact (by rw [eI283, dkU_sn (by decide)]; exact (by rw [hF282 347 0 rfl]; exact (by rw [eI281, dkU_ss]; exact dv280)))) rfl) (show dkN [(0, 0)] (I283 347 4) from dkN_sub (by rw [hF296 347 4 rfl]; exact (by rw [eI283, dkU_sn (by decide)]; exact (by rw [hF282 347 4 rfl]; exact (by rw [eI281, dkU_sn (by decide)]; exact (by rw [hF280 347 4 rfl]; exact (by rw [hF268 347 4 rfl]; exact (by rw [hF255 347 4 rfl]; exact (by rw [eI254, dkU_n (by decide)]; exact (by rw [eI253, dkU_n (by decide)]; exact (dkN_lit (0) (by rw [hz4]; rfl))))))))))) rfl) (show dkN [(0, 0)] (I283 347 5) from dkN_sub (by rw [hF296 347 5 rfl]; exact (by rw [eI283, dkU_sn (by decide)]; exact (by rw [hF282 347 5 rfl]; exact (by rw [eI281, dkU_sn (by decide)]; exact (by rw [hF280 347 5 rfl]; exact (by rw [hF268 347 5 rfl]; exact (by rw [hF255 347 5 rfl]; exact (by rw [eI254, dkU_n (by decide)]; exact (by rw [eI253, dkU_n (by decide)]; exact (dkN_lit (0) (by rw [hz5]; rfl))))))))))) rfl) ((funext fun j => hF296 345 j dkNin_nil).trans ((by rw [eI283, dkU_n (by decide)] : I283 345 = _).trans ((funext fun j => hF282 345 j dkNin_nil).trans ((by rw [eI281, dkU_n (by decide)] : I281 345 = _).trans ((funext fun j => hF280 345 j dkNin_nil).trans ((funext fun j => hF268 345 j (dkNin_k rfl dkNin_nil)).trans ((funext fun j => hF255 345 j (dkNin_k rfl dkNin_nil)).trans ((by rw [eI254, dkU_n (by decide)] : I254 345 = _).trans ((by rw [eI253, dkU_n (by decide)] : I253 345 = _).trans z2_0))))))))) ((hF296 340 17 rfl).trans ((by rw [eI283, dkU_n (by decide)] : I283 340 17 = _).trans ((hF282 340 17 rfl).trans ((by rw [eI281, dkU_n (by decide)] : I281 340 17 = _).trans ((hF280 340 17 rfl).trans ((hF268 340 17 rfl).trans ((hF255 340 17 rfl).trans ((by rw [eI254, dkU_sn (by decide)] : I254 340 17 = _).trans ((by rw [eI253, dkU_sn (by decide)] : I253 340 17 = _).trans zp2_0))))))))) ((hF296 340 6 rfl).trans ((by rw [eI283, dkU_n (by decide)] : I283 340 6 = _).trans ((hF282 340 6 rfl).trans ((by rw [eI281, dkU_n (by decide)] : I281 340 6 = _).trans ((hF280 340 6 rfl).trans ((hF268 340 6 rfl).trans ((hF255 340 6 rfl).trans ((by rw [eI254, dkU_sn (by decide)] : I254 340 6 = _).trans ((by rw [eI253, dkU_sn (by decide)] : I253 340 6 = _).trans zp2_1))))))))) ((hF296 346 0 rfl).trans ((by rw [eI283, dkU_n (by decide)] : I283 346 0 = _).trans ((hF282 346 0 rfl).trans ((by rw [eI281, dkU_n (by decide)] : I281 346 0 = _).trans ((hF280 346 0 rfl).trans ((hF268 346 0 rfl).trans ((hF255 346 0 rfl).trans ((by rw [eI254, dkU_n (by decide)] : I254 346 0 = _).trans ((by rw [eI253, dkU_n (by decide)] : I253 346 0 = _).trans zp2_3))))))))) ((hF296 346 4 rfl).trans ((by rw [eI283, dkU_n (by decide)] : I283 346 4 = _).trans ((hF282 346 4 rfl).trans ((by rw [eI281, dkU_n (by decide)] : I281 346 4 = _).trans ((hF280 346 4 rfl).trans ((hF268 346 4 rfl).trans ((hF255 346 4 rfl).trans ((by rw [eI254, dkU_n (by decide)] : I254 346 4 = _).trans ((by rw [eI253, dkU_n (by decide)] : I253 346 4 = _).trans zp2_4))))))))) ((hF296 346 5 rfl).trans ((by rw [eI283, dkU_n (by decide)] : I283 346 5 = _).trans ((hF282 346 5 rfl).trans ((by rw [eI281, dkU_n (by decide)] : I281 346 5 = _).trans ((hF280 346 5 rfl).trans ((hF268 346 5 rfl).trans ((hF255 346 5 rfl).trans ((by rw [eI254, dkU_n (by decide)] : I254 346 5 = _).trans ((by rw [eI253, dkU_n (by decide)] : I253 346 5 = _).trans zp2_5))))))))) ⟨(dkE_k e299 (by decide)), (((show I283 340 7 = 1 from ((hF296 340 7 rfl).trans ((by rw [eI283, dkU_n (by decide)] : I283 340 7 = _).trans ((hF282 340 7 rfl).trans ((by rw [eI281, dkU_n (by decide)] : I281 340 7 = _).trans ((hF280 340 7 rfl).trans y270))))))).trans (dkP_1 e299).symm), (((show I283 340 8 = 0 from ((hF296 340 8 rfl).trans ((by rw [eI283, dkU_n (by decide)] : I283 340 8 = _).trans ((hF282 340 8 rfl).trans ((by rw [eI281, dkU_n (by decide)] : I281 340 8 = _).trans ((hF280 340 8 rfl).trans y272))))))).trans (dkP_2 e299).symm)⟩ (lv_sub hl [0, 1] rfl)
            ·
              exact (dkN_nil (show dkN [] v297 from dkN_eq1 dv297 (dkN_lit (x := 1) (1) rfl) (congrArg Int32.toInt c298) rfl)).elim
        ·
          have q300 : (dkTk (I0 345) (I0 340 6) (0)).toInt = (1 : Int) := by first | (rw [← xv263]; exact (congrArg Int32.toInt c264)) | (subst xv263; exact (congrArg Int32.toInt c264))
          have d301 : dkN [(1, 1)] v263 := dkN_eq1 dv263 (dkN_lit (x := 1) (1) rfl) (congrArg Int32.toInt c264) rfl
          have f302 : dkN [(1, 1)] (I255 340 11) := by rw [← ev263]; exact d301
          refine lv_aload_n hx hb dX6_town_44 rfl (lv_at hl 0 rfl) ?_
          refine dk_get (k := 340) hx hb hts iX6_town_6 hown hK (dk_at340 hW) rfl 12 (by decide) (hts (.fieldLink RX6 95 "DogKingsModel" "value" "I") (List.mem_of_getElem? (i := 5) rfl)) rfl dX6_town_45 ?_
          refine lv_topi (fun v303 ev303 => ?_)
          have xv303 : v303 = dkTv (I0 345) (I0 340 6) (0) := ev303.trans y262
          refine lv_bipush (v := 116) hx hb dX6_town_48 (by decide) ?_
          refine lv_icmp_ne (tgt := 57) hx hb dX6_town_50 (by decide) (fun c304 => ?_) (fun c304 => ?_)
          ·
            have q305 : (dkTv (I0 345) (I0 340 6) (0)).toInt ≠ (116 : Int) := by first | (rw [← xv303]; exact (dk_ne c304)) | (subst xv303; exact (dk_ne c304))
            have d306 : dkN [(-2147483648, 115), (117, 2147483647)] v303 := dkN_ne1 (116) (dkN_top v303) (dkN_lit (x := 116) (116) rfl) (dk_ne c304) rfl
            have f307 : dkN [(-2147483648, 115), (117, 2147483647)] (I255 340 12) := by rw [← ev303]; exact d306
            refine lv_iconst (v := 0) hx hb dX6_town_57 (by decide) ?_
            refine lv_iconst (v := 1) hx hb dX6_town_58 (by decide) ?_
            refine dk_Vi (As := [.int 0, .int 1]) (rest := []) ⟨hx, hb, hml, hown, hts⟩ (fx_X6_takes_33 l g z I255 0 1 (dkN_lit (x := 0) (0) rfl) (dkN_lit (x := 1) (1) rfl) (show dkN [(-2147483648, 115), (117, 2147483647)] (I255 340 12) from dkN_sub f307 rfl) (show dkN [(-1, -1)] (I255 340 8) from dkN_sub (by rw [hF255 340 8 rfl]; exact (by rw [eI254, dkU_ss]; exact (dkN_lit (x := (-1)) (-1) rfl))) rfl) hO) (cwV 2 hts gX6_town_X6_takes rfl rfl rfl (by decide +kernel) ⟨Nat.le_of_ble_eq_true rfl, Nat.le_of_ble_eq_true rfl⟩) (dk_at340 hW) rfl hK hT hW hS rfl hl.1 rfl (Nat.le_of_ble_eq_true rfl) dX6_town_59 ⟨Nat.zero_le _, Nat.zero_le _⟩ (fun v308 I308 H308 L308 hp308 hW hS => ?_)
            obtain ⟨hF308, hO, hc308⟩ := hp308
            have hF := dkF_call hF hF308 rfl
            have hP := dkPP_F hP hF308 rfl
            obtain ⟨dv308, f308_340_12, f308_340_7, f308_340_8, x308_0, x308_1, xr308, xh308_0, xh308_1, xh308_2, xh308_3, xh308_4, xh308_5, -⟩ := hc308
            have w309 : I255 340 8 = (-1) := ((hF255 340 8 rfl).trans (by rw [eI254, dkU_ss]))
            have y310 : I308 340 7 = 1 := by have h := xh308_0; exact h
            have w311 : I255 340 10 = 0 := y260
            have y312 : I308 340 8 = 0 := by have h := xh308_1; rw [w311] at h; exact h
            have w313 : I255 340 9 = dkTe (I0 345) (I0 340 6) (0) := y259
            have y314 : I308 340 9 = dkTe (I0 345) (I0 340 6) (0) := by have h := xh308_2; rw [w313] at h; exact h
            have y315 : I308 340 10 = 0 := by have h := xh308_3; rw [w311] at h; exact h
            have w316 : I255 340 11 = dkTk (I0 345) (I0 340 6) (0) := y261
            have y317 : I308 340 11 = dkTk (I0 345) (I0 340 6) (0) := by have h := xh308_4; rw [w316] at h; exact h
            have w318 : I255 340 12 = dkTv (I0 345) (I0 340 6) (0) := y262
            have y319 : I308 340 12 = dkTv (I0 345) (I0 340 6) (0) := by have h := xh308_5; rw [w318] at h; exact h
            have xv308 : v308 = 0 := by have h := xr308; exact h
            refine lv_pop hx hb dX6_town_62 rfl ?_
            refine lv_aload_n hx hb dX6_town_63 rfl (lv_at hl 0 rfl) ?_
            refine dk_get (k := 340) hx hb hts iX6_town_6 hown hK (dk_at340 hW) rfl 14 (by decide) (hts (.fieldLink RX6 28 "DogKingsModel" "draft" "[I") (List.mem_of_getElem? (i := 1) rfl)) rfl dX6_town_64 ?_
            refine lv_iconst (v := 0) hx hb dX6_town_67 (by decide) ?_
            refine lv_aload_n hx hb dX6_town_68 rfl (lv_at hl 0 rfl) ?_
            refine lv_iconst (v := 3) hx hb dX6_town_69 (by decide) ?_
            refine lv_bipush (v := 9) hx hb dX6_town_70 (by decide) ?_
            refine dk_Vi (As := [.int 3, .int 9]) (rest := [.int 0, .ref (z + 347)]) ⟨hx, hb, hml, hown, hts⟩ (h_X6_figure_0 l g z I308 3 9 (show dkN [(0, 90)] (I308 340 8) from dkN_sub f308_340_8 rfl) hO) (cwV 2 hts gX6_town_X6_figure rfl rfl rfl (by decide +kernel) ⟨Nat.le_of_ble_eq_true rfl, Nat.le_of_ble_eq_true rfl⟩) (dk_at340 hW) rfl hK hT hW hS rfl hl.1 rfl (Nat.le_of_ble_eq_true rfl) dX6_town_72 ⟨Nat.zero_le _, Nat.zero_le _⟩ (fun v320 I320 H320 L320 hp320 hW hS => ?_)
            obtain ⟨hF320, hO, hc320⟩ := hp320
            have hF := dkF_call hF hF320 rfl
            have hP := dkPP_F hP hF320 rfl
            have eI320 : I308 = I320 := (dkF_nil hF320).symm
            subst eI320
            obtain ⟨dv320, xr320, -⟩ := hc320
            have xv320 : v320 = 0 := by have h := xr320; exact h
            refine dk_ist (k := 347) hx hb hK hW (fun _ => rfl) (by decide) hS (dkN_in (n := 54) (dkN_lit (x := 0) (0) rfl) rfl) dX6_town_75 (fun I321 H321 L321 eI321 hW hS => ?_)
            have eI321 : I321 = dkU I308 347 0 v320 := eI321
            have hO := dkO_set hO eI321 (dkN_sub dv320 rfl)
            have hF := dkF_set hF eI321 rfl
            have hP := dkPP_set hP eI321 rfl
            refine lv_aload_n hx hb dX6_town_76 rfl (lv_at hl 0 rfl) ?_
            refine dk_get (k := 340) hx hb hts iX6_town_6 hown hK (dk_at340 hW) rfl 14 (by decide) (hts (.fieldLink RX6 28 "DogKingsModel" "draft" "[I") (List.mem_of_getElem? (i := 1) rfl)) rfl dX6_town_77 ?_
            refine lv_iconst (v := 1) hx hb dX6_town_80 (by decide) ?_
            refine lv_aload_n hx hb dX6_town_81 rfl (lv_at hl 0 rfl) ?_
            refine lv_iconst (v := 1) hx hb dX6_town_82 (by decide) ?_
            refine lv_bipush (v := 30) hx hb dX6_town_83 (by decide) ?_
            refine dk_Vi (As := [.int 1, .int 30]) (rest := [.int 1, .ref (z + 347)]) ⟨hx, hb, hml, hown, hts⟩ (h_X6_follows_0 l g z I321 1 30 (show dkN [(0, 90)] (I321 340 8) from dkN_sub (by rw [eI321, dkU_n (by decide)]; exact (by rw [hF320 340 8 rfl]; exact f308_340_8)) rfl) hO) (cwV 2 hts gX6_town_X6_follows rfl rfl rfl (by decide +kernel) ⟨Nat.le_of_ble_eq_true rfl, Nat.le_of_ble_eq_true rfl⟩) (dk_at340 hW) rfl hK hT hW hS rfl hl.1 rfl (Nat.le_of_ble_eq_true rfl) dX6_town_85 ⟨Nat.zero_le _, Nat.zero_le _⟩ (fun v322 I322 H322 L322 hp322 hW hS => ?_)
            obtain ⟨hF322, hO, hc322⟩ := hp322
            have hF := dkF_call hF hF322 rfl
            have hP := dkPP_F hP hF322 rfl
            have eI322 : I321 = I322 := (dkF_nil hF322).symm
            subst eI322
            obtain ⟨dv322, xr322, -⟩ := hc322
            have xv322 : v322 = 0 := by have h := xr322; exact h
            refine dk_ist (k := 347) hx hb hK hW (fun _ => rfl) (by decide) hS (dkN_in (n := 54) (dkN_lit (x := 1) (1) rfl) rfl) dX6_town_88 (fun I323 H323 L323 eI323 hW hS => ?_)
            have eI323 : I323 = dkU I321 347 1 v322 := eI323
            have hO := dkO_set hO eI323 (dkN_sub dv322 rfl)
            have hF := dkF_set hF eI323 rfl
            have hP := dkPP_set hP eI323 rfl
            refine lv_aload_n hx hb dX6_town_89 rfl (lv_at hl 0 rfl) ?_
            refine lv_aload_n hx hb dX6_town_90 rfl (lv_at hl 0 rfl) ?_
            refine dk_get (k := 340) hx hb hts iX6_town_6 hown hK (dk_at340 hW) rfl 11 (by decide) (hts (.fieldLink RX6 98 "DogKingsModel" "token" "I") (List.mem_of_getElem? (i := 4) rfl)) rfl dX6_town_91 ?_
            refine lv_topi (fun v324 ev324 => ?_)
            have dv324 : dkN [(1, 1)] v324 := by rw [ev324]; exact (by rw [eI323, dkU_n (by decide)]; exact (by rw [hF322 340 11 rfl]; exact (by rw [eI321, dkU_n (by decide)]; exact (by rw [hF320 340 11 rfl]; exact (by rw [hF308 340 11 rfl]; exact f302)))))
            have xv324 : v324 = dkTk (I0 345) (I0 340 6) (0) := ev324.trans ((by rw [eI323, dkU_n (by decide)] : I323 340 11 = _).trans ((hF322 340 11 rfl).trans ((by rw [eI321, dkU_n (by decide)] : I321 340 11 = _).trans ((hF320 340 11 rfl).trans y317))))
            refine lv_iconst (v := 4) hx hb dX6_town_94 (by decide) ?_
            refine lv_icmp_ne (tgt := 102) hx hb dX6_town_95 (by decide) (fun c325 => ?_) (fun c325 => ?_)
            ·
              have q326 : (dkTk (I0 345) (I0 340 6) (0)).toInt ≠ (4 : Int) := by first | (rw [← xv324]; exact (dk_ne c325)) | (subst xv324; exact (dk_ne c325))
              refine lv_iconst (v := 0) hx hb dX6_town_102 (by decide) ?_
              refine lv_iconst (v := 1) hx hb dX6_town_103 (by decide) ?_
              refine dk_Vi (As := [.int 0, .int 1]) (rest := []) ⟨hx, hb, hml, hown, hts⟩ (h_X6_takes_0 l g z I323 0 1 (show dkN [(0, 90)] (I323 340 8) from dkN_sub (by rw [eI323, dkU_n (by decide)]; exact (by rw [hF322 340 8 rfl]; exact (by rw [eI321, dkU_n (by decide)]; exact (by rw [hF320 340 8 rfl]; exact f308_340_8)))) rfl) hO) (cwV 2 hts gX6_town_X6_takes rfl rfl rfl (by decide +kernel) ⟨Nat.le_of_ble_eq_true rfl, Nat.le_of_ble_eq_true rfl⟩) (dk_at340 hW) rfl hK hT hW hS rfl hl.1 rfl (Nat.le_of_ble_eq_true rfl) dX6_town_104 ⟨Nat.zero_le _, Nat.zero_le _⟩ (fun v327 I327 H327 L327 hp327 hW hS => ?_)
              obtain ⟨hF327, hO, hc327⟩ := hp327
              have hF := dkF_call hF hF327 rfl
              have hP := dkPP_F hP hF327 rfl
              have eI327 : I323 = I327 := (dkF_nil hF327).symm
              subst eI327
              obtain ⟨dv327, xr327, -⟩ := hc327
              have xv327 : v327 = 0 := by have h := xr327; exact h
              refine lv_pop hx hb dX6_town_107 rfl ?_
              refine lv_aload_n hx hb dX6_town_108 rfl (lv_at hl 0 rfl) ?_
              refine lv_aload_n hx hb dX6_town_109 rfl (lv_at hl 0 rfl) ?_
              refine dk_get (k := 340) hx hb hts iX6_town_6 hown hK (dk_at340 hW) rfl 11 (by decide) (hts (.fieldLink RX6 98 "DogKingsModel" "token" "I") (List.mem_of_getElem? (i := 4) rfl)) rfl dX6_town_110 ?_
              refine lv_topi (fun v328 ev328 => ?_)
              have dv328 : dkN [(1, 1)] v328 := by rw [ev328]; exact (by rw [hF327 340 11 rfl]; exact (by rw [eI323, dkU_n (by decide)]; exact (by rw [hF322 340 11 rfl]; exact (by rw [eI321, dkU_n (by decide)]; exact (by rw [hF320 340 11 rfl]; exact (by rw [hF308 340 11 rfl]; exact f302))))))
              have xv328 : v328 = dkTk (I0 345) (I0 340 6) (0) := ev328.trans ((hF327 340 11 rfl).trans ((by rw [eI323, dkU_n (by decide)] : I323 340 11 = _).trans ((hF322 340 11 rfl).trans ((by rw [eI321, dkU_n (by decide)] : I321 340 11 = _).trans ((hF320 340 11 rfl).trans y317)))))
              refine lv_iconst (v := 1) hx hb dX6_town_113 (by decide) ?_
              refine lv_icmp_ne (tgt := 130) hx hb dX6_town_114 (by decide) (fun c329 => ?_) (fun c329 => ?_)
              ·
                exact (dkN_nil (show dkN [] v328 from dkN_ne1 (1) dv328 (dkN_lit (x := 1) (1) rfl) (dk_ne c329) rfl)).elim
              ·
                refine lv_aload_n hx hb dX6_town_117 rfl (lv_at hl 0 rfl) ?_
                refine dk_get (k := 340) hx hb hts iX6_town_6 hown hK (dk_at340 hW) rfl 12 (by decide) (hts (.fieldLink RX6 95 "DogKingsModel" "value" "I") (List.mem_of_getElem? (i := 5) rfl)) rfl dX6_town_118 ?_
                refine lv_topi (fun v330 ev330 => ?_)
                have dv330 : dkN [(-2147483648, 115), (117, 2147483647)] v330 := by rw [ev330]; exact (by rw [hF327 340 12 rfl]; exact (by rw [eI323, dkU_n (by decide)]; exact (by rw [hF322 340 12 rfl]; exact (by rw [eI321, dkU_n (by decide)]; exact (by rw [hF320 340 12 rfl]; exact f308_340_12)))))
                have xv330 : v330 = dkTv (I0 345) (I0 340 6) (0) := ev330.trans ((hF327 340 12 rfl).trans ((by rw [eI323, dkU_n (by decide)] : I323 340 12 = _).trans ((hF322 340 12 rfl).trans ((by rw [eI321, dkU_n (by decide)] : I321 340 12 = _).trans ((hF320 340 12 rfl).trans y319)))))
                refine lv_bipush (v := 109) hx hb dX6_town_121 (by decide) ?_
                refine lv_icmp_ne (tgt := 130) hx hb dX6_town_123 (by decide) (fun c331 => ?_) (fun c331 => ?_)
                ·
                  have q332 : (dkTv (I0 345) (I0 340 6) (0)).toInt ≠ (109 : Int) := by first | (rw [← xv330]; exact (dk_ne c331)) | (subst xv330; exact (dk_ne c331))
                  have d333 : dkN [(-2147483648, 108), (110, 115), (117, 2147483647)] v330 := dkN_ne1 (109) dv330 (dkN_lit (x := 109) (109) rfl) (dk_ne c331) rfl
                  have f334 : dkN [(-2147483648, 108), (110, 115), (117, 2147483647)] (I323 340 12) := by rw [← ev330]; exact d333
                  refine lv_iconst (v := 0) hx hb dX6_town_130 (by decide) ?_
                  have i0 : (0 : Int32).toInt = 0 := rfl
                  have i1 : (1 : Int32).toInt = 1 := rfl
                  have i2 : (2 : Int32).toInt = 2 := rfl
                  have i3 : (3 : Int32).toInt = 3 := rfl
                  have i9 : (9 : Int32).toInt = 9 := rfl
                  have i30 : (30 : Int32).toInt = 30 := rfl
                  have i44 : (44 : Int32).toInt = 44 := rfl
                  have i59 : (59 : Int32).toInt = 59 := rfl
                  have i109 : (109 : Int32).toInt = 109 := rfl
                  have i116 : (116 : Int32).toInt = 116 := rfl
                  have e335 : dkTw (I0 345) (I0 340 6) = (1, 0) := dkTw_l (dkTh_q (dkK_ln (T := (I0 345)) (n := (I0 340 6)) (a := 0) (c := 116) (by omega) (by omega)) (by decide)) (by decide)
                  exact C131 I323 _ _ ls x2_1 0 hW hS hF hO hP (dkN_sub d252 rfl) (dkN_sub (dkN_lit (x := 0) (0) rfl) rfl) (show dkN [(1, 2)] (I323 340 7) from dkN_sub (by rw [hF327 340 7 rfl]; exact (by rw [eI323, dkU_n (by decide)]; exact (by rw [hF322 340 7 rfl]; exact (by rw [eI321, dkU_n (by decide)]; exact (by rw [hF320 340 7 rfl]; exact f308_340_7))))) rfl) (show dkN [(0, 90)] (I323 340 8) from dkN_sub (by rw [hF327 340 8 rfl]; exact (by rw [eI323, dkU_n (by decide)]; exact (by rw [hF322 340 8 rfl]; exact (by rw [eI321, dkU_n (by decide)]; exact (by rw [hF320 340 8 rfl]; exact f308_340_8))))) rfl) (show dkN [(0, 0), (3, 9)] (I323 347 0) from dkN_sub (by rw [hF327 347 0 rfl]; exact (by rw [eI323, dkU_sn (by decide)]; exact (by rw [hF322 347 0 rfl]; exact (by rw [eI321, dkU_ss]; exact dv320)))) rfl) (show dkN [(0, 0)] (I323 347 4) from dkN_sub (by rw [hF327 347 4 rfl]; exact (by rw [eI323, dkU_sn (by decide)]; exact (by rw [hF322 347 4 rfl]; exact (by rw [eI321, dkU_sn (by decide)]; exact (by rw [hF320 347 4 rfl]; exact (by rw [hF308 347 4 rfl]; exact (by rw [hF255 347 4 rfl]; exact (by rw [eI254, dkU_n (by decide)]; exact (by rw [eI253, dkU_n (by decide)]; exact (dkN_lit (0) (by rw [hz4]; rfl))))))))))) rfl) (show dkN [(0, 0)] (I323 347 5) from dkN_sub (by rw [hF327 347 5 rfl]; exact (by rw [eI323, dkU_sn (by decide)]; exact (by rw [hF322 347 5 rfl]; exact (by rw [eI321, dkU_sn (by decide)]; exact (by rw [hF320 347 5 rfl]; exact (by rw [hF308 347 5 rfl]; exact (by rw [hF255 347 5 rfl]; exact (by rw [eI254, dkU_n (by decide)]; exact (by rw [eI253, dkU_n (by decide)]; exact (dkN_lit (0) (by rw [hz5]; rfl))))))))))) rfl) ((funext fun j => hF327 345 j dkNin_nil).trans ((by rw [eI323, dkU_n (by decide)] : I323 345 = _).trans ((funext fun j => hF322 345 j dkNin_nil).trans ((by rw [eI321, dkU_n (by decide)] : I321 345 = _).trans ((funext fun j => hF320 345 j dkNin_nil).trans ((funext fun j => hF308 345 j (dkNin_k rfl dkNin_nil)).trans ((funext fun j => hF255 345 j (dkNin_k rfl dkNin_nil)).trans ((by rw [eI254, dkU_n (by decide)] : I254 345 = _).trans ((by rw [eI253, dkU_n (by decide)] : I253 345 = _).trans z2_0))))))))) ((hF327 340 17 rfl).trans ((by rw [eI323, dkU_n (by decide)] : I323 340 17 = _).trans ((hF322 340 17 rfl).trans ((by rw [eI321, dkU_n (by decide)] : I321 340 17 = _).trans ((hF320 340 17 rfl).trans ((hF308 340 17 rfl).trans ((hF255 340 17 rfl).trans ((by rw [eI254, dkU_sn (by decide)] : I254 340 17 = _).trans ((by rw [eI253, dkU_sn (by decide)] : I253 340 17 = _).trans zp2_0))))))))) ((hF327 340 6 rfl).trans ((by rw [eI323, dkU_n (by decide)] : I323 340 6 = _).trans ((hF322 340 6 rfl).trans ((by rw [eI321, dkU_n (by decide)] : I321 340 6 = _).trans ((hF320 340 6 rfl).trans ((hF308 340 6 rfl).trans ((hF255 340 6 rfl).trans ((by rw [eI254, dkU_sn (by decide)] : I254 340 6 = _).trans ((by rw [eI253, dkU_sn (by decide)] : I253 340 6 = _).trans zp2_1))))))))) ((hF327 346 0 rfl).trans ((by rw [eI323, dkU_n (by decide)] : I323 346 0 = _).trans ((hF322 346 0 rfl).trans ((by rw [eI321, dkU_n (by decide)] : I321 346 0 = _).trans ((hF320 346 0 rfl).trans ((hF308 346 0 rfl).trans ((hF255 346 0 rfl).trans ((by rw [eI254, dkU_n (by decide)] : I254 346 0 = _).trans ((by rw [eI253, dkU_n (by decide)] : I253 346 0 = _).trans zp2_3))))))))) ((hF327 346 4 rfl).trans ((by rw [eI323, dkU_n (by decide)] : I323 346 4 = _).trans ((hF322 346 4 rfl).trans ((by rw [eI321, dkU_n (by decide)] : I321 346 4 = _).trans ((hF320 346 4 rfl).trans ((hF308 346 4 rfl).trans ((hF255 346 4 rfl).trans ((by rw [eI254, dkU_n (by decide)] : I254 346 4 = _).trans ((by rw [eI253, dkU_n (by decide)] : I253 346 4 = _).trans zp2_4))))))))) ((hF327 346 5 rfl).trans ((by rw [eI323, dkU_n (by decide)] : I323 346 5 = _).trans ((hF322 346 5 rfl).trans ((by rw [eI321, dkU_n (by decide)] : I321 346 5 = _).trans ((hF320 346 5 rfl).trans ((hF308 346 5 rfl).trans ((hF255 346 5 rfl).trans ((by rw [eI254, dkU_n (by decide)] : I254 346 5 = _).trans ((by rw [eI253, dkU_n (by decide)] : I253 346 5 = _).trans zp2_5))))))))) ⟨(dkE_k e335 (by decide)), (((show I323 340 7 = 1 from ((hF327 340 7 rfl).trans ((by rw [eI323, dkU_n (by decide)] : I323 340 7 = _).trans ((hF322 340 7 rfl).trans ((by rw [eI321, dkU_n (by decide)] : I321 340 7 = _).trans ((hF320 340 7 rfl).trans y310))))))).trans (dkP_1 e335).symm), (((show I323 340 8 = 0 from ((hF327 340 8 rfl).trans ((by rw [eI323, dkU_n (by decide)] : I323 340 8 = _).trans ((hF322 340 8 rfl).trans ((by rw [eI321, dkU_n (by decide)] : I321 340 8 = _).trans ((hF320 340 8 rfl).trans y312))))))).trans (dkP_2 e335).symm)⟩ (lv_sub hl [0, 1] rfl)
                ·
                  have q336 : (dkTv (I0 345) (I0 340 6) (0)).toInt = (109 : Int) := by first | (rw [← xv330]; exact (congrArg Int32.toInt c331)) | (subst xv330; exact (congrArg Int32.toInt c331))
                  have d337 : dkN [(109, 109)] v330 := dkN_eq1 dv330 (dkN_lit (x := 109) (109) rfl) (congrArg Int32.toInt c331) rfl
                  have f338 : dkN [(109, 109)] (I323 340 12) := by rw [← ev330]; exact d337
                  refine lv_iconst (v := 1) hx hb dX6_town_126 (by decide) ?_
                  refine lv_goto (tgt := 131) hx hb dX6_town_127 (by decide) ?_
                  have i0 : (0 : Int32).toInt = 0 := rfl
                  have i1 : (1 : Int32).toInt = 1 := rfl
                  have i2 : (2 : Int32).toInt = 2 := rfl
                  have i3 : (3 : Int32).toInt = 3 := rfl
                  have i9 : (9 : Int32).toInt = 9 := rfl
                  have i30 : (30 : Int32).toInt = 30 := rfl
                  have i44 : (44 : Int32).toInt = 44 := rfl
                  have i59 : (59 : Int32).toInt = 59 := rfl
                  have i109 : (109 : Int32).toInt = 109 := rfl
                  have i116 : (116 : Int32).toInt = 116 := rfl
                  have e339 : dkTw (I0 345) (I0 340 6) = (1, 0) := dkTw_l (dkTh_q (dkK_ln (T := (I0 345)) (n := (I0 340 6)) (a := 0) (c := 116) (by omega) (by omega)) (by decide)) (by decide)
                  exact C131 I323 _ _ ls x2_1 1 hW hS hF hO hP (dkN_sub d252 rfl) (dkN_sub (dkN_lit (x := 1) (1) rfl) rfl) (show dkN [(1, 2)] (I323 340 7) from dkN_sub (by rw [hF327 340 7 rfl]; exact (by rw [eI323, dkU_n (by decide)]; exact (by rw [hF322 340 7 rfl]; exact (by rw [eI321, dkU_n (by decide)]; exact (by rw [hF320 340 7 rfl]; exact f308_340_7))))) rfl) (show dkN [(0, 90)] (I323 340 8) from dkN_sub (by rw [hF327 340 8 rfl]; exact (by rw [eI323, dkU_n (by decide)]; exact (by rw [hF322 340 8 rfl]; exact (by rw [eI321, dkU_n (by decide)]; exact (by rw [hF320 340 8 rfl]; exact f308_340_8))))) rfl) (show dkN [(0, 0), (3, 9)] (I323 347 0) from dkN_sub (by rw [hF327 347 0 rfl]; exact (by rw [eI323, dkU_sn (by decide)]; exact (by rw [hF322 347 0 rfl]; exact (by rw [eI321, dkU_ss]; exact dv320)))) rfl) (show dkN [(0, 0)] (I323 347 4) from dkN_sub (by rw [hF327 347 4 rfl]; exact (by rw [eI323, dkU_sn (by decide)]; exact (by rw [hF322 347 4 rfl]; exact (by rw [eI321, dkU_sn (by decide)]; exact (by rw [hF320 347 4 rfl]; exact (by rw [hF308 347 4 rfl]; exact (by rw [hF255 347 4 rfl]; exact (by rw [eI254, dkU_n (by decide)]; exact (by rw [eI253, dkU_n (by decide)]; exact (dkN_lit (0) (by rw [hz4]; rfl))))))))))) rfl) (show dkN [(0, 0)] (I323 347 5) from dkN_sub (by rw [hF327 347 5 rfl]; exact (by rw [eI323, dkU_sn (by decide)]; exact (by rw [hF322 347 5 rfl]; exact (by rw [eI321, dkU_sn (by decide)]; exact (by rw [hF320 347 5 rfl]; exact (by rw [hF308 347 5 rfl]; exact (by rw [hF255 347 5 rfl]; exact (by rw [eI254, dkU_n (by decide)]; exact (by rw [eI253, dkU_n (by decide)]; exact (dkN_lit (0) (by rw [hz5]; rfl))))))))))) rfl) ((funext fun j => hF327 345 j dkNin_nil).trans ((by rw [eI323, dkU_n (by decide)] : I323 345 = _).trans ((funext fun j => hF322 345 j dkNin_nil).trans ((by rw [eI321, dkU_n (by decide)] : I321 345 = _).trans ((funext fun j => hF320 345 j dkNin_nil).trans ((funext fun j => hF308 345 j (dkNin_k rfl dkNin_nil)).trans ((funext fun j => hF255 345 j (dkNin_k rfl dkNin_nil)).trans ((by rw [eI254, dkU_n (by decide)] : I254 345 = _).trans ((by rw [eI253, dkU_n (by decide)] : I253 345 = _).trans z2_0))))))))) ((hF327 340 17 rfl).trans ((by rw [eI323, dkU_n (by decide)] : I323 340 17 = _).trans ((hF322 340 17 rfl).trans ((by rw [eI321, dkU_n (by decide)] : I321 340 17 = _).trans ((hF320 340 17 rfl).trans ((hF308 340 17 rfl).trans ((hF255 340 17 rfl).trans ((by rw [eI254, dkU_sn (by decide)] : I254 340 17 = _).trans ((by rw [eI253, dkU_sn (by decide)] : I253 340 17 = _).trans zp2_0))))))))) ((hF327 340 6 rfl).trans ((by rw [eI323, dkU_n (by decide)] : I323 340 6 = _).trans ((hF322 340 6 rfl).trans ((by rw [eI321, dkU_n (by decide)] : I321 340 6 = _).trans ((hF320 340 6 rfl).trans ((hF308 340 6 rfl).trans ((hF255 340 6 rfl).trans ((by rw [eI254, dkU_sn (by decide)] : I254 340 6 = _).trans ((by rw [eI253, dkU_sn (by decide)] : I253 340 6 = _).trans zp2_1))))))))) ((hF327 346 0 rfl).trans ((by rw [eI323, dkU_n (by decide)] : I323 346 0 = _).trans ((hF322 346 0 rfl).trans ((by rw [eI321, dkU_n (by decide)] : I321 346 0 = _).trans ((hF320 346 0 rfl).trans ((hF308 346 0 rfl).trans ((hF255 346 0 rfl).trans ((by rw [eI254, dkU_n (by decide)] : I254 346 0 = _).trans ((by rw [eI253, dkU_n (by decide)] : I253 346 0 = _).trans zp2_3))))))))) ((hF327 346 4 rfl).trans ((by rw [eI323, dkU_n (by decide)] : I323 346 4 = _).trans ((hF322 346 4 rfl).trans ((by rw [eI321, dkU_n (by decide)] : I321 346 4 = _).trans ((hF320 346 4 rfl).trans ((hF308 346 4 rfl).trans ((hF255 346 4 rfl).trans ((by rw [eI254, dkU_n (by decide)] : I254 346 4 = _).trans ((by rw [eI253, dkU_n (by decide)] : I253 346 4 = _).trans zp2_4))))))))) ((hF327 346 5 rfl).trans ((by rw [eI323, dkU_n (by decide)] : I323 346 5 = _).trans ((hF322 346 5 rfl).trans ((by rw [eI321, dkU_n (by decide)] : I321 346 5 = _).trans ((hF320 346 5 rfl).trans ((hF308 346 5 rfl).trans ((hF255 346 5 rfl).trans ((by rw [eI254, dkU_n (by decide)] : I254 346 5 = _).trans ((by rw [eI253, dkU_n (by decide)] : I253 346 5 = _).trans zp2_5))))))))) ⟨(dkE_k e339 (by decide)), (((show I323 340 7 = 1 from ((hF327 340 7 rfl).trans ((by rw [eI323, dkU_n (by decide)] : I323 340 7 = _).trans ((hF322 340 7 rfl).trans ((by rw [eI321, dkU_n (by decide)] : I321 340 7 = _).trans ((hF320 340 7 rfl).trans y310))))))).trans (dkP_1 e339).symm), (((show I323 340 8 = 0 from ((hF327 340 8 rfl).trans ((by rw [eI323, dkU_n (by decide)] : I323 340 8 = _).trans ((hF322 340 8 rfl).trans ((by rw [eI321, dkU_n (by decide)] : I321 340 8 = _).trans ((hF320 340 8 rfl).trans y312))))))).trans (dkP_2 e339).symm)⟩ (lv_sub hl [0, 1] rfl)
            ·
              exact (dkN_nil (show dkN [] v324 from dkN_eq1 dv324 (dkN_lit (x := 4) (4) rfl) (congrArg Int32.toInt c325) rfl)).elim
          ·
            have q340 : (dkTv (I0 345) (I0 340 6) (0)).toInt = (116 : Int) := by first | (rw [← xv303]; exact (congrArg Int32.toInt c304)) | (subst xv303; exact (congrArg Int32.toInt c304))
            have d341 : dkN [(116, 116)] v303 := dkN_eq1 (dkN_top v303) (dkN_lit (x := 116) (116) rfl) (congrArg Int32.toInt c304) rfl
            have f342 : dkN [(116, 116)] (I255 340 12) := by rw [← ev303]; exact d341
            refine lv_iconst (v := 1) hx hb dX6_town_53 (by decide) ?_
            refine lv_goto (tgt := 58) hx hb dX6_town_54 (by decide) ?_
            refine lv_iconst (v := 1) hx hb dX6_town_58 (by decide) ?_
            refine dk_Vi (As := [.int 1, .int 1]) (rest := []) ⟨hx, hb, hml, hown, hts⟩ (fx_X6_takes_34 l g z I255 1 1 (dkN_lit (x := 1) (1) rfl) (dkN_lit (x := 1) (1) rfl) (show dkN [(116, 116)] (I255 340 12) from dkN_sub f342 rfl) (show dkN [(-1, -1)] (I255 340 8) from dkN_sub (by rw [hF255 340 8 rfl]; exact (by rw [eI254, dkU_ss]; exact (dkN_lit (x := (-1)) (-1) rfl))) rfl) hO) (cwV 2 hts gX6_town_X6_takes rfl rfl rfl (by decide +kernel) ⟨Nat.le_of_ble_eq_true rfl, Nat.le_of_ble_eq_true rfl⟩) (dk_at340 hW) rfl hK hT hW hS rfl hl.1 rfl (Nat.le_of_ble_eq_true rfl) dX6_town_59 ⟨Nat.zero_le _, Nat.zero_le _⟩ (fun v343 I343 H343 L343 hp343 hW hS => ?_)
            obtain ⟨hF343, hO, hc343⟩ := hp343
            have hF := dkF_call hF hF343 rfl
            have hP := dkPP_F hP hF343 rfl
            obtain ⟨dv343, f343_340_11, f343_340_8, x343_0, x343_1, xr343, xh343_0, xh343_1, xh343_2, xh343_3, xh343_4, xh343_5, -⟩ := hc343
            have w344 : I255 340 8 = (-1) := ((hF255 340 8 rfl).trans (by rw [eI254, dkU_ss]))
            have w345 : I255 340 7 = I0 340 7 := ((hF255 340 7 rfl).trans ((by rw [eI254, dkU_sn (by decide)] : I254 340 7 = _).trans ((by rw [eI253, dkU_sn (by decide)] : I253 340 7 = _).trans zp2_2)))
            have y346 : I343 340 7 = I0 340 7 := by have h := xh343_0; rw [w345] at h; exact h
            have y347 : I343 340 8 = (-1) := by have h := xh343_1; rw [w344] at h; exact h
            have w348 : I255 345 = I0 345 := ((funext fun j => hF255 345 j (dkNin_k rfl dkNin_nil)).trans ((by rw [eI254, dkU_n (by decide)] : I254 345 = _).trans ((by rw [eI253, dkU_n (by decide)] : I253 345 = _).trans z2_0)))
            have w349 : I255 340 6 = I0 340 6 := ((hF255 340 6 rfl).trans ((by rw [eI254, dkU_sn (by decide)] : I254 340 6 = _).trans ((by rw [eI253, dkU_sn (by decide)] : I253 340 6 = _).trans zp2_1)))
            have w350 : I255 340 9 = dkTe (I0 345) (I0 340 6) (0) := y259
            have y351 : I343 340 9 = dkTe (I0 345) (I0 340 6) (dkTe (I0 345) (I0 340 6) (0)) := by have h := xh343_2; rw [w348, w349, w350] at h; exact h
            have y352 : I343 340 10 = dkTe (I0 345) (I0 340 6) (0) := by have h := xh343_3; rw [w350] at h; exact h
            have y353 : I343 340 11 = dkTk (I0 345) (I0 340 6) (dkTe (I0 345) (I0 340 6) (0)) := by have h := xh343_4; rw [w348, w349, w350] at h; exact h
            have y354 : I343 340 12 = dkTv (I0 345) (I0 340 6) (dkTe (I0 345) (I0 340 6) (0)) := by have h := xh343_5; rw [w348, w349, w350] at h; exact h
            have w355 : I255 340 12 = dkTv (I0 345) (I0 340 6) (0) := y262
            have xv343 : v343 = dkTv (I0 345) (I0 340 6) (0) := by have h := xr343; rw [w355] at h; exact h
            refine lv_pop hx hb dX6_town_62 rfl ?_
            refine lv_aload_n hx hb dX6_town_63 rfl (lv_at hl 0 rfl) ?_
            refine dk_get (k := 340) hx hb hts iX6_town_6 hown hK (dk_at340 hW) rfl 14 (by decide) (hts (.fieldLink RX6 28 "DogKingsModel" "draft" "[I") (List.mem_of_getElem? (i := 1) rfl)) rfl dX6_town_64 ?_
            refine lv_iconst (v := 0) hx hb dX6_town_67 (by decide) ?_
            refine lv_aload_n hx hb dX6_town_68 rfl (lv_at hl 0 rfl) ?_
            refine lv_iconst (v := 3) hx hb dX6_town_69 (by decide) ?_
            refine lv_bipush (v := 9) hx hb dX6_town_70 (by decide) ?_
            refine dk_Vi (As := [.int 3, .int 9]) (rest := [.int 0, .ref (z + 347)]) ⟨hx, hb, hml, hown, hts⟩ (fx_X6_figure_10 l g z I343 3 9 (dkN_lit (x := 3) (3) rfl) (dkN_lit (x := 9) (9) rfl) (show dkN [(-1, -1)] (I343 340 8) from dkN_sub f343_340_8 rfl) hO) (cwV 2 hts gX6_town_X6_figure rfl rfl rfl (by decide +kernel) ⟨Nat.le_of_ble_eq_true rfl, Nat.le_of_ble_eq_true rfl⟩) (dk_at340 hW) rfl hK hT hW hS rfl hl.1 rfl (Nat.le_of_ble_eq_true rfl) dX6_town_72 ⟨Nat.zero_le _, Nat.zero_le _⟩ (fun v356 I356 H356 L356 hp356 hW hS => ?_)
            obtain ⟨hF356, hO, hc356⟩ := hp356
            have hF := dkF_call hF hF356 rfl
            have hP := dkPP_F hP hF356 rfl
            rcases hc356 with ⟨dv356, f356_340_11, f356_340_12, f356_340_7, f356_340_8, x356_0, x356_1, x356_2, xr356, xh356_0, xh356_1, xh356_2, xh356_3, xh356_4, xh356_5, -⟩ | hc356
            ·
              have w357 : I343 340 8 = (-1) := y347
              have w358 : I343 340 11 = dkTk (I0 345) (I0 340 6) (dkTe (I0 345) (I0 340 6) (0)) := y353
              have q359 : (dkTk (I0 345) (I0 340 6) (dkTe (I0 345) (I0 340 6) (0))).toInt = (2 : Int) := by have h := x356_1; rw [w358] at h; exact h
              have w360 : I343 340 12 = dkTv (I0 345) (I0 340 6) (dkTe (I0 345) (I0 340 6) (0)) := y354
              have q361 : (dkTv (I0 345) (I0 340 6) (dkTe (I0 345) (I0 340 6) (0))).toInt + 1 ≤ (3 : Int) := by have h := x356_2; rw [w360] at h; exact h
              have y362 : I356 340 7 = 2 := by have h := xh356_0; exact h
              have w363 : I343 340 10 = dkTe (I0 345) (I0 340 6) (0) := y352
              have y364 : I356 340 8 = dkTe (I0 345) (I0 340 6) (0) := by have h := xh356_1; rw [w363] at h; exact h
              have w365 : I343 340 9 = dkTe (I0 345) (I0 340 6) (dkTe (I0 345) (I0 340 6) (0)) := y351
              have y366 : I356 340 9 = dkTe (I0 345) (I0 340 6) (dkTe (I0 345) (I0 340 6) (0)) := by have h := xh356_2; rw [w365] at h; exact h
              have y367 : I356 340 10 = dkTe (I0 345) (I0 340 6) (0) := by have h := xh356_3; rw [w363] at h; exact h
              have y368 : I356 340 11 = dkTk (I0 345) (I0 340 6) (dkTe (I0 345) (I0 340 6) (0)) := by have h := xh356_4; rw [w358] at h; exact h
              have y369 : I356 340 12 = dkTv (I0 345) (I0 340 6) (dkTe (I0 345) (I0 340 6) (0)) := by have h := xh356_5; rw [w360] at h; exact h
              have xv356 : v356 = 0 := by have h := xr356; exact h
              refine dk_ist (k := 347) hx hb hK hW (fun _ => rfl) (by decide) hS (dkN_in (n := 54) (dkN_lit (x := 0) (0) rfl) rfl) dX6_town_75 (fun I370 H370 L370 eI370 hW hS => ?_)
              have eI370 : I370 = dkU I356 347 0 v356 := eI370
              have hO := dkO_set hO eI370 (dkN_sub dv356 rfl)
              have hF := dkF_set hF eI370 rfl
              have hP := dkPP_set hP eI370 rfl
              refine lv_aload_n hx hb dX6_town_76 rfl (lv_at hl 0 rfl) ?_
              refine dk_get (k := 340) hx hb hts iX6_town_6 hown hK (dk_at340 hW) rfl 14 (by decide) (hts (.fieldLink RX6 28 "DogKingsModel" "draft" "[I") (List.mem_of_getElem? (i := 1) rfl)) rfl dX6_town_77 ?_
              refine lv_iconst (v := 1) hx hb dX6_town_80 (by decide) ?_
              refine lv_aload_n hx hb dX6_town_81 rfl (lv_at hl 0 rfl) ?_
              refine lv_iconst (v := 1) hx hb dX6_town_82 (by decide) ?_
              refine lv_bipush (v := 30) hx hb dX6_town_83 (by decide) ?_
              refine dk_Vi (As := [.int 1, .int 30]) (rest := [.int 1, .ref (z + 347)]) ⟨hx, hb, hml, hown, hts⟩ (h_X6_follows_0 l g z I370 1 30 (show dkN [(0, 90)] (I370 340 8) from dkN_sub (by rw [eI370, dkU_n (by decide)]; exact f356_340_8) rfl) hO) (cwV 2 hts gX6_town_X6_follows rfl rfl rfl (by decide +kernel) ⟨Nat.le_of_ble_eq_true rfl, Nat.le_of_ble_eq_true rfl⟩) (dk_at340 hW) rfl hK hT hW hS rfl hl.1 rfl (Nat.le_of_ble_eq_true rfl) dX6_town_85 ⟨Nat.zero_le _, Nat.zero_le _⟩ (fun v371 I371 H371 L371 hp371 hW hS => ?_)
              obtain ⟨hF371, hO, hc371⟩ := hp371
              have hF := dkF_call hF hF371 rfl
              have hP := dkPP_F hP hF371 rfl
              have eI371 : I370 = I371 := (dkF_nil hF371).symm
              subst eI371
              obtain ⟨dv371, xr371, -⟩ := hc371
              have xv371 : v371 = 0 := by have h := xr371; exact h
              refine dk_ist (k := 347) hx hb hK hW (fun _ => rfl) (by decide) hS (dkN_in (n := 54) (dkN_lit (x := 1) (1) rfl) rfl) dX6_town_88 (fun I372 H372 L372 eI372 hW hS => ?_)
              have eI372 : I372 = dkU I370 347 1 v371 := eI372
              have hO := dkO_set hO eI372 (dkN_sub dv371 rfl)
              have hF := dkF_set hF eI372 rfl
              have hP := dkPP_set hP eI372 rfl
              refine lv_aload_n hx hb dX6_town_89 rfl (lv_at hl 0 rfl) ?_
              refine lv_aload_n hx hb dX6_town_90 rfl (lv_at hl 0 rfl) ?_
              refine dk_get (k := 340) hx hb hts iX6_town_6 hown hK (dk_at340 hW) rfl 11 (by decide) (hts (.fieldLink RX6 98 "DogKingsModel" "token" "I") (List.mem_of_getElem? (i := 4) rfl)) rfl dX6_town_91 ?_
              refine lv_topi (fun v373 ev373 => ?_)
              have dv373 : dkN [(2, 2)] v373 := by rw [ev373]; exact (by rw [eI372, dkU_n (by decide)]; exact (by rw [hF371 340 11 rfl]; exact (by rw [eI370, dkU_n (by decide)]; exact f356_340_11)))
              have xv373 : v373 = dkTk (I0 345) (I0 340 6) (dkTe (I0 345) (I0 340 6) (0)) := ev373.trans ((by rw [eI372, dkU_n (by decide)] : I372 340 11 = _).trans ((hF371 340 11 rfl).trans ((by rw [eI370, dkU_n (by decide)] : I370 340 11 = _).trans y368)))
              refine lv_iconst (v := 4) hx hb dX6_town_94 (by decide) ?_
              refine lv_icmp_ne (tgt := 102) hx hb dX6_town_95 (by decide) (fun c374 => ?_) (fun c374 => ?_)
              ·
                have q375 : (dkTk (I0 345) (I0 340 6) (dkTe (I0 345) (I0 340 6) (0))).toInt ≠ (4 : Int) := by first | (rw [← xv373]; exact (dk_ne c374)) | (subst xv373; exact (dk_ne c374))
                refine lv_iconst (v := 0) hx hb dX6_town_102 (by decide) ?_
                refine lv_iconst (v := 1) hx hb dX6_town_103 (by decide) ?_
                refine dk_Vi (As := [.int 0, .int 1]) (rest := []) ⟨hx, hb, hml, hown, hts⟩ (h_X6_takes_0 l g z I372 0 1 (show dkN [(0, 90)] (I372 340 8) from dkN_sub (by rw [eI372, dkU_n (by decide)]; exact (by rw [hF371 340 8 rfl]; exact (by rw [eI370, dkU_n (by decide)]; exact f356_340_8))) rfl) hO) (cwV 2 hts gX6_town_X6_takes rfl rfl rfl (by decide +kernel) ⟨Nat.le_of_ble_eq_true rfl, Nat.le_of_ble_eq_true rfl⟩) (dk_at340 hW) rfl hK hT hW hS rfl hl.1 rfl (Nat.le_of_ble_eq_true rfl) dX6_town_104 ⟨Nat.zero_le _, Nat.zero_le _⟩ (fun v376 I376 H376 L376 hp376 hW hS => ?_)
                obtain ⟨hF376, hO, hc376⟩ := hp376
                have hF := dkF_call hF hF376 rfl
                have hP := dkPP_F hP hF376 rfl
                have eI376 : I372 = I376 := (dkF_nil hF376).symm
                subst eI376
                obtain ⟨dv376, xr376, -⟩ := hc376
                have xv376 : v376 = 0 := by have h := xr376; exact h
                refine lv_pop hx hb dX6_town_107 rfl ?_
                refine lv_aload_n hx hb dX6_town_108 rfl (lv_at hl 0 rfl) ?_
                refine lv_aload_n hx hb dX6_town_109 rfl (lv_at hl 0 rfl) ?_
                refine dk_get (k := 340) hx hb hts iX6_town_6 hown hK (dk_at340 hW) rfl 11 (by decide) (hts (.fieldLink RX6 98 "DogKingsModel" "token" "I") (List.mem_of_getElem? (i := 4) rfl)) rfl dX6_town_110 ?_
                refine lv_topi (fun v377 ev377 => ?_)
                have dv377 : dkN [(2, 2)] v377 := by rw [ev377]; exact (by rw [hF376 340 11 rfl]; exact (by rw [eI372, dkU_n (by decide)]; exact (by rw [hF371 340 11 rfl]; exact (by rw [eI370, dkU_n (by decide)]; exact f356_340_11))))
                have xv377 : v377 = dkTk (I0 345) (I0 340 6) (dkTe (I0 345) (I0 340 6) (0)) := ev377.trans ((hF376 340 11 rfl).trans ((by rw [eI372, dkU_n (by decide)] : I372 340 11 = _).trans ((hF371 340 11 rfl).trans ((by rw [eI370, dkU_n (by decide)] : I370 340 11 = _).trans y368))))
                refine lv_iconst (v := 1) hx hb dX6_town_113 (by decide) ?_
                refine lv_icmp_ne (tgt := 130) hx hb dX6_town_114 (by decide) (fun c378 => ?_) (fun c378 => ?_)
                ·
                  have q379 : (dkTk (I0 345) (I0 340 6) (dkTe (I0 345) (I0 340 6) (0))).toInt ≠ (1 : Int) := by first | (rw [← xv377]; exact (dk_ne c378)) | (subst xv377; exact (dk_ne c378))
                  refine lv_iconst (v := 0) hx hb dX6_town_130 (by decide) ?_
                  have i0 : (0 : Int32).toInt = 0 := rfl
                  have i1 : (1 : Int32).toInt = 1 := rfl
                  have i2 : (2 : Int32).toInt = 2 := rfl
                  have i3 : (3 : Int32).toInt = 3 := rfl
                  have i9 : (9 : Int32).toInt = 9 := rfl
                  have i30 : (30 : Int32).toInt = 30 := rfl
                  have i44 : (44 : Int32).toInt = 44 := rfl
                  have i59 : (59 : Int32).toInt = 59 := rfl
                  have i109 : (109 : Int32).toInt = 109 := rfl
                  have i116 : (116 : Int32).toInt = 116 := rfl
                  have e380 : dkTw (I0 345) (I0 340 6) = (2, dkTe (I0 345) (I0 340 6) (0)) := dkTw_l ((dkTh_p (dkK_l (T := (I0 345)) (n := (I0 340 6)) (a := 0) (c := 116) q300 (by omega))).trans (dkTh_q (dkK_2 (T := (I0 345)) (n := (I0 340 6)) (a := dkTe (I0 345) (I0 340 6) (0)) (lo := 3) (hi := 9) q359 (by omega)) (by decide))) (by decide)
                  exact C131 I372 _ _ ls x2_1 0 hW hS hF hO hP (dkN_sub d252 rfl) (dkN_sub (dkN_lit (x := 0) (0) rfl) rfl) (show dkN [(1, 2)] (I372 340 7) from dkN_sub (by rw [hF376 340 7 rfl]; exact (by rw [eI372, dkU_n (by decide)]; exact (by rw [hF371 340 7 rfl]; exact (by rw [eI370, dkU_n (by decide)]; exact f356_340_7)))) rfl) (show dkN [(0, 90)] (I372 340 8) from dkN_sub (by rw [hF376 340 8 rfl]; exact (by rw [eI372, dkU_n (by decide)]; exact (by rw [hF371 340 8 rfl]; exact (by rw [eI370, dkU_n (by decide)]; exact f356_340_8)))) rfl) (show dkN [(0, 0), (3, 9)] (I372 347 0) from dkN_sub (by rw [hF376 347 0 rfl]; exact (by rw [eI372, dkU_sn (by decide)]; exact (by rw [hF371 347 0 rfl]; exact (by rw [eI370, dkU_ss]; exact dv356)))) rfl) (show dkN [(0, 0)] (I372 347 4) from dkN_sub (by rw [hF376 347 4 rfl]; exact (by rw [eI372, dkU_sn (by decide)]; exact (by rw [hF371 347 4 rfl]; exact (by rw [eI370, dkU_sn (by decide)]; exact (by rw [hF356 347 4 rfl]; exact (by rw [hF343 347 4 rfl]; exact (by rw [hF255 347 4 rfl]; exact (by rw [eI254, dkU_n (by decide)]; exact (by rw [eI253, dkU_n (by decide)]; exact (dkN_lit (0) (by rw [hz4]; rfl))))))))))) rfl) (show dkN [(0, 0)] (I372 347 5) from dkN_sub (by rw [hF376 347 5 rfl]; exact (by rw [eI372, dkU_sn (by decide)]; exact (by rw [hF371 347 5 rfl]; exact (by rw [eI370, dkU_sn (by decide)]; exact (by rw [hF356 347 5 rfl]; exact (by rw [hF343 347 5 rfl]; exact (by rw [hF255 347 5 rfl]; exact (by rw [eI254, dkU_n (by decide)]; exact (by rw [eI253, dkU_n (by decide)]; exact (dkN_lit (0) (by rw [hz5]; rfl))))))))))) rfl) ((funext fun j => hF376 345 j dkNin_nil).trans ((by rw [eI372, dkU_n (by decide)] : I372 345 = _).trans ((funext fun j => hF371 345 j dkNin_nil).trans ((by rw [eI370, dkU_n (by decide)] : I370 345 = _).trans ((funext fun j => hF356 345 j (dkNin_k rfl dkNin_nil)).trans ((funext fun j => hF343 345 j (dkNin_k rfl dkNin_nil)).trans ((funext fun j => hF255 345 j (dkNin_k rfl dkNin_nil)).trans ((by rw [eI254, dkU_n (by decide)] : I254 345 = _).trans ((by rw [eI253, dkU_n (by decide)] : I253 345 = _).trans z2_0))))))))) ((hF376 340 17 rfl).trans ((by rw [eI372, dkU_n (by decide)] : I372 340 17 = _).trans ((hF371 340 17 rfl).trans ((by rw [eI370, dkU_n (by decide)] : I370 340 17 = _).trans ((hF356 340 17 rfl).trans ((hF343 340 17 rfl).trans ((hF255 340 17 rfl).trans ((by rw [eI254, dkU_sn (by decide)] : I254 340 17 = _).trans ((by rw [eI253, dkU_sn (by decide)] : I253 340 17 = _).trans zp2_0))))))))) ((hF376 340 6 rfl).trans ((by rw [eI372, dkU_n (by decide)] : I372 340 6 = _).trans ((hF371 340 6 rfl).trans ((by rw [eI370, dkU_n (by decide)] : I370 340 6 = _).trans ((hF356 340 6 rfl).trans ((hF343 340 6 rfl).trans ((hF255 340 6 rfl).trans ((by rw [eI254, dkU_sn (by decide)] : I254 340 6 = _).trans ((by rw [eI253, dkU_sn (by decide)] : I253 340 6 = _).trans zp2_1))))))))) ((hF376 346 0 rfl).trans ((by rw [eI372, dkU_n (by decide)] : I372 346 0 = _).trans ((hF371 346 0 rfl).trans ((by rw [eI370, dkU_n (by decide)] : I370 346 0 = _).trans ((hF356 346 0 rfl).trans ((hF343 346 0 rfl).trans ((hF255 346 0 rfl).trans ((by rw [eI254, dkU_n (by decide)] : I254 346 0 = _).trans ((by rw [eI253, dkU_n (by decide)] : I253 346 0 = _).trans zp2_3))))))))) ((hF376 346 4 rfl).trans ((by rw [eI372, dkU_n (by decide)] : I372 346 4 = _).trans ((hF371 346 4 rfl).trans ((by rw [eI370, dkU_n (by decide)] : I370 346 4 = _).trans ((hF356 346 4 rfl).trans ((hF343 346 4 rfl).trans ((hF255 346 4 rfl).trans ((by rw [eI254, dkU_n (by decide)] : I254 346 4 = _).trans ((by rw [eI253, dkU_n (by decide)] : I253 346 4 = _).trans zp2_4))))))))) ((hF376 346 5 rfl).trans ((by rw [eI372, dkU_n (by decide)] : I372 346 5 = _).trans ((hF371 346 5 rfl).trans ((by rw [eI370, dkU_n (by decide)] : I370 346 5 = _).trans ((hF356 346 5 rfl).trans ((hF343 346 5 rfl).trans ((hF255 346 5 rfl).trans ((by rw [eI254, dkU_n (by decide)] : I254 346 5 = _).trans ((by rw [eI253, dkU_n (by decide)] : I253 346 5 = _).trans zp2_5))))))))) ⟨(dkE_k e380 (by decide)), (((show I372 340 7 = 2 from ((hF376 340 7 rfl).trans ((by rw [eI372, dkU_n (by decide)] : I372 340 7 = _).trans ((hF371 340 7 rfl).trans ((by rw [eI370, dkU_n (by decide)] : I370 340 7 = _).trans y362)))))).trans (dkP_1 e380).symm), (((show I372 340 8 = dkTe (I0 345) (I0 340 6) (0) from ((hF376 340 8 rfl).trans ((by rw [eI372, dkU_n (by decide)] : I372 340 8 = _).trans ((hF371 340 8 rfl).trans ((by rw [eI370, dkU_n (by decide)] : I370 340 8 = _).trans y364)))))).trans (dkP_2 e380).symm)⟩ (lv_sub hl [0, 1] rfl)
                ·
                  exact (dkN_nil (show dkN [] v377 from dkN_eq1 dv377 (dkN_lit (x := 1) (1) rfl) (congrArg Int32.toInt c378) rfl)).elim
              ·
                exact (dkN_nil (show dkN [] v373 from dkN_eq1 dv373 (dkN_lit (x := 4) (4) rfl) (congrArg Int32.toInt c374) rfl)).elim
            rcases hc356 with ⟨dv356, f356_340_11, f356_340_12, f356_340_7, f356_340_8, x356_0, x356_1, x356_2, x356_3, xr356, xh356_0, xh356_1, xh356_2, xh356_3, xh356_4, xh356_5, -⟩ | hc356
            ·
              have w381 : I343 340 8 = (-1) := y347
              have w382 : I343 340 11 = dkTk (I0 345) (I0 340 6) (dkTe (I0 345) (I0 340 6) (0)) := y353
              have q383 : (dkTk (I0 345) (I0 340 6) (dkTe (I0 345) (I0 340 6) (0))).toInt = (2 : Int) := by have h := x356_1; rw [w382] at h; exact h
              have w384 : I343 340 12 = dkTv (I0 345) (I0 340 6) (dkTe (I0 345) (I0 340 6) (0)) := y354
              have q385 : (3 : Int) + 0 ≤ (dkTv (I0 345) (I0 340 6) (dkTe (I0 345) (I0 340 6) (0))).toInt := by have h := x356_2; rw [w384] at h; exact h
              have q386 : (9 : Int) + 1 ≤ (dkTv (I0 345) (I0 340 6) (dkTe (I0 345) (I0 340 6) (0))).toInt := by have h := x356_3; rw [w384] at h; exact h
              have y387 : I356 340 7 = 2 := by have h := xh356_0; exact h
              have w388 : I343 340 10 = dkTe (I0 345) (I0 340 6) (0) := y352
              have y389 : I356 340 8 = dkTe (I0 345) (I0 340 6) (0) := by have h := xh356_1; rw [w388] at h; exact h
              have w390 : I343 340 9 = dkTe (I0 345) (I0 340 6) (dkTe (I0 345) (I0 340 6) (0)) := y351
              have y391 : I356 340 9 = dkTe (I0 345) (I0 340 6) (dkTe (I0 345) (I0 340 6) (0)) := by have h := xh356_2; rw [w390] at h; exact h
              have y392 : I356 340 10 = dkTe (I0 345) (I0 340 6) (0) := by have h := xh356_3; rw [w388] at h; exact h
              have y393 : I356 340 11 = dkTk (I0 345) (I0 340 6) (dkTe (I0 345) (I0 340 6) (0)) := by have h := xh356_4; rw [w382] at h; exact h
              have y394 : I356 340 12 = dkTv (I0 345) (I0 340 6) (dkTe (I0 345) (I0 340 6) (0)) := by have h := xh356_5; rw [w384] at h; exact h
              have xv356 : v356 = 0 := by have h := xr356; exact h
              refine dk_ist (k := 347) hx hb hK hW (fun _ => rfl) (by decide) hS (dkN_in (n := 54) (dkN_lit (x := 0) (0) rfl) rfl) dX6_town_75 (fun I395 H395 L395 eI395 hW hS => ?_)
              have eI395 : I395 = dkU I356 347 0 v356 := eI395
              have hO := dkO_set hO eI395 (dkN_sub dv356 rfl)
              have hF := dkF_set hF eI395 rfl
              have hP := dkPP_set hP eI395 rfl
              refine lv_aload_n hx hb dX6_town_76 rfl (lv_at hl 0 rfl) ?_
              refine dk_get (k := 340) hx hb hts iX6_town_6 hown hK (dk_at340 hW) rfl 14 (by decide) (hts (.fieldLink RX6 28 "DogKingsModel" "draft" "[I") (List.mem_of_getElem? (i := 1) rfl)) rfl dX6_town_77 ?_
              refine lv_iconst (v := 1) hx hb dX6_town_80 (by decide) ?_
              refine lv_aload_n hx hb dX6_town_81 rfl (lv_at hl 0 rfl) ?_
              refine lv_iconst (v := 1) hx hb dX6_town_82 (by decide) ?_
              refine lv_bipush (v := 30) hx hb dX6_town_83 (by decide) ?_
              refine dk_Vi (As := [.int 1, .int 30]) (rest := [.int 1, .ref (z + 347)]) ⟨hx, hb, hml, hown, hts⟩ (h_X6_follows_0 l g z I395 1 30 (show dkN [(0, 90)] (I395 340 8) from dkN_sub (by rw [eI395, dkU_n (by decide)]; exact f356_340_8) rfl) hO) (cwV 2 hts gX6_town_X6_follows rfl rfl rfl (by decide +kernel) ⟨Nat.le_of_ble_eq_true rfl, Nat.le_of_ble_eq_true rfl⟩) (dk_at340 hW) rfl hK hT hW hS rfl hl.1 rfl (Nat.le_of_ble_eq_true rfl) dX6_town_85 ⟨Nat.zero_le _, Nat.zero_le _⟩ (fun v396 I396 H396 L396 hp396 hW hS => ?_)
              obtain ⟨hF396, hO, hc396⟩ := hp396
              have hF := dkF_call hF hF396 rfl
              have hP := dkPP_F hP hF396 rfl
              have eI396 : I395 = I396 := (dkF_nil hF396).symm
              subst eI396
              obtain ⟨dv396, xr396, -⟩ := hc396
              have xv396 : v396 = 0 := by have h := xr396; exact h
              refine dk_ist (k := 347) hx hb hK hW (fun _ => rfl) (by decide) hS (dkN_in (n := 54) (dkN_lit (x := 1) (1) rfl) rfl) dX6_town_88 (fun I397 H397 L397 eI397 hW hS => ?_)
              have eI397 : I397 = dkU I395 347 1 v396 := eI397
              have hO := dkO_set hO eI397 (dkN_sub dv396 rfl)
              have hF := dkF_set hF eI397 rfl
              have hP := dkPP_set hP eI397 rfl
              refine lv_aload_n hx hb dX6_town_89 rfl (lv_at hl 0 rfl) ?_
              refine lv_aload_n hx hb dX6_town_90 rfl (lv_at hl 0 rfl) ?_
              refine dk_get (k := 340) hx hb hts iX6_town_6 hown hK (dk_at340 hW) rfl 11 (by decide) (hts (.fieldLink RX6 98 "DogKingsModel" "token" "I") (List.mem_of_getElem? (i := 4) rfl)) rfl dX6_town_91 ?_
              refine lv_topi (fun v398 ev398 => ?_)
              have dv398 : dkN [(2, 2)] v398 := by rw [ev398]; exact (by rw [eI397, dkU_n (by decide)]; exact (by rw [hF396 340 11 rfl]; exact (by rw [eI395, dkU_n (by decide)]; exact f356_340_11)))
              have xv398 : v398 = dkTk (I0 345) (I0 340 6) (dkTe (I0 345) (I0 340 6) (0)) := ev398.trans ((by rw [eI397, dkU_n (by decide)] : I397 340 11 = _).trans ((hF396 340 11 rfl).trans ((by rw [eI395, dkU_n (by decide)] : I395 340 11 = _).trans y393)))
              refine lv_iconst (v := 4) hx hb dX6_town_94 (by decide) ?_
              refine lv_icmp_ne (tgt := 102) hx hb dX6_town_95 (by decide) (fun c399 => ?_) (fun c399 => ?_)
              ·
                have q400 : (dkTk (I0 345) (I0 340 6) (dkTe (I0 345) (I0 340 6) (0))).toInt ≠ (4 : Int) := by first | (rw [← xv398]; exact (dk_ne c399)) | (subst xv398; exact (dk_ne c399))
                refine lv_iconst (v := 0) hx hb dX6_town_102 (by decide) ?_
                refine lv_iconst (v := 1) hx hb dX6_town_103 (by decide) ?_
                refine dk_Vi (As := [.int 0, .int 1]) (rest := []) ⟨hx, hb, hml, hown, hts⟩ (h_X6_takes_0 l g z I397 0 1 (show dkN [(0, 90)] (I397 340 8) from dkN_sub (by rw [eI397, dkU_n (by decide)]; exact (by rw [hF396 340 8 rfl]; exact (by rw [eI395, dkU_n (by decide)]; exact f356_340_8))) rfl) hO) (cwV 2 hts gX6_town_X6_takes rfl rfl rfl (by decide +kernel) ⟨Nat.le_of_ble_eq_true rfl, Nat.le_of_ble_eq_true rfl⟩) (dk_at340 hW) rfl hK hT hW hS rfl hl.1 rfl (Nat.le_of_ble_eq_true rfl) dX6_town_104 ⟨Nat.zero_le _, Nat.zero_le _⟩ (fun v401 I401 H401 L401 hp401 hW hS => ?_)
                obtain ⟨hF401, hO, hc401⟩ := hp401
                have hF := dkF_call hF hF401 rfl
                have hP := dkPP_F hP hF401 rfl
                have eI401 : I397 = I401 := (dkF_nil hF401).symm
                subst eI401
                obtain ⟨dv401, xr401, -⟩ := hc401
                have xv401 : v401 = 0 := by have h := xr401; exact h
                refine lv_pop hx hb dX6_town_107 rfl ?_
                refine lv_aload_n hx hb dX6_town_108 rfl (lv_at hl 0 rfl) ?_
                refine lv_aload_n hx hb dX6_town_109 rfl (lv_at hl 0 rfl) ?_
                refine dk_get (k := 340) hx hb hts iX6_town_6 hown hK (dk_at340 hW) rfl 11 (by decide) (hts (.fieldLink RX6 98 "DogKingsModel" "token" "I") (List.mem_of_getElem? (i := 4) rfl)) rfl dX6_town_110 ?_
                refine lv_topi (fun v402 ev402 => ?_)
                have dv402 : dkN [(2, 2)] v402 := by rw [ev402]; exact (by rw [hF401 340 11 rfl]; exact (by rw [eI397, dkU_n (by decide)]; exact (by rw [hF396 340 11 rfl]; exact (by rw [eI395, dkU_n (by decide)]; exact f356_340_11))))
                have xv402 : v402 = dkTk (I0 345) (I0 340 6) (dkTe (I0 345) (I0 340 6) (0)) := ev402.trans ((hF401 340 11 rfl).trans ((by rw [eI397, dkU_n (by decide)] : I397 340 11 = _).trans ((hF396 340 11 rfl).trans ((by rw [eI395, dkU_n (by decide)] : I395 340 11 = _).trans y393))))
                refine lv_iconst (v := 1) hx hb dX6_town_113 (by decide) ?_
                refine lv_icmp_ne (tgt := 130) hx hb dX6_town_114 (by decide) (fun c403 => ?_) (fun c403 => ?_)
                ·
                  have q404 : (dkTk (I0 345) (I0 340 6) (dkTe (I0 345) (I0 340 6) (0))).toInt ≠ (1 : Int) := by first | (rw [← xv402]; exact (dk_ne c403)) | (subst xv402; exact (dk_ne c403))
                  refine lv_iconst (v := 0) hx hb dX6_town_130 (by decide) ?_
                  have i0 : (0 : Int32).toInt = 0 := rfl
                  have i1 : (1 : Int32).toInt = 1 := rfl
                  have i2 : (2 : Int32).toInt = 2 := rfl
                  have i3 : (3 : Int32).toInt = 3 := rfl
                  have i9 : (9 : Int32).toInt = 9 := rfl
                  have i30 : (30 : Int32).toInt = 30 := rfl
                  have i44 : (44 : Int32).toInt = 44 := rfl
                  have i59 : (59 : Int32).toInt = 59 := rfl
                  have i109 : (109 : Int32).toInt = 109 := rfl
                  have i116 : (116 : Int32).toInt = 116 := rfl
                  have e405 : dkTw (I0 345) (I0 340 6) = (2, dkTe (I0 345) (I0 340 6) (0)) := dkTw_l ((dkTh_p (dkK_l (T := (I0 345)) (n := (I0 340 6)) (a := 0) (c := 116) q300 (by omega))).trans (dkTh_q (dkK_2 (T := (I0 345)) (n := (I0 340 6)) (a := dkTe (I0 345) (I0 340 6) (0)) (lo := 3) (hi := 9) q383 (by omega)) (by decide))) (by decide)
                  exact C131 I397 _ _ ls x2_1 0 hW hS hF hO hP (dkN_sub d252 rfl) (dkN_sub (dkN_lit (x := 0) (0) rfl) rfl) (show dkN [(1, 2)] (I397 340 7) from dkN_sub (by rw [hF401 340 7 rfl]; exact (by rw [eI397, dkU_n (by decide)]; exact (by rw [hF396 340 7 rfl]; exact (by rw [eI395, dkU_n (by decide)]; exact f356_340_7)))) rfl) (show dkN [(0, 90)] (I397 340 8) from dkN_sub (by rw [hF401 340 8 rfl]; exact (by rw [eI397, dkU_n (by decide)]; exact (by rw [hF396 340 8 rfl]; exact (by rw [eI395, dkU_n (by decide)]; exact f356_340_8)))) rfl) (show dkN [(0, 0), (3, 9)] (I397 347 0) from dkN_sub (by rw [hF401 347 0 rfl]; exact (by rw [eI397, dkU_sn (by decide)]; exact (by rw [hF396 347 0 rfl]; exact (by rw [eI395, dkU_ss]; exact dv356)))) rfl) (show dkN [(0, 0)] (I397 347 4) from dkN_sub (by rw [hF401 347 4 rfl]; exact (by rw [eI397, dkU_sn (by decide)]; exact (by rw [hF396 347 4 rfl]; exact (by rw [eI395, dkU_sn (by decide)]; exact (by rw [hF356 347 4 rfl]; exact (by rw [hF343 347 4 rfl]; exact (by rw [hF255 347 4 rfl]; exact (by rw [eI254, dkU_n (by decide)]; exact (by rw [eI253, dkU_n (by decide)]; exact (dkN_lit (0) (by rw [hz4]; rfl))))))))))) rfl) (show dkN [(0, 0)] (I397 347 5) from dkN_sub (by rw [hF401 347 5 rfl]; exact (by rw [eI397, dkU_sn (by decide)]; exact (by rw [hF396 347 5 rfl]; exact (by rw [eI395, dkU_sn (by decide)]; exact (by rw [hF356 347 5 rfl]; exact (by rw [hF343 347 5 rfl]; exact (by rw [hF255 347 5 rfl]; exact (by rw [eI254, dkU_n (by decide)]; exact (by rw [eI253, dkU_n (by decide)]; exact (dkN_lit (0) (by rw [hz5]; rfl))))))))))) rfl) ((funext fun j => hF401 345 j dkNin_nil).trans ((by rw [eI397, dkU_n (by decide)] : I397 345 = _).trans ((funext fun j => hF396 345 j dkNin_nil).trans ((by rw [eI395, dkU_n (by decide)] : I395 345 = _).trans ((funext fun j => hF356 345 j (dkNin_k rfl dkNin_nil)).trans ((funext fun j => hF343 345 j (dkNin_k rfl dkNin_nil)).trans ((funext fun j => hF255 345 j (dkNin_k rfl dkNin_nil)).trans ((by rw [eI254, dkU_n (by decide)] : I254 345 = _).trans ((by rw [eI253, dkU_n (by decide)] : I253 345 = _).trans z2_0))))))))) ((hF401 340 17 rfl).trans ((by rw [eI397, dkU_n (by decide)] : I397 340 17 = _).trans ((hF396 340 17 rfl).trans ((by rw [eI395, dkU_n (by decide)] : I395 340 17 = _).trans ((hF356 340 17 rfl).trans ((hF343 340 17 rfl).trans ((hF255 340 17 rfl).trans ((by rw [eI254, dkU_sn (by decide)] : I254 340 17 = _).trans ((by rw [eI253, dkU_sn (by decide)] : I253 340 17 = _).trans zp2_0))))))))) ((hF401 340 6 rfl).trans ((by rw [eI397, dkU_n (by decide)] : I397 340 6 = _).trans ((hF396 340 6 rfl).trans ((by rw [eI395, dkU_n (by decide)] : I395 340 6 = _).trans ((hF356 340 6 rfl).trans ((hF343 340 6 rfl).trans ((hF255 340 6 rfl).trans ((by rw [eI254, dkU_sn (by decide)] : I254 340 6 = _).trans ((by rw [eI253, dkU_sn (by decide)] : I253 340 6 = _).trans zp2_1))))))))) ((hF401 346 0 rfl).trans ((by rw [eI397, dkU_n (by decide)] : I397 346 0 = _).trans ((hF396 346 0 rfl).trans ((by rw [eI395, dkU_n (by decide)] : I395 346 0 = _).trans ((hF356 346 0 rfl).trans ((hF343 346 0 rfl).trans ((hF255 346 0 rfl).trans ((by rw [eI254, dkU_n (by decide)] : I254 346 0 = _).trans ((by rw [eI253, dkU_n (by decide)] : I253 346 0 = _).trans zp2_3))))))))) ((hF401 346 4 rfl).trans ((by rw [eI397, dkU_n (by decide)] : I397 346 4 = _).trans ((hF396 346 4 rfl).trans ((by rw [eI395, dkU_n (by decide)] : I395 346 4 = _).trans ((hF356 346 4 rfl).trans ((hF343 346 4 rfl).trans ((hF255 346 4 rfl).trans ((by rw [eI254, dkU_n (by decide)] : I254 346 4 = _).trans ((by rw [eI253, dkU_n (by decide)] : I253 346 4 = _).trans zp2_4))))))))) ((hF401 346 5 rfl).trans ((by rw [eI397, dkU_n (by decide)] : I397 346 5 = _).trans ((hF396 346 5 rfl).trans ((by rw [eI395, dkU_n (by decide)] : I395 346 5 = _).trans ((hF356 346 5 rfl).trans ((hF343 346 5 rfl).trans ((hF255 346 5 rfl).trans ((by rw [eI254, dkU_n (by decide)] : I254 346 5 = _).trans ((by rw [eI253, dkU_n (by decide)] : I253 346 5 = _).trans zp2_5))))))))) ⟨(dkE_k e405 (by decide)), (((show I397 340 7 = 2 from ((hF401 340 7 rfl).trans ((by rw [eI397, dkU_n (by decide)] : I397 340 7 = _).trans ((hF396 340 7 rfl).trans ((by rw [eI395, dkU_n (by decide)] : I395 340 7 = _).trans y387)))))).trans (dkP_1 e405).symm), (((show I397 340 8 = dkTe (I0 345) (I0 340 6) (0) from ((hF401 340 8 rfl).trans ((by rw [eI397, dkU_n (by decide)] : I397 340 8 = _).trans ((hF396 340 8 rfl).trans ((by rw [eI395, dkU_n (by decide)] : I395 340 8 = _).trans y389)))))).trans (dkP_2 e405).symm)⟩ (lv_sub hl [0, 1] rfl)
                ·
                  exact (dkN_nil (show dkN [] v402 from dkN_eq1 dv402 (dkN_lit (x := 1) (1) rfl) (congrArg Int32.toInt c403) rfl)).elim
              ·
                exact (dkN_nil (show dkN [] v398 from dkN_eq1 dv398 (dkN_lit (x := 4) (4) rfl) (congrArg Int32.toInt c399) rfl)).elim
            rcases hc356 with ⟨dv356, f356_340_11, f356_340_8, x356_0, x356_1, x356_2, x356_3, xr356, xh356_0, xh356_1, xh356_2, xh356_3, xh356_4, xh356_5, -⟩ | hc356
            ·
              have w406 : I343 340 8 = (-1) := y347
              have w407 : I343 340 11 = dkTk (I0 345) (I0 340 6) (dkTe (I0 345) (I0 340 6) (0)) := y353
              have q408 : (dkTk (I0 345) (I0 340 6) (dkTe (I0 345) (I0 340 6) (0))).toInt = (2 : Int) := by have h := x356_1; rw [w407] at h; exact h
              have w409 : I343 340 12 = dkTv (I0 345) (I0 340 6) (dkTe (I0 345) (I0 340 6) (0)) := y354
              have q410 : (3 : Int) + 0 ≤ (dkTv (I0 345) (I0 340 6) (dkTe (I0 345) (I0 340 6) (0))).toInt := by have h := x356_2; rw [w409] at h; exact h
              have q411 : (dkTv (I0 345) (I0 340 6) (dkTe (I0 345) (I0 340 6) (0))).toInt + 0 ≤ (9 : Int) := by have h := x356_3; rw [w409] at h; exact h
              have w412 : I343 340 7 = I0 340 7 := y346
              have y413 : I356 340 7 = I0 340 7 := by have h := xh356_0; rw [w412] at h; exact h
              have y414 : I356 340 8 = (-1) := by have h := xh356_1; rw [w406] at h; exact h
              have w415 : I343 345 = I0 345 := ((funext fun j => hF343 345 j (dkNin_k rfl dkNin_nil)).trans ((funext fun j => hF255 345 j (dkNin_k rfl dkNin_nil)).trans ((by rw [eI254, dkU_n (by decide)] : I254 345 = _).trans ((by rw [eI253, dkU_n (by decide)] : I253 345 = _).trans z2_0))))
              have w416 : I343 340 6 = I0 340 6 := ((hF343 340 6 rfl).trans ((hF255 340 6 rfl).trans ((by rw [eI254, dkU_sn (by decide)] : I254 340 6 = _).trans ((by rw [eI253, dkU_sn (by decide)] : I253 340 6 = _).trans zp2_1))))
              have w417 : I343 340 9 = dkTe (I0 345) (I0 340 6) (dkTe (I0 345) (I0 340 6) (0)) := y351
              have y418 : I356 340 9 = dkTe (I0 345) (I0 340 6) (dkTe (I0 345) (I0 340 6) (dkTe (I0 345) (I0 340 6) (0))) := by have h := xh356_2; rw [w415, w416, w417] at h; exact h
              have y419 : I356 340 10 = dkTe (I0 345) (I0 340 6) (dkTe (I0 345) (I0 340 6) (0)) := by have h := xh356_3; rw [w417] at h; exact h
              have y420 : I356 340 11 = dkTk (I0 345) (I0 340 6) (dkTe (I0 345) (I0 340 6) (dkTe (I0 345) (I0 340 6) (0))) := by have h := xh356_4; rw [w415, w416, w417] at h; exact h
              have y421 : I356 340 12 = dkTv (I0 345) (I0 340 6) (dkTe (I0 345) (I0 340 6) (dkTe (I0 345) (I0 340 6) (0))) := by have h := xh356_5; rw [w415, w416, w417] at h; exact h
              have xv356 : v356 = dkTv (I0 345) (I0 340 6) (dkTe (I0 345) (I0 340 6) (0)) := by have h := xr356; rw [w409] at h; exact h
              refine dk_ist (k := 347) hx hb hK hW (fun _ => rfl) (by decide) hS (dkN_in (n := 54) (dkN_lit (x := 0) (0) rfl) rfl) dX6_town_75 (fun I422 H422 L422 eI422 hW hS => ?_)
              have eI422 : I422 = dkU I356 347 0 v356 := eI422
              have hO := dkO_set hO eI422 (dkN_sub dv356 rfl)
              have hF := dkF_set hF eI422 rfl
              have hP := dkPP_set hP eI422 rfl
              refine lv_aload_n hx hb dX6_town_76 rfl (lv_at hl 0 rfl) ?_
              refine dk_get (k := 340) hx hb hts iX6_town_6 hown hK (dk_at340 hW) rfl 14 (by decide) (hts (.fieldLink RX6 28 "DogKingsModel" "draft" "[I") (List.mem_of_getElem? (i := 1) rfl)) rfl dX6_town_77 ?_
              refine lv_iconst (v := 1) hx hb dX6_town_80 (by decide) ?_
              refine lv_aload_n hx hb dX6_town_81 rfl (lv_at hl 0 rfl) ?_
              refine lv_iconst (v := 1) hx hb dX6_town_82 (by decide) ?_
              refine lv_bipush (v := 30) hx hb dX6_town_83 (by decide) ?_
              refine dk_Vi (As := [.int 1, .int 30]) (rest := [.int 1, .ref (z + 347)]) ⟨hx, hb, hml, hown, hts⟩ (fx_X6_follows_7 l g z I422 1 30 (dkN_lit (x := 1) (1) rfl) (dkN_lit (x := 30) (30) rfl) (show dkN [(-1, -1)] (I422 340 8) from dkN_sub (by rw [eI422, dkU_n (by decide)]; exact f356_340_8) rfl) hO) (cwV 2 hts gX6_town_X6_follows rfl rfl rfl (by decide +kernel) ⟨Nat.le_of_ble_eq_true rfl, Nat.le_of_ble_eq_true rfl⟩) (dk_at340 hW) rfl hK hT hW hS rfl hl.1 rfl (Nat.le_of_ble_eq_true rfl) dX6_town_85 ⟨Nat.zero_le _, Nat.zero_le _⟩ (fun v423 I423 H423 L423 hp423 hW hS => ?_)
              obtain ⟨hF423, hO, hc423⟩ := hp423
              have hF := dkF_call hF hF423 rfl
              have hP := dkPP_F hP hF423 rfl
              rcases hc423 with ⟨dv423, f423_340_11, f423_340_7, f423_340_8, x423_0, x423_1, xr423, xh423_0, xh423_1, xh423_2, xh423_3, xh423_4, xh423_5, -⟩ | hc423
              ·
                have w424 : I422 340 11 = dkTk (I0 345) (I0 340 6) (dkTe (I0 345) (I0 340 6) (dkTe (I0 345) (I0 340 6) (0))) := ((by rw [eI422, dkU_n (by decide)] : I422 340 11 = _).trans y420)
                have q425 : (dkTk (I0 345) (I0 340 6) (dkTe (I0 345) (I0 340 6) (dkTe (I0 345) (I0 340 6) (0)))).toInt ≠ (3 : Int) := by have h := x423_0; rw [w424] at h; exact h
                have w426 : I422 340 8 = (-1) := ((by rw [eI422, dkU_n (by decide)] : I422 340 8 = _).trans y414)
                have y427 : I423 340 7 = 1 := by have h := xh423_0; exact h
                have w428 : I422 340 10 = dkTe (I0 345) (I0 340 6) (dkTe (I0 345) (I0 340 6) (0)) := ((by rw [eI422, dkU_n (by decide)] : I422 340 10 = _).trans y419)
                have y429 : I423 340 8 = dkTe (I0 345) (I0 340 6) (dkTe (I0 345) (I0 340 6) (0)) := by have h := xh423_1; rw [w428] at h; exact h
                have w430 : I422 340 9 = dkTe (I0 345) (I0 340 6) (dkTe (I0 345) (I0 340 6) (dkTe (I0 345) (I0 340 6) (0))) := ((by rw [eI422, dkU_n (by decide)] : I422 340 9 = _).trans y418)
                have y431 : I423 340 9 = dkTe (I0 345) (I0 340 6) (dkTe (I0 345) (I0 340 6) (dkTe (I0 345) (I0 340 6) (0))) := by have h := xh423_2; rw [w430] at h; exact h
                have y432 : I423 340 10 = dkTe (I0 345) (I0 340 6) (dkTe (I0 345) (I0 340 6) (0)) := by have h := xh423_3; rw [w428] at h; exact h
                have y433 : I423 340 11 = dkTk (I0 345) (I0 340 6) (dkTe (I0 345) (I0 340 6) (dkTe (I0 345) (I0 340 6) (0))) := by have h := xh423_4; rw [w424] at h; exact h
                have w434 : I422 340 12 = dkTv (I0 345) (I0 340 6) (dkTe (I0 345) (I0 340 6) (dkTe (I0 345) (I0 340 6) (0))) := ((by rw [eI422, dkU_n (by decide)] : I422 340 12 = _).trans y421)
                have y435 : I423 340 12 = dkTv (I0 345) (I0 340 6) (dkTe (I0 345) (I0 340 6) (dkTe (I0 345) (I0 340 6) (0))) := by have h := xh423_5; rw [w434] at h; exact h
                have xv423 : v423 = 0 := by have h := xr423; exact h
                refine dk_ist (k := 347) hx hb hK hW (fun _ => rfl) (by decide) hS (dkN_in (n := 54) (dkN_lit (x := 1) (1) rfl) rfl) dX6_town_88 (fun I436 H436 L436 eI436 hW hS => ?_)
                have eI436 : I436 = dkU I423 347 1 v423 := eI436
                have hO := dkO_set hO eI436 (dkN_sub dv423 rfl)
                have hF := dkF_set hF eI436 rfl
                have hP := dkPP_set hP eI436 rfl
                refine lv_aload_n hx hb dX6_town_89 rfl (lv_at hl 0 rfl) ?_
                refine lv_aload_n hx hb dX6_town_90 rfl (lv_at hl 0 rfl) ?_
                refine dk_get (k := 340) hx hb hts iX6_town_6 hown hK (dk_at340 hW) rfl 11 (by decide) (hts (.fieldLink RX6 98 "DogKingsModel" "token" "I") (List.mem_of_getElem? (i := 4) rfl)) rfl dX6_town_91 ?_
                refine lv_topi (fun v437 ev437 => ?_)
                have dv437 : dkN [(-2147483648, 2), (4, 2147483647)] v437 := by rw [ev437]; exact (by rw [eI436, dkU_n (by decide)]; exact f423_340_11)
                have xv437 : v437 = dkTk (I0 345) (I0 340 6) (dkTe (I0 345) (I0 340 6) (dkTe (I0 345) (I0 340 6) (0))) := ev437.trans ((by rw [eI436, dkU_n (by decide)] : I436 340 11 = _).trans y433)
                refine lv_iconst (v := 4) hx hb dX6_town_94 (by decide) ?_
                refine lv_icmp_ne (tgt := 102) hx hb dX6_town_95 (by decide) (fun c438 => ?_) (fun c438 => ?_)
                ·
                  have q439 : (dkTk (I0 345) (I0 340 6) (dkTe (I0 345) (I0 340 6) (dkTe (I0 345) (I0 340 6) (0)))).toInt ≠ (4 : Int) := by first | (rw [← xv437]; exact (dk_ne c438)) | (subst xv437; exact (dk_ne c438))
                  have d440 : dkN [(-2147483648, 2), (5, 2147483647)] v437 := dkN_ne1 (4) dv437 (dkN_lit (x := 4) (4) rfl) (dk_ne c438) rfl
                  have f441 : dkN [(-2147483648, 2), (5, 2147483647)] (I436 340 11) := by rw [← ev437]; exact d440
                  refine lv_iconst (v := 0) hx hb dX6_town_102 (by decide) ?_
                  refine lv_iconst (v := 1) hx hb dX6_town_103 (by decide) ?_
                  refine dk_Vi (As := [.int 0, .int 1]) (rest := []) ⟨hx, hb, hml, hown, hts⟩ (h_X6_takes_0 l g z I436 0 1 (show dkN [(0, 90)] (I436 340 8) from dkN_sub (by rw [eI436, dkU_n (by decide)]; exact f423_340_8) rfl) hO) (cwV 2 hts gX6_town_X6_takes rfl rfl rfl (by decide +kernel) ⟨Nat.le_of_ble_eq_true rfl, Nat.le_of_ble_eq_true rfl⟩) (dk_at340 hW) rfl hK hT hW hS rfl hl.1 rfl (Nat.le_of_ble_eq_true rfl) dX6_town_104 ⟨Nat.zero_le _, Nat.zero_le _⟩ (fun v442 I442 H442 L442 hp442 hW hS => ?_)
                  obtain ⟨hF442, hO, hc442⟩ := hp442
                  have hF := dkF_call hF hF442 rfl
                  have hP := dkPP_F hP hF442 rfl
                  have eI442 : I436 = I442 := (dkF_nil hF442).symm
                  subst eI442
                  obtain ⟨dv442, xr442, -⟩ := hc442
                  have xv442 : v442 = 0 := by have h := xr442; exact h
                  refine lv_pop hx hb dX6_town_107 rfl ?_
                  refine lv_aload_n hx hb dX6_town_108 rfl (lv_at hl 0 rfl) ?_
                  refine lv_aload_n hx hb dX6_town_109 rfl (lv_at hl 0 rfl) ?_
                  refine dk_get (k := 340) hx hb hts iX6_town_6 hown hK (dk_at340 hW) rfl 11 (by decide) (hts (.fieldLink RX6 98 "DogKingsModel" "token" "I") (List.mem_of_getElem? (i := 4) rfl)) rfl dX6_town_110 ?_
                  refine lv_topi (fun v443 ev443 => ?_)
                  have dv443 : dkN [(-2147483648, 2), (5, 2147483647)] v443 := by rw [ev443]; exact (by rw [hF442 340 11 rfl]; exact f441)
                  have xv443 : v443 = dkTk (I0 345) (I0 340 6) (dkTe (I0 345) (I0 340 6) (dkTe (I0 345) (I0 340 6) (0))) := ev443.trans ((hF442 340 11 rfl).trans ((by rw [eI436, dkU_n (by decide)] : I436 340 11 = _).trans y433))
                  refine lv_iconst (v := 1) hx hb dX6_town_113 (by decide) ?_
                  refine lv_icmp_ne (tgt := 130) hx hb dX6_town_114 (by decide) (fun c444 => ?_) (fun c444 => ?_)
                  ·
                    have q445 : (dkTk (I0 345) (I0 340 6) (dkTe (I0 345) (I0 340 6) (dkTe (I0 345) (I0 340 6) (0)))).toInt ≠ (1 : Int) := by first | (rw [← xv443]; exact (dk_ne c444)) | (subst xv443; exact (dk_ne c444))
                    have d446 : dkN [(-2147483648, 0), (2, 2), (5, 2147483647)] v443 := dkN_ne1 (1) dv443 (dkN_lit (x := 1) (1) rfl) (dk_ne c444) rfl
                    have f447 : dkN [(-2147483648, 0), (2, 2), (5, 2147483647)] (I436 340 11) := by rw [← ev443]; exact d446
                    refine lv_iconst (v := 0) hx hb dX6_town_130 (by decide) ?_
                    have i0 : (0 : Int32).toInt = 0 := rfl
                    have i1 : (1 : Int32).toInt = 1 := rfl
                    have i2 : (2 : Int32).toInt = 2 := rfl
                    have i3 : (3 : Int32).toInt = 3 := rfl
                    have i9 : (9 : Int32).toInt = 9 := rfl
                    have i30 : (30 : Int32).toInt = 30 := rfl
                    have i44 : (44 : Int32).toInt = 44 := rfl
                    have i59 : (59 : Int32).toInt = 59 := rfl
                    have i109 : (109 : Int32).toInt = 109 := rfl
                    have i116 : (116 : Int32).toInt = 116 := rfl
                    have e448 : dkTw (I0 345) (I0 340 6) = (1, dkTe (I0 345) (I0 340 6) (dkTe (I0 345) (I0 340 6) (0))) := dkTw_l ((dkTh_p (dkK_l (T := (I0 345)) (n := (I0 340 6)) (a := 0) (c := 116) q300 (by omega))).trans ((dkTh_p (dkK_0 (T := (I0 345)) (n := (I0 340 6)) (a := dkTe (I0 345) (I0 340 6) (0)) (lo := 3) (hi := 9) q408 (by omega) (by omega))).trans (dkTh_q (dkK_cn (T := (I0 345)) (n := (I0 340 6)) (a := dkTe (I0 345) (I0 340 6) (dkTe (I0 345) (I0 340 6) (0))) q425) (by decide)))) (by decide)
                    exact C131 I436 _ _ ls x2_1 0 hW hS hF hO hP (dkN_sub d252 rfl) (dkN_sub (dkN_lit (x := 0) (0) rfl) rfl) (show dkN [(1, 2)] (I436 340 7) from dkN_sub (by rw [hF442 340 7 rfl]; exact (by rw [eI436, dkU_n (by decide)]; exact f423_340_7)) rfl) (show dkN [(0, 90)] (I436 340 8) from dkN_sub (by rw [hF442 340 8 rfl]; exact (by rw [eI436, dkU_n (by decide)]; exact f423_340_8)) rfl) (show dkN [(0, 0), (3, 9)] (I436 347 0) from dkN_sub (by rw [hF442 347 0 rfl]; exact (by rw [eI436, dkU_sn (by decide)]; exact (by rw [hF423 347 0 rfl]; exact (by rw [eI422, dkU_ss]; exact dv356)))) rfl) (show dkN [(0, 0)] (I436 347 4) from dkN_sub (by rw [hF442 347 4 rfl]; exact (by rw [eI436, dkU_sn (by decide)]; exact (by rw [hF423 347 4 rfl]; exact (by rw [eI422, dkU_sn (by decide)]; exact (by rw [hF356 347 4 rfl]; exact (by rw [hF343 347 4 rfl]; exact (by rw [hF255 347 4 rfl]; exact (by rw [eI254, dkU_n (by decide)]; exact (by rw [eI253, dkU_n (by decide)]; exact (dkN_lit (0) (by rw [hz4]; rfl))))))))))) rfl) (show dkN [(0, 0)] (I436 347 5) from dkN_sub (by rw [hF442 347 5 rfl]; exact (by rw [eI436, dkU_sn (by decide)]; exact (by rw [hF423 347 5 rfl]; exact (by rw [eI422, dkU_sn (by decide)]; exact (by rw [hF356 347 5 rfl]; exact (by rw [hF343 347 5 rfl]; exact (by rw [hF255 347 5 rfl]; exact (by rw [eI254, dkU_n (by decide)]; exact (by rw [eI253, dkU_n (by decide)]; exact (dkN_lit (0) (by rw [hz5]; rfl))))))))))) rfl) ((funext fun j => hF442 345 j dkNin_nil).trans ((by rw [eI436, dkU_n (by decide)] : I436 345 = _).trans ((funext fun j => hF423 345 j (dkNin_k rfl dkNin_nil)).trans ((by rw [eI422, dkU_n (by decide)] : I422 345 = _).trans ((funext fun j => hF356 345 j (dkNin_k rfl dkNin_nil)).trans ((funext fun j => hF343 345 j (dkNin_k rfl dkNin_nil)).trans ((funext fun j => hF255 345 j (dkNin_k rfl dkNin_nil)).trans ((by rw [eI254, dkU_n (by decide)] : I254 345 = _).trans ((by rw [eI253, dkU_n (by decide)] : I253 345 = _).trans z2_0))))))))) ((hF442 340 17 rfl).trans ((by rw [eI436, dkU_n (by decide)] : I436 340 17 = _).trans ((hF423 340 17 rfl).trans ((by rw [eI422, dkU_n (by decide)] : I422 340 17 = _).trans ((hF356 340 17 rfl).trans ((hF343 340 17 rfl).trans ((hF255 340 17 rfl).trans ((by rw [eI254, dkU_sn (by decide)] : I254 340 17 = _).trans ((by rw [eI253, dkU_sn (by decide)] : I253 340 17 = _).trans zp2_0))))))))) ((hF442 340 6 rfl).trans ((by rw [eI436, dkU_n (by decide)] : I436 340 6 = _).trans ((hF423 340 6 rfl).trans ((by rw [eI422, dkU_n (by decide)] : I422 340 6 = _).trans ((hF356 340 6 rfl).trans ((hF343 340 6 rfl).trans ((hF255 340 6 rfl).trans ((by rw [eI254, dkU_sn (by decide)] : I254 340 6 = _).trans ((by rw [eI253, dkU_sn (by decide)] : I253 340 6 = _).trans zp2_1))))))))) ((hF442 346 0 rfl).trans ((by rw [eI436, dkU_n (by decide)] : I436 346 0 = _).trans ((hF423 346 0 rfl).trans ((by rw [eI422, dkU_n (by decide)] : I422 346 0 = _).trans ((hF356 346 0 rfl).trans ((hF343 346 0 rfl).trans ((hF255 346 0 rfl).trans ((by rw [eI254, dkU_n (by decide)] : I254 346 0 = _).trans ((by rw [eI253, dkU_n (by decide)] : I253 346 0 = _).trans zp2_3))))))))) ((hF442 346 4 rfl).trans ((by rw [eI436, dkU_n (by decide)] : I436 346 4 = _).trans ((hF423 346 4 rfl).trans ((by rw [eI422, dkU_n (by decide)] : I422 346 4 = _).trans ((hF356 346 4 rfl).trans ((hF343 346 4 rfl).trans ((hF255 346 4 rfl).trans ((by rw [eI254, dkU_n (by decide)] : I254 346 4 = _).trans ((by rw [eI253, dkU_n (by decide)] : I253 346 4 = _).trans zp2_4))))))))) ((hF442 346 5 rfl).trans ((by rw [eI436, dkU_n (by decide)] : I436 346 5 = _).trans ((hF423 346 5 rfl).trans ((by rw [eI422, dkU_n (by decide)] : I422 346 5 = _).trans ((hF356 346 5 rfl).trans ((hF343 346 5 rfl).trans ((hF255 346 5 rfl).trans ((by rw [eI254, dkU_n (by decide)] : I254 346 5 = _).trans ((by rw [eI253, dkU_n (by decide)] : I253 346 5 = _).trans zp2_5))))))))) ⟨(dkE_k e448 (by decide)), (((show I436 340 7 = 1 from ((hF442 340 7 rfl).trans ((by rw [eI436, dkU_n (by decide)] : I436 340 7 = _).trans y427)))).trans (dkP_1 e448).symm), (((show I436 340 8 = dkTe (I0 345) (I0 340 6) (dkTe (I0 345) (I0 340 6) (0)) from ((hF442 340 8 rfl).trans ((by rw [eI436, dkU_n (by decide)] : I436 340 8 = _).trans y429)))).trans (dkP_2 e448).symm)⟩ (lv_sub hl [0, 1] rfl)
                  ·
                    have q449 : (dkTk (I0 345) (I0 340 6) (dkTe (I0 345) (I0 340 6) (dkTe (I0 345) (I0 340 6) (0)))).toInt = (1 : Int) := by first | (rw [← xv443]; exact (congrArg Int32.toInt c444)) | (subst xv443; exact (congrArg Int32.toInt c444))
                    have d450 : dkN [(1, 1)] v443 := dkN_eq1 dv443 (dkN_lit (x := 1) (1) rfl) (congrArg Int32.toInt c444) rfl
                    have f451 : dkN [(1, 1)] (I436 340 11) := by rw [← ev443]; exact d450
                    refine lv_aload_n hx hb dX6_town_117 rfl (lv_at hl 0 rfl) ?_
                    refine dk_get (k := 340) hx hb hts iX6_town_6 hown hK (dk_at340 hW) rfl 12 (by decide) (hts (.fieldLink RX6 95 "DogKingsModel" "value" "I") (List.mem_of_getElem? (i := 5) rfl)) rfl dX6_town_118 ?_
                    refine lv_topi (fun v452 ev452 => ?_)
                    have xv452 : v452 = dkTv (I0 345) (I0 340 6) (dkTe (I0 345) (I0 340 6) (dkTe (I0 345) (I0 340 6) (0))) := ev452.trans ((hF442 340 12 rfl).trans ((by rw [eI436, dkU_n (by decide)] : I436 340 12 = _).trans y435))
                    refine lv_bipush (v := 109) hx hb dX6_town_121 (by decide) ?_
                    refine lv_icmp_ne (tgt := 130) hx hb dX6_town_123 (by decide) (fun c453 => ?_) (fun c453 => ?_)
                    ·
                      have q454 : (dkTv (I0 345) (I0 340 6) (dkTe (I0 345) (I0 340 6) (dkTe (I0 345) (I0 340 6) (0)))).toInt ≠ (109 : Int) := by first | (rw [← xv452]; exact (dk_ne c453)) | (subst xv452; exact (dk_ne c453))
                      have d455 : dkN [(-2147483648, 108), (110, 2147483647)] v452 := dkN_ne1 (109) (dkN_top v452) (dkN_lit (x := 109) (109) rfl) (dk_ne c453) rfl
                      have f456 : dkN [(-2147483648, 108), (110, 2147483647)] (I436 340 12) := by rw [← ev452]; exact d455
                      refine lv_iconst (v := 0) hx hb dX6_town_130 (by decide) ?_
                      have i0 : (0 : Int32).toInt = 0 := rfl
                      have i1 : (1 : Int32).toInt = 1 := rfl
                      have i2 : (2 : Int32).toInt = 2 := rfl
                      have i3 : (3 : Int32).toInt = 3 := rfl
                      have i9 : (9 : Int32).toInt = 9 := rfl
                      have i30 : (30 : Int32).toInt = 30 := rfl
                      have i44 : (44 : Int32).toInt = 44 := rfl
                      have i59 : (59 : Int32).toInt = 59 := rfl
                      have i109 : (109 : Int32).toInt = 109 := rfl
                      have i116 : (116 : Int32).toInt = 116 := rfl
                      have e457 : dkTw (I0 345) (I0 340 6) = (1, dkTe (I0 345) (I0 340 6) (dkTe (I0 345) (I0 340 6) (0))) := dkTw_l ((dkTh_p (dkK_l (T := (I0 345)) (n := (I0 340 6)) (a := 0) (c := 116) q300 (by omega))).trans ((dkTh_p (dkK_0 (T := (I0 345)) (n := (I0 340 6)) (a := dkTe (I0 345) (I0 340 6) (0)) (lo := 3) (hi := 9) q408 (by omega) (by omega))).trans (dkTh_q (dkK_cn (T := (I0 345)) (n := (I0 340 6)) (a := dkTe (I0 345) (I0 340 6) (dkTe (I0 345) (I0 340 6) (0))) q425) (by decide)))) (by decide)
                      exact C131 I436 _ _ ls x2_1 0 hW hS hF hO hP (dkN_sub d252 rfl) (dkN_sub (dkN_lit (x := 0) (0) rfl) rfl) (show dkN [(1, 2)] (I436 340 7) from dkN_sub (by rw [hF442 340 7 rfl]; exact (by rw [eI436, dkU_n (by decide)]; exact f423_340_7)) rfl) (show dkN [(0, 90)] (I436 340 8) from dkN_sub (by rw [hF442 340 8 rfl]; exact (by rw [eI436, dkU_n (by decide)]; exact f423_340_8)) rfl) (show dkN [(0, 0), (3, 9)] (I436 347 0) from dkN_sub (by rw [hF442 347 0 rfl]; exact (by rw [eI436, dkU_sn (by decide)]; exact (by rw [hF423 347 0 rfl]; exact (by rw [eI422, dkU_ss]; exact dv356)))) rfl) (show dkN [(0, 0)] (I436 347 4) from dkN_sub (by rw [hF442 347 4 rfl]; exact (by rw [eI436, dkU_sn (by decide)]; exact (by rw [hF423 347 4 rfl]; exact (by rw [eI422, dkU_sn (by decide)]; exact (by rw [hF356 347 4 rfl]; exact (by rw [hF343 347 4 rfl]; exact (by rw [hF255 347 4 rfl]; exact (by rw [eI254, dkU_n (by decide)]; exact (by rw [eI253, dkU_n (by decide)]; exact (dkN_lit (0) (by rw [hz4]; rfl))))))))))) rfl) (show dkN [(0, 0)] (I436 347 5) from dkN_sub (by rw [hF442 347 5 rfl]; exact (by rw [eI436, dkU_sn (by decide)]; exact (by rw [hF423 347 5 rfl]; exact (by rw [eI422, dkU_sn (by decide)]; exact (by rw [hF356 347 5 rfl]; exact (by rw [hF343 347 5 rfl]; exact (by rw [hF255 347 5 rfl]; exact (by rw [eI254, dkU_n (by decide)]; exact (by rw [eI253, dkU_n (by decide)]; exact (dkN_lit (0) (by rw [hz5]; rfl))))))))))) rfl) ((funext fun j => hF442 345 j dkNin_nil).trans ((by rw [eI436, dkU_n (by decide)] : I436 345 = _).trans ((funext fun j => hF423 345 j (dkNin_k rfl dkNin_nil)).trans ((by rw [eI422, dkU_n (by decide)] : I422 345 = _).trans ((funext fun j => hF356 345 j (dkNin_k rfl dkNin_nil)).trans ((funext fun j => hF343 345 j (dkNin_k rfl dkNin_nil)).trans ((funext fun j => hF255 345 j (dkNin_k rfl dkNin_nil)).trans ((by rw [eI254, dkU_n (by decide)] : I254 345 = _).trans ((by rw [eI253, dkU_n (by decide)] : I253 345 = _).trans z2_0))))))))) ((hF442 340 17 rfl).trans ((by rw [eI436, dkU_n (by decide)] : I436 340 17 = _).trans ((hF423 340 17 rfl).trans ((by rw [eI422, dkU_n (by decide)] : I422 340 17 = _).trans ((hF356 340 17 rfl).trans ((hF343 340 17 rfl).trans ((hF255 340 17 rfl).trans ((by rw [eI254, dkU_sn (by decide)] : I254 340 17 = _).trans ((by rw [eI253, dkU_sn (by decide)] : I253 340 17 = _).trans zp2_0))))))))) ((hF442 340 6 rfl).trans ((by rw [eI436, dkU_n (by decide)] : I436 340 6 = _).trans ((hF423 340 6 rfl).trans ((by rw [eI422, dkU_n (by decide)] : I422 340 6 = _).trans ((hF356 340 6 rfl).trans ((hF343 340 6 rfl).trans ((hF255 340 6 rfl).trans ((by rw [eI254, dkU_sn (by decide)] : I254 340 6 = _).trans ((by rw [eI253, dkU_sn (by decide)] : I253 340 6 = _).trans zp2_1))))))))) ((hF442 346 0 rfl).trans ((by rw [eI436, dkU_n (by decide)] : I436 346 0 = _).trans ((hF423 346 0 rfl).trans ((by rw [eI422, dkU_n (by decide)] : I422 346 0 = _).trans ((hF356 346 0 rfl).trans ((hF343 346 0 rfl).trans ((hF255 346 0 rfl).trans ((by rw [eI254, dkU_n (by decide)] : I254 346 0 = _).trans ((by rw [eI253, dkU_n (by decide)] : I253 346 0 = _).trans zp2_3))))))))) ((hF442 346 4 rfl).trans ((by rw [eI436, dkU_n (by decide)] : I436 346 4 = _).trans ((hF423 346 4 rfl).trans ((by rw [eI422, dkU_n (by decide)] : I422 346 4 = _).trans ((hF356 346 4 rfl).trans ((hF343 346 4 rfl).trans ((hF255 346 4 rfl).trans ((by rw [eI254, dkU_n (by decide)] : I254 346 4 = _).trans ((by rw [eI253, dkU_n (by decide)] : I253 346 4 = _).trans zp2_4))))))))) ((hF442 346 5 rfl).trans ((by rw [eI436, dkU_n (by decide)] : I436 346 5 = _).trans ((hF423 346 5 rfl).trans ((by rw [eI422, dkU_n (by decide)] : I422 346 5 = _).trans ((hF356 346 5 rfl).trans ((hF343 346 5 rfl).trans ((hF255 346 5 rfl).trans ((by rw [eI254, dkU_n (by decide)] : I254 346 5 = _).trans ((by rw [eI253, dkU_n (by decide)] : I253 346 5 = _).trans zp2_5))))))))) ⟨(dkE_k e457 (by decide)), (((show I436 340 7 = 1 from ((hF442 340 7 rfl).trans ((by rw [eI436, dkU_n (by decide)] : I436 340 7 = _).trans y427)))).trans (dkP_1 e457).symm), (((show I436 340 8 = dkTe (I0 345) (I0 340 6) (dkTe (I0 345) (I0 340 6) (0)) from ((hF442 340 8 rfl).trans ((by rw [eI436, dkU_n (by decide)] : I436 340 8 = _).trans y429)))).trans (dkP_2 e457).symm)⟩ (lv_sub hl [0, 1] rfl)
                    ·
                      have q458 : (dkTv (I0 345) (I0 340 6) (dkTe (I0 345) (I0 340 6) (dkTe (I0 345) (I0 340 6) (0)))).toInt = (109 : Int) := by first | (rw [← xv452]; exact (congrArg Int32.toInt c453)) | (subst xv452; exact (congrArg Int32.toInt c453))
                      have d459 : dkN [(109, 109)] v452 := dkN_eq1 (dkN_top v452) (dkN_lit (x := 109) (109) rfl) (congrArg Int32.toInt c453) rfl
                      have f460 : dkN [(109, 109)] (I436 340 12) := by rw [← ev452]; exact d459
                      refine lv_iconst (v := 1) hx hb dX6_town_126 (by decide) ?_
                      refine lv_goto (tgt := 131) hx hb dX6_town_127 (by decide) ?_
                      have i0 : (0 : Int32).toInt = 0 := rfl
                      have i1 : (1 : Int32).toInt = 1 := rfl
                      have i2 : (2 : Int32).toInt = 2 := rfl
                      have i3 : (3 : Int32).toInt = 3 := rfl
                      have i9 : (9 : Int32).toInt = 9 := rfl
                      have i30 : (30 : Int32).toInt = 30 := rfl
                      have i44 : (44 : Int32).toInt = 44 := rfl
                      have i59 : (59 : Int32).toInt = 59 := rfl
                      have i109 : (109 : Int32).toInt = 109 := rfl
                      have i116 : (116 : Int32).toInt = 116 := rfl
                      have e461 : dkTw (I0 345) (I0 340 6) = (1, dkTe (I0 345) (I0 340 6) (dkTe (I0 345) (I0 340 6) (0))) := dkTw_l ((dkTh_p (dkK_l (T := (I0 345)) (n := (I0 340 6)) (a := 0) (c := 116) q300 (by omega))).trans ((dkTh_p (dkK_0 (T := (I0 345)) (n := (I0 340 6)) (a := dkTe (I0 345) (I0 340 6) (0)) (lo := 3) (hi := 9) q408 (by omega) (by omega))).trans (dkTh_q (dkK_cn (T := (I0 345)) (n := (I0 340 6)) (a := dkTe (I0 345) (I0 340 6) (dkTe (I0 345) (I0 340 6) (0))) q425) (by decide)))) (by decide)
                      exact C131 I436 _ _ ls x2_1 1 hW hS hF hO hP (dkN_sub d252 rfl) (dkN_sub (dkN_lit (x := 1) (1) rfl) rfl) (show dkN [(1, 2)] (I436 340 7) from dkN_sub (by rw [hF442 340 7 rfl]; exact (by rw [eI436, dkU_n (by decide)]; exact f423_340_7)) rfl) (show dkN [(0, 90)] (I436 340 8) from dkN_sub (by rw [hF442 340 8 rfl]; exact (by rw [eI436, dkU_n (by decide)]; exact f423_340_8)) rfl) (show dkN [(0, 0), (3, 9)] (I436 347 0) from dkN_sub (by rw [hF442 347 0 rfl]; exact (by rw [eI436, dkU_sn (by decide)]; exact (by rw [hF423 347 0 rfl]; exact (by rw [eI422, dkU_ss]; exact dv356)))) rfl) (show dkN [(0, 0)] (I436 347 4) from dkN_sub (by rw [hF442 347 4 rfl]; exact (by rw [eI436, dkU_sn (by decide)]; exact (by rw [hF423 347 4 rfl]; exact (by rw [eI422, dkU_sn (by decide)]; exact (by rw [hF356 347 4 rfl]; exact (by rw [hF343 347 4 rfl]; exact (by rw [hF255 347 4 rfl]; exact (by rw [eI254, dkU_n (by decide)]; exact (by rw [eI253, dkU_n (by decide)]; exact (dkN_lit (0) (by rw [hz4]; rfl))))))))))) rfl) (show dkN [(0, 0)] (I436 347 5) from dkN_sub (by rw [hF442 347 5 rfl]; exact (by rw [eI436, dkU_sn (by decide)]; exact (by rw [hF423 347 5 rfl]; exact (by rw [eI422, dkU_sn (by decide)]; exact (by rw [hF356 347 5 rfl]; exact (by rw [hF343 347 5 rfl]; exact (by rw [hF255 347 5 rfl]; exact (by rw [eI254, dkU_n (by decide)]; exact (by rw [eI253, dkU_n (by decide)]; exact (dkN_lit (0) (by rw [hz5]; rfl))))))))))) rfl) ((funext fun j => hF442 345 j dkNin_nil).trans ((by rw [eI436, dkU_n (by decide)] : I436 345 = _).trans ((funext fun j => hF423 345 j (dkNin_k rfl dkNin_nil)).trans ((by rw [eI422, dkU_n (by decide)] : I422 345 = _).trans ((funext fun j => hF356 345 j (dkNin_k rfl dkNin_nil)).trans ((funext fun j => hF343 345 j (dkNin_k rfl dkNin_nil)).trans ((funext fun j => hF255 345 j (dkNin_k rfl dkNin_nil)).trans ((by rw [eI254, dkU_n (by decide)] : I254 345 = _).trans ((by rw [eI253, dkU_n (by decide)] : I253 345 = _).trans z2_0))))))))) ((hF442 340 17 rfl).trans ((by rw [eI436, dkU_n (by decide)] : I436 340 17 = _).trans ((hF423 340 17 rfl).trans ((by rw [eI422, dkU_n (by decide)] : I422 340 17 = _).trans ((hF356 340 17 rfl).trans ((hF343 340 17 rfl).trans ((hF255 340 17 rfl).trans ((by rw [eI254, dkU_sn (by decide)] : I254 340 17 = _).trans ((by rw [eI253, dkU_sn (by decide)] : I253 340 17 = _).trans zp2_0))))))))) ((hF442 340 6 rfl).trans ((by rw [eI436, dkU_n (by decide)] : I436 340 6 = _).trans ((hF423 340 6 rfl).trans ((by rw [eI422, dkU_n (by decide)] : I422 340 6 = _).trans ((hF356 340 6 rfl).trans ((hF343 340 6 rfl).trans ((hF255 340 6 rfl).trans ((by rw [eI254, dkU_sn (by decide)] : I254 340 6 = _).trans ((by rw [eI253, dkU_sn (by decide)] : I253 340 6 = _).trans zp2_1))))))))) ((hF442 346 0 rfl).trans ((by rw [eI436, dkU_n (by decide)] : I436 346 0 = _).trans ((hF423 346 0 rfl).trans ((by rw [eI422, dkU_n (by decide)] : I422 346 0 = _).trans ((hF356 346 0 rfl).trans ((hF343 346 0 rfl).trans ((hF255 346 0 rfl).trans ((by rw [eI254, dkU_n (by decide)] : I254 346 0 = _).trans ((by rw [eI253, dkU_n (by decide)] : I253 346 0 = _).trans zp2_3))))))))) ((hF442 346 4 rfl).trans ((by rw [eI436, dkU_n (by decide)] : I436 346 4 = _).trans ((hF423 346 4 rfl).trans ((by rw [eI422, dkU_n (by decide)] : I422 346 4 = _).trans ((hF356 346 4 rfl).trans ((hF343 346 4 rfl).trans ((hF255 346 4 rfl).trans ((by rw [eI254, dkU_n (by decide)] : I254 346 4 = _).trans ((by rw [eI253, dkU_n (by decide)] : I253 346 4 = _).trans zp2_4))))))))) ((hF442 346 5 rfl).trans ((by rw [eI436, dkU_n (by decide)] : I436 346 5 = _).trans ((hF423 346 5 rfl).trans ((by rw [eI422, dkU_n (by decide)] : I422 346 5 = _).trans ((hF356 346 5 rfl).trans ((hF343 346 5 rfl).trans ((hF255 346 5 rfl).trans ((by rw [eI254, dkU_n (by decide)] : I254 346 5 = _).trans ((by rw [eI253, dkU_n (by decide)] : I253 346 5 = _).trans zp2_5))))))))) ⟨(dkE_k e461 (by decide)), (((show I436 340 7 = 1 from ((hF442 340 7 rfl).trans ((by rw [eI436, dkU_n (by decide)] : I436 340 7 = _).trans y427)))).trans (dkP_1 e461).symm), (((show I436 340 8 = dkTe (I0 345) (I0 340 6) (dkTe (I0 345) (I0 340 6) (0)) from ((hF442 340 8 rfl).trans ((by rw [eI436, dkU_n (by decide)] : I436 340 8 = _).trans y429)))).trans (dkP_2 e461).symm)⟩ (lv_sub hl [0, 1] rfl)
                ·
                  have q462 : (dkTk (I0 345) (I0 340 6) (dkTe (I0 345) (I0 340 6) (dkTe (I0 345) (I0 340 6) (0)))).toInt = (4 : Int) := by first | (rw [← xv437]; exact (congrArg Int32.toInt c438)) | (subst xv437; exact (congrArg Int32.toInt c438))
                  have d463 : dkN [(4, 4)] v437 := dkN_eq1 dv437 (dkN_lit (x := 4) (4) rfl) (congrArg Int32.toInt c438) rfl
                  have f464 : dkN [(4, 4)] (I436 340 11) := by rw [← ev437]; exact d463
                  refine lv_iconst (v := 1) hx hb dX6_town_98 (by decide) ?_
                  refine lv_goto (tgt := 103) hx hb dX6_town_99 (by decide) ?_
                  refine lv_iconst (v := 1) hx hb dX6_town_103 (by decide) ?_
                  refine dk_Vi (As := [.int 1, .int 1]) (rest := []) ⟨hx, hb, hml, hown, hts⟩ (h_X6_takes_0 l g z I436 1 1 (show dkN [(0, 90)] (I436 340 8) from dkN_sub (by rw [eI436, dkU_n (by decide)]; exact f423_340_8) rfl) hO) (cwV 2 hts gX6_town_X6_takes rfl rfl rfl (by decide +kernel) ⟨Nat.le_of_ble_eq_true rfl, Nat.le_of_ble_eq_true rfl⟩) (dk_at340 hW) rfl hK hT hW hS rfl hl.1 rfl (Nat.le_of_ble_eq_true rfl) dX6_town_104 ⟨Nat.zero_le _, Nat.zero_le _⟩ (fun v465 I465 H465 L465 hp465 hW hS => ?_)
                  obtain ⟨hF465, hO, hc465⟩ := hp465
                  have hF := dkF_call hF hF465 rfl
                  have hP := dkPP_F hP hF465 rfl
                  have eI465 : I436 = I465 := (dkF_nil hF465).symm
                  subst eI465
                  obtain ⟨dv465, xr465, -⟩ := hc465
                  have xv465 : v465 = 0 := by have h := xr465; exact h
                  refine lv_pop hx hb dX6_town_107 rfl ?_
                  refine lv_aload_n hx hb dX6_town_108 rfl (lv_at hl 0 rfl) ?_
                  refine lv_aload_n hx hb dX6_town_109 rfl (lv_at hl 0 rfl) ?_
                  refine dk_get (k := 340) hx hb hts iX6_town_6 hown hK (dk_at340 hW) rfl 11 (by decide) (hts (.fieldLink RX6 98 "DogKingsModel" "token" "I") (List.mem_of_getElem? (i := 4) rfl)) rfl dX6_town_110 ?_
                  refine lv_topi (fun v466 ev466 => ?_)
                  have dv466 : dkN [(4, 4)] v466 := by rw [ev466]; exact (by rw [hF465 340 11 rfl]; exact f464)
                  have xv466 : v466 = dkTk (I0 345) (I0 340 6) (dkTe (I0 345) (I0 340 6) (dkTe (I0 345) (I0 340 6) (0))) := ev466.trans ((hF465 340 11 rfl).trans ((by rw [eI436, dkU_n (by decide)] : I436 340 11 = _).trans y433))
                  refine lv_iconst (v := 1) hx hb dX6_town_113 (by decide) ?_
                  refine lv_icmp_ne (tgt := 130) hx hb dX6_town_114 (by decide) (fun c467 => ?_) (fun c467 => ?_)
                  ·
                    have q468 : (dkTk (I0 345) (I0 340 6) (dkTe (I0 345) (I0 340 6) (dkTe (I0 345) (I0 340 6) (0)))).toInt ≠ (1 : Int) := by first | (rw [← xv466]; exact (dk_ne c467)) | (subst xv466; exact (dk_ne c467))
                    refine lv_iconst (v := 0) hx hb dX6_town_130 (by decide) ?_
                    have i0 : (0 : Int32).toInt = 0 := rfl
                    have i1 : (1 : Int32).toInt = 1 := rfl
                    have i2 : (2 : Int32).toInt = 2 := rfl
                    have i3 : (3 : Int32).toInt = 3 := rfl
                    have i9 : (9 : Int32).toInt = 9 := rfl
                    have i30 : (30 : Int32).toInt = 30 := rfl
                    have i44 : (44 : Int32).toInt = 44 := rfl
                    have i59 : (59 : Int32).toInt = 59 := rfl
                    have i109 : (109 : Int32).toInt = 109 := rfl
                    have i116 : (116 : Int32).toInt = 116 := rfl
                    have e469 : dkTw (I0 345) (I0 340 6) = (1, dkTe (I0 345) (I0 340 6) (dkTe (I0 345) (I0 340 6) (0))) := dkTw_l ((dkTh_p (dkK_l (T := (I0 345)) (n := (I0 340 6)) (a := 0) (c := 116) q300 (by omega))).trans ((dkTh_p (dkK_0 (T := (I0 345)) (n := (I0 340 6)) (a := dkTe (I0 345) (I0 340 6) (0)) (lo := 3) (hi := 9) q408 (by omega) (by omega))).trans (dkTh_q (dkK_cn (T := (I0 345)) (n := (I0 340 6)) (a := dkTe (I0 345) (I0 340 6) (dkTe (I0 345) (I0 340 6) (0))) q425) (by decide)))) (by decide)
                    exact C131 I436 _ _ ls x2_1 0 hW hS hF hO hP (dkN_sub d252 rfl) (dkN_sub (dkN_lit (x := 0) (0) rfl) rfl) (show dkN [(1, 2)] (I436 340 7) from dkN_sub (by rw [hF465 340 7 rfl]; exact (by rw [eI436, dkU_n (by decide)]; exact f423_340_7)) rfl) (show dkN [(0, 90)] (I436 340 8) from dkN_sub (by rw [hF465 340 8 rfl]; exact (by rw [eI436, dkU_n (by decide)]; exact f423_340_8)) rfl) (show dkN [(0, 0), (3, 9)] (I436 347 0) from dkN_sub (by rw [hF465 347 0 rfl]; exact (by rw [eI436, dkU_sn (by decide)]; exact (by rw [hF423 347 0 rfl]; exact (by rw [eI422, dkU_ss]; exact dv356)))) rfl) (show dkN [(0, 0)] (I436 347 4) from dkN_sub (by rw [hF465 347 4 rfl]; exact (by rw [eI436, dkU_sn (by decide)]; exact (by rw [hF423 347 4 rfl]; exact (by rw [eI422, dkU_sn (by decide)]; exact (by rw [hF356 347 4 rfl]; exact (by rw [hF343 347 4 rfl]; exact (by rw [hF255 347 4 rfl]; exact (by rw [eI254, dkU_n (by decide)]; exact (by rw [eI253, dkU_n (by decide)]; exact (dkN_lit (0) (by rw [hz4]; rfl))))))))))) rfl) (show dkN [(0, 0)] (I436 347 5) from dkN_sub (by rw [hF465 347 5 rfl]; exact (by rw [eI436, dkU_sn (by decide)]; exact (by rw [hF423 347 5 rfl]; exact (by rw [eI422, dkU_sn (by decide)]; exact (by rw [hF356 347 5 rfl]; exact (by rw [hF343 347 5 rfl]; exact (by rw [hF255 347 5 rfl]; exact (by rw [eI254, dkU_n (by decide)]; exact (by rw [eI253, dkU_n (by decide)]; exact (dkN_lit (0) (by rw [hz5]; rfl))))))))))) rfl) ((funext fun j => hF465 345 j dkNin_nil).trans ((by rw [eI436, dkU_n (by decide)] : I436 345 = _).trans ((funext fun j => hF423 345 j (dkNin_k rfl dkNin_nil)).trans ((by rw [eI422, dkU_n (by decide)] : I422 345 = _).trans ((funext fun j => hF356 345 j (dkNin_k rfl dkNin_nil)).trans ((funext fun j => hF343 345 j (dkNin_k rfl dkNin_nil)).trans ((funext fun j => hF255 345 j (dkNin_k rfl dkNin_nil)).trans ((by rw [eI254, dkU_n (by decide)] : I254 345 = _).trans ((by rw [eI253, dkU_n (by decide)] : I253 345 = _).trans z2_0))))))))) ((hF465 340 17 rfl).trans ((by rw [eI436, dkU_n (by decide)] : I436 340 17 = _).trans ((hF423 340 17 rfl).trans ((by rw [eI422, dkU_n (by decide)] : I422 340 17 = _).trans ((hF356 340 17 rfl).trans ((hF343 340 17 rfl).trans ((hF255 340 17 rfl).trans ((by rw [eI254, dkU_sn (by decide)] : I254 340 17 = _).trans ((by rw [eI253, dkU_sn (by decide)] : I253 340 17 = _).trans zp2_0))))))))) ((hF465 340 6 rfl).trans ((by rw [eI436, dkU_n (by decide)] : I436 340 6 = _).trans ((hF423 340 6 rfl).trans ((by rw [eI422, dkU_n (by decide)] : I422 340 6 = _).trans ((hF356 340 6 rfl).trans ((hF343 340 6 rfl).trans ((hF255 340 6 rfl).trans ((by rw [eI254, dkU_sn (by decide)] : I254 340 6 = _).trans ((by rw [eI253, dkU_sn (by decide)] : I253 340 6 = _).trans zp2_1))))))))) ((hF465 346 0 rfl).trans ((by rw [eI436, dkU_n (by decide)] : I436 346 0 = _).trans ((hF423 346 0 rfl).trans ((by rw [eI422, dkU_n (by decide)] : I422 346 0 = _).trans ((hF356 346 0 rfl).trans ((hF343 346 0 rfl).trans ((hF255 346 0 rfl).trans ((by rw [eI254, dkU_n (by decide)] : I254 346 0 = _).trans ((by rw [eI253, dkU_n (by decide)] : I253 346 0 = _).trans zp2_3))))))))) ((hF465 346 4 rfl).trans ((by rw [eI436, dkU_n (by decide)] : I436 346 4 = _).trans ((hF423 346 4 rfl).trans ((by rw [eI422, dkU_n (by decide)] : I422 346 4 = _).trans ((hF356 346 4 rfl).trans ((hF343 346 4 rfl).trans ((hF255 346 4 rfl).trans ((by rw [eI254, dkU_n (by decide)] : I254 346 4 = _).trans ((by rw [eI253, dkU_n (by decide)] : I253 346 4 = _).trans zp2_4))))))))) ((hF465 346 5 rfl).trans ((by rw [eI436, dkU_n (by decide)] : I436 346 5 = _).trans ((hF423 346 5 rfl).trans ((by rw [eI422, dkU_n (by decide)] : I422 346 5 = _).trans ((hF356 346 5 rfl).trans ((hF343 346 5 rfl).trans ((hF255 346 5 rfl).trans ((by rw [eI254, dkU_n (by decide)] : I254 346 5 = _).trans ((by rw [eI253, dkU_n (by decide)] : I253 346 5 = _).trans zp2_5))))))))) ⟨(dkE_k e469 (by decide)), (((show I436 340 7 = 1 from ((hF465 340 7 rfl).trans ((by rw [eI436, dkU_n (by decide)] : I436 340 7 = _).trans y427)))).trans (dkP_1 e469).symm), (((show I436 340 8 = dkTe (I0 345) (I0 340 6) (dkTe (I0 345) (I0 340 6) (0)) from ((hF465 340 8 rfl).trans ((by rw [eI436, dkU_n (by decide)] : I436 340 8 = _).trans y429)))).trans (dkP_2 e469).symm)⟩ (lv_sub hl [0, 1] rfl)
                  ·
                    exact (dkN_nil (show dkN [] v466 from dkN_eq1 dv466 (dkN_lit (x := 1) (1) rfl) (congrArg Int32.toInt c467) rfl)).elim
              rcases hc423 with ⟨dv423, f423_340_11, f423_340_12, f423_340_7, f423_340_8, x423_0, x423_1, x423_2, x423_3, xr423, xh423_0, xh423_1, xh423_2, xh423_3, xh423_4, xh423_5, -⟩ | hc423
              ·
                have w470 : I422 340 11 = dkTk (I0 345) (I0 340 6) (dkTe (I0 345) (I0 340 6) (dkTe (I0 345) (I0 340 6) (0))) := ((by rw [eI422, dkU_n (by decide)] : I422 340 11 = _).trans y420)
                have q471 : (dkTk (I0 345) (I0 340 6) (dkTe (I0 345) (I0 340 6) (dkTe (I0 345) (I0 340 6) (0)))).toInt = (3 : Int) := by have h := x423_0; rw [w470] at h; exact h
                have w472 : I422 340 8 = (-1) := ((by rw [eI422, dkU_n (by decide)] : I422 340 8 = _).trans y414)
                have w473 : I422 345 = I0 345 := ((by rw [eI422, dkU_n (by decide)] : I422 345 = _).trans ((funext fun j => hF356 345 j (dkNin_k rfl dkNin_nil)).trans ((funext fun j => hF343 345 j (dkNin_k rfl dkNin_nil)).trans ((funext fun j => hF255 345 j (dkNin_k rfl dkNin_nil)).trans ((by rw [eI254, dkU_n (by decide)] : I254 345 = _).trans ((by rw [eI253, dkU_n (by decide)] : I253 345 = _).trans z2_0))))))
                have w474 : I422 340 6 = I0 340 6 := ((by rw [eI422, dkU_n (by decide)] : I422 340 6 = _).trans ((hF356 340 6 rfl).trans ((hF343 340 6 rfl).trans ((hF255 340 6 rfl).trans ((by rw [eI254, dkU_sn (by decide)] : I254 340 6 = _).trans ((by rw [eI253, dkU_sn (by decide)] : I253 340 6 = _).trans zp2_1))))))
                have w475 : I422 340 9 = dkTe (I0 345) (I0 340 6) (dkTe (I0 345) (I0 340 6) (dkTe (I0 345) (I0 340 6) (0))) := ((by rw [eI422, dkU_n (by decide)] : I422 340 9 = _).trans y418)
                have q476 : (dkTk (I0 345) (I0 340 6) (dkTe (I0 345) (I0 340 6) (dkTe (I0 345) (I0 340 6) (dkTe (I0 345) (I0 340 6) (0))))).toInt = (2 : Int) := by have h := x423_2; rw [w473, w474, w475] at h; exact h
                have q477 : (dkTv (I0 345) (I0 340 6) (dkTe (I0 345) (I0 340 6) (dkTe (I0 345) (I0 340 6) (dkTe (I0 345) (I0 340 6) (0))))).toInt + 1 ≤ (1 : Int) := by have h := x423_3; rw [w473, w474, w475] at h; exact h
                have y478 : I423 340 7 = 2 := by have h := xh423_0; exact h
                have y479 : I423 340 8 = dkTe (I0 345) (I0 340 6) (dkTe (I0 345) (I0 340 6) (dkTe (I0 345) (I0 340 6) (0))) := by have h := xh423_1; rw [w475] at h; exact h
                have y480 : I423 340 9 = dkTe (I0 345) (I0 340 6) (dkTe (I0 345) (I0 340 6) (dkTe (I0 345) (I0 340 6) (dkTe (I0 345) (I0 340 6) (0)))) := by have h := xh423_2; rw [w473, w474, w475] at h; exact h
                have y481 : I423 340 10 = dkTe (I0 345) (I0 340 6) (dkTe (I0 345) (I0 340 6) (dkTe (I0 345) (I0 340 6) (0))) := by have h := xh423_3; rw [w475] at h; exact h
                have y482 : I423 340 11 = dkTk (I0 345) (I0 340 6) (dkTe (I0 345) (I0 340 6) (dkTe (I0 345) (I0 340 6) (dkTe (I0 345) (I0 340 6) (0)))) := by have h := xh423_4; rw [w473, w474, w475] at h; exact h
                have y483 : I423 340 12 = dkTv (I0 345) (I0 340 6) (dkTe (I0 345) (I0 340 6) (dkTe (I0 345) (I0 340 6) (dkTe (I0 345) (I0 340 6) (0)))) := by have h := xh423_5; rw [w473, w474, w475] at h; exact h
                have xv423 : v423 = 0 := by have h := xr423; exact h
                refine dk_ist (k := 347) hx hb hK hW (fun _ => rfl) (by decide) hS (dkN_in (n := 54) (dkN_lit (x := 1) (1) rfl) rfl) dX6_town_88 (fun I484 H484 L484 eI484 hW hS => ?_)
                have eI484 : I484 = dkU I423 347 1 v423 := eI484
                have hO := dkO_set hO eI484 (dkN_sub dv423 rfl)
                have hF := dkF_set hF eI484 rfl
                have hP := dkPP_set hP eI484 rfl
                refine lv_aload_n hx hb dX6_town_89 rfl (lv_at hl 0 rfl) ?_
                refine lv_aload_n hx hb dX6_town_90 rfl (lv_at hl 0 rfl) ?_
                refine dk_get (k := 340) hx hb hts iX6_town_6 hown hK (dk_at340 hW) rfl 11 (by decide) (hts (.fieldLink RX6 98 "DogKingsModel" "token" "I") (List.mem_of_getElem? (i := 4) rfl)) rfl dX6_town_91 ?_
                refine lv_topi (fun v485 ev485 => ?_)
                have dv485 : dkN [(2, 2)] v485 := by rw [ev485]; exact (by rw [eI484, dkU_n (by decide)]; exact f423_340_11)
                have xv485 : v485 = dkTk (I0 345) (I0 340 6) (dkTe (I0 345) (I0 340 6) (dkTe (I0 345) (I0 340 6) (dkTe (I0 345) (I0 340 6) (0)))) := ev485.trans ((by rw [eI484, dkU_n (by decide)] : I484 340 11 = _).trans y482)
                refine lv_iconst (v := 4) hx hb dX6_town_94 (by decide) ?_
                refine lv_icmp_ne (tgt := 102) hx hb dX6_town_95 (by decide) (fun c486 => ?_) (fun c486 => ?_)
                ·
                  have q487 : (dkTk (I0 345) (I0 340 6) (dkTe (I0 345) (I0 340 6) (dkTe (I0 345) (I0 340 6) (dkTe (I0 345) (I0 340 6) (0))))).toInt ≠ (4 : Int) := by first | (rw [← xv485]; exact (dk_ne c486)) | (subst xv485; exact (dk_ne c486))
                  refine lv_iconst (v := 0) hx hb dX6_town_102 (by decide) ?_
                  refine lv_iconst (v := 1) hx hb dX6_town_103 (by decide) ?_
                  refine dk_Vi (As := [.int 0, .int 1]) (rest := []) ⟨hx, hb, hml, hown, hts⟩ (h_X6_takes_0 l g z I484 0 1 (show dkN [(0, 90)] (I484 340 8) from dkN_sub (by rw [eI484, dkU_n (by decide)]; exact f423_340_8) rfl) hO) (cwV 2 hts gX6_town_X6_takes rfl rfl rfl (by decide +kernel) ⟨Nat.le_of_ble_eq_true rfl, Nat.le_of_ble_eq_true rfl⟩) (dk_at340 hW) rfl hK hT hW hS rfl hl.1 rfl (Nat.le_of_ble_eq_true rfl) dX6_town_104 ⟨Nat.zero_le _, Nat.zero_le _⟩ (fun v488 I488 H488 L488 hp488 hW hS => ?_)
                  obtain ⟨hF488, hO, hc488⟩ := hp488
                  have hF := dkF_call hF hF488 rfl
                  have hP := dkPP_F hP hF488 rfl
                  have eI488 : I484 = I488 := (dkF_nil hF488).symm
                  subst eI488
                  obtain ⟨dv488, xr488, -⟩ := hc488
                  have xv488 : v488 = 0 := by have h := xr488; exact h
                  refine lv_pop hx hb dX6_town_107 rfl ?_
                  refine lv_aload_n hx hb dX6_town_108 rfl (lv_at hl 0 rfl) ?_
                  refine lv_aload_n hx hb dX6_town_109 rfl (lv_at hl 0 rfl) ?_
                  refine dk_get (k := 340) hx hb hts iX6_town_6 hown hK (dk_at340 hW) rfl 11 (by decide) (hts (.fieldLink RX6 98 "DogKingsModel" "token" "I") (List.mem_of_getElem? (i := 4) rfl)) rfl dX6_town_110 ?_
                  refine lv_topi (fun v489 ev489 => ?_)
                  have dv489 : dkN [(2, 2)] v489 := by rw [ev489]; exact (by rw [hF488 340 11 rfl]; exact (by rw [eI484, dkU_n (by decide)]; exact f423_340_11))
                  have xv489 : v489 = dkTk (I0 345) (I0 340 6) (dkTe (I0 345) (I0 340 6) (dkTe (I0 345) (I0 340 6) (dkTe (I0 345) (I0 340 6) (0)))) := ev489.trans ((hF488 340 11 rfl).trans ((by rw [eI484, dkU_n (by decide)] : I484 340 11 = _).trans y482))
                  refine lv_iconst (v := 1) hx hb dX6_town_113 (by decide) ?_
                  refine lv_icmp_ne (tgt := 130) hx hb dX6_town_114 (by decide) (fun c490 => ?_) (fun c490 => ?_)
                  ·
                    have q491 : (dkTk (I0 345) (I0 340 6) (dkTe (I0 345) (I0 340 6) (dkTe (I0 345) (I0 340 6) (dkTe (I0 345) (I0 340 6) (0))))).toInt ≠ (1 : Int) := by first | (rw [← xv489]; exact (dk_ne c490)) | (subst xv489; exact (dk_ne c490))
                    refine lv_iconst (v := 0) hx hb dX6_town_130 (by decide) ?_
                    have i0 : (0 : Int32).toInt = 0 := rfl
                    have i1 : (1 : Int32).toInt = 1 := rfl
                    have i2 : (2 : Int32).toInt = 2 := rfl
                    have i3 : (3 : Int32).toInt = 3 := rfl
                    have i9 : (9 : Int32).toInt = 9 := rfl
                    have i30 : (30 : Int32).toInt = 30 := rfl
                    have i44 : (44 : Int32).toInt = 44 := rfl
                    have i59 : (59 : Int32).toInt = 59 := rfl
                    have i109 : (109 : Int32).toInt = 109 := rfl
                    have i116 : (116 : Int32).toInt = 116 := rfl
                    have e492 : dkTw (I0 345) (I0 340 6) = (2, dkTe (I0 345) (I0 340 6) (dkTe (I0 345) (I0 340 6) (dkTe (I0 345) (I0 340 6) (0)))) := dkTw_l ((dkTh_p (dkK_l (T := (I0 345)) (n := (I0 340 6)) (a := 0) (c := 116) q300 (by omega))).trans ((dkTh_p (dkK_0 (T := (I0 345)) (n := (I0 340 6)) (a := dkTe (I0 345) (I0 340 6) (0)) (lo := 3) (hi := 9) q408 (by omega) (by omega))).trans ((dkTh_p (dkK_c (T := (I0 345)) (n := (I0 340 6)) (a := dkTe (I0 345) (I0 340 6) (dkTe (I0 345) (I0 340 6) (0))) q471)).trans (dkTh_q (dkK_2 (T := (I0 345)) (n := (I0 340 6)) (a := dkTe (I0 345) (I0 340 6) (dkTe (I0 345) (I0 340 6) (dkTe (I0 345) (I0 340 6) (0)))) (lo := 1) (hi := 30) q476 (by omega)) (by decide))))) (by decide)
                    exact C131 I484 _ _ ls x2_1 0 hW hS hF hO hP (dkN_sub d252 rfl) (dkN_sub (dkN_lit (x := 0) (0) rfl) rfl) (show dkN [(1, 2)] (I484 340 7) from dkN_sub (by rw [hF488 340 7 rfl]; exact (by rw [eI484, dkU_n (by decide)]; exact f423_340_7)) rfl) (show dkN [(0, 90)] (I484 340 8) from dkN_sub (by rw [hF488 340 8 rfl]; exact (by rw [eI484, dkU_n (by decide)]; exact f423_340_8)) rfl) (show dkN [(0, 0), (3, 9)] (I484 347 0) from dkN_sub (by rw [hF488 347 0 rfl]; exact (by rw [eI484, dkU_sn (by decide)]; exact (by rw [hF423 347 0 rfl]; exact (by rw [eI422, dkU_ss]; exact dv356)))) rfl) (show dkN [(0, 0)] (I484 347 4) from dkN_sub (by rw [hF488 347 4 rfl]; exact (by rw [eI484, dkU_sn (by decide)]; exact (by rw [hF423 347 4 rfl]; exact (by rw [eI422, dkU_sn (by decide)]; exact (by rw [hF356 347 4 rfl]; exact (by rw [hF343 347 4 rfl]; exact (by rw [hF255 347 4 rfl]; exact (by rw [eI254, dkU_n (by decide)]; exact (by rw [eI253, dkU_n (by decide)]; exact (dkN_lit (0) (by rw [hz4]; rfl))))))))))) rfl) (show dkN [(0, 0)] (I484 347 5) from dkN_sub (by rw [hF488 347 5 rfl]; exact (by rw [eI484, dkU_sn (by decide)]; exact (by rw [hF423 347 5 rfl]; exact (by rw [eI422, dkU_sn (by decide)]; exact (by rw [hF356 347 5 rfl]; exact (by rw [hF343 347 5 rfl]; exact (by rw [hF255 347 5 rfl]; exact (by rw [eI254, dkU_n (by decide)]; exact (by rw [eI253, dkU_n (by decide)]; exact (dkN_lit (0) (by rw [hz5]; rfl))))))))))) rfl) ((funext fun j => hF488 345 j dkNin_nil).trans ((by rw [eI484, dkU_n (by decide)] : I484 345 = _).trans ((funext fun j => hF423 345 j (dkNin_k rfl dkNin_nil)).trans ((by rw [eI422, dkU_n (by decide)] : I422 345 = _).trans ((funext fun j => hF356 345 j (dkNin_k rfl dkNin_nil)).trans ((funext fun j => hF343 345 j (dkNin_k rfl dkNin_nil)).trans ((funext fun j => hF255 345 j (dkNin_k rfl dkNin_nil)).trans ((by rw [eI254, dkU_n (by decide)] : I254 345 = _).trans ((by rw [eI253, dkU_n (by decide)] : I253 345 = _).trans z2_0))))))))) ((hF488 340 17 rfl).trans ((by rw [eI484, dkU_n (by decide)] : I484 340 17 = _).trans ((hF423 340 17 rfl).trans ((by rw [eI422, dkU_n (by decide)] : I422 340 17 = _).trans ((hF356 340 17 rfl).trans ((hF343 340 17 rfl).trans ((hF255 340 17 rfl).trans ((by rw [eI254, dkU_sn (by decide)] : I254 340 17 = _).trans ((by rw [eI253, dkU_sn (by decide)] : I253 340 17 = _).trans zp2_0))))))))) ((hF488 340 6 rfl).trans ((by rw [eI484, dkU_n (by decide)] : I484 340 6 = _).trans ((hF423 340 6 rfl).trans ((by rw [eI422, dkU_n (by decide)] : I422 340 6 = _).trans ((hF356 340 6 rfl).trans ((hF343 340 6 rfl).trans ((hF255 340 6 rfl).trans ((by rw [eI254, dkU_sn (by decide)] : I254 340 6 = _).trans ((by rw [eI253, dkU_sn (by decide)] : I253 340 6 = _).trans zp2_1))))))))) ((hF488 346 0 rfl).trans ((by rw [eI484, dkU_n (by decide)] : I484 346 0 = _).trans ((hF423 346 0 rfl).trans ((by rw [eI422, dkU_n (by decide)] : I422 346 0 = _).trans ((hF356 346 0 rfl).trans ((hF343 346 0 rfl).trans ((hF255 346 0 rfl).trans ((by rw [eI254, dkU_n (by decide)] : I254 346 0 = _).trans ((by rw [eI253, dkU_n (by decide)] : I253 346 0 = _).trans zp2_3))))))))) ((hF488 346 4 rfl).trans ((by rw [eI484, dkU_n (by decide)] : I484 346 4 = _).trans ((hF423 346 4 rfl).trans ((by rw [eI422, dkU_n (by decide)] : I422 346 4 = _).trans ((hF356 346 4 rfl).trans ((hF343 346 4 rfl).trans ((hF255 346 4 rfl).trans ((by rw [eI254, dkU_n (by decide)] : I254 346 4 = _).trans ((by rw [eI253, dkU_n (by decide)] : I253 346 4 = _).trans zp2_4))))))))) ((hF488 346 5 rfl).trans ((by rw [eI484, dkU_n (by decide)] : I484 346 5 = _).trans ((hF423 346 5 rfl).trans ((by rw [eI422, dkU_n (by decide)] : I422 346 5 = _).trans ((hF356 346 5 rfl).trans ((hF343 346 5 rfl).trans ((hF255 346 5 rfl).trans ((by rw [eI254, dkU_n (by decide)] : I254 346 5 = _).trans ((by rw [eI253, dkU_n (by decide)] : I253 346 5 = _).trans zp2_5))))))))) ⟨(dkE_k e492 (by decide)), (((show I484 340 7 = 2 from ((hF488 340 7 rfl).trans ((by rw [eI484, dkU_n (by decide)] : I484 340 7 = _).trans y478)))).trans (dkP_1 e492).symm), (((show I484 340 8 = dkTe (I0 345) (I0 340 6) (dkTe (I0 345) (I0 340 6) (dkTe (I0 345) (I0 340 6) (0))) from ((hF488 340 8 rfl).trans ((by rw [eI484, dkU_n (by decide)] : I484 340 8 = _).trans y479)))).trans (dkP_2 e492).symm)⟩ (lv_sub hl [0, 1] rfl)
                  ·
                    exact (dkN_nil (show dkN [] v489 from dkN_eq1 dv489 (dkN_lit (x := 1) (1) rfl) (congrArg Int32.toInt c490) rfl)).elim
                ·
                  exact (dkN_nil (show dkN [] v485 from dkN_eq1 dv485 (dkN_lit (x := 4) (4) rfl) (congrArg Int32.toInt c486) rfl)).elim
              rcases hc423 with ⟨dv423, f423_340_11, f423_340_12, f423_340_7, f423_340_8, x423_0, x423_1, x423_2, x423_3, x423_4, xr423, xh423_0, xh423_1, xh423_2, xh423_3, xh423_4, xh423_5, -⟩ | hc423
              ·
                have w493 : I422 340 11 = dkTk (I0 345) (I0 340 6) (dkTe (I0 345) (I0 340 6) (dkTe (I0 345) (I0 340 6) (0))) := ((by rw [eI422, dkU_n (by decide)] : I422 340 11 = _).trans y420)
                have q494 : (dkTk (I0 345) (I0 340 6) (dkTe (I0 345) (I0 340 6) (dkTe (I0 345) (I0 340 6) (0)))).toInt = (3 : Int) := by have h := x423_0; rw [w493] at h; exact h
                have w495 : I422 340 8 = (-1) := ((by rw [eI422, dkU_n (by decide)] : I422 340 8 = _).trans y414)
                have w496 : I422 345 = I0 345 := ((by rw [eI422, dkU_n (by decide)] : I422 345 = _).trans ((funext fun j => hF356 345 j (dkNin_k rfl dkNin_nil)).trans ((funext fun j => hF343 345 j (dkNin_k rfl dkNin_nil)).trans ((funext fun j => hF255 345 j (dkNin_k rfl dkNin_nil)).trans ((by rw [eI254, dkU_n (by decide)] : I254 345 = _).trans ((by rw [eI253, dkU_n (by decide)] : I253 345 = _).trans z2_0))))))
                have w497 : I422 340 6 = I0 340 6 := ((by rw [eI422, dkU_n (by decide)] : I422 340 6 = _).trans ((hF356 340 6 rfl).trans ((hF343 340 6 rfl).trans ((hF255 340 6 rfl).trans ((by rw [eI254, dkU_sn (by decide)] : I254 340 6 = _).trans ((by rw [eI253, dkU_sn (by decide)] : I253 340 6 = _).trans zp2_1))))))
                have w498 : I422 340 9 = dkTe (I0 345) (I0 340 6) (dkTe (I0 345) (I0 340 6) (dkTe (I0 345) (I0 340 6) (0))) := ((by rw [eI422, dkU_n (by decide)] : I422 340 9 = _).trans y418)
                have q499 : (dkTk (I0 345) (I0 340 6) (dkTe (I0 345) (I0 340 6) (dkTe (I0 345) (I0 340 6) (dkTe (I0 345) (I0 340 6) (0))))).toInt = (2 : Int) := by have h := x423_2; rw [w496, w497, w498] at h; exact h
                have q500 : (1 : Int) + 0 ≤ (dkTv (I0 345) (I0 340 6) (dkTe (I0 345) (I0 340 6) (dkTe (I0 345) (I0 340 6) (dkTe (I0 345) (I0 340 6) (0))))).toInt := by have h := x423_3; rw [w496, w497, w498] at h; exact h
                have q501 : (30 : Int) + 1 ≤ (dkTv (I0 345) (I0 340 6) (dkTe (I0 345) (I0 340 6) (dkTe (I0 345) (I0 340 6) (dkTe (I0 345) (I0 340 6) (0))))).toInt := by have h := x423_4; rw [w496, w497, w498] at h; exact h
                have y502 : I423 340 7 = 2 := by have h := xh423_0; exact h
                have y503 : I423 340 8 = dkTe (I0 345) (I0 340 6) (dkTe (I0 345) (I0 340 6) (dkTe (I0 345) (I0 340 6) (0))) := by have h := xh423_1; rw [w498] at h; exact h
                have y504 : I423 340 9 = dkTe (I0 345) (I0 340 6) (dkTe (I0 345) (I0 340 6) (dkTe (I0 345) (I0 340 6) (dkTe (I0 345) (I0 340 6) (0)))) := by have h := xh423_2; rw [w496, w497, w498] at h; exact h
                have y505 : I423 340 10 = dkTe (I0 345) (I0 340 6) (dkTe (I0 345) (I0 340 6) (dkTe (I0 345) (I0 340 6) (0))) := by have h := xh423_3; rw [w498] at h; exact h
                have y506 : I423 340 11 = dkTk (I0 345) (I0 340 6) (dkTe (I0 345) (I0 340 6) (dkTe (I0 345) (I0 340 6) (dkTe (I0 345) (I0 340 6) (0)))) := by have h := xh423_4; rw [w496, w497, w498] at h; exact h
                have y507 : I423 340 12 = dkTv (I0 345) (I0 340 6) (dkTe (I0 345) (I0 340 6) (dkTe (I0 345) (I0 340 6) (dkTe (I0 345) (I0 340 6) (0)))) := by have h := xh423_5; rw [w496, w497, w498] at h; exact h
                have xv423 : v423 = 0 := by have h := xr423; exact h
                refine dk_ist (k := 347) hx hb hK hW (fun _ => rfl) (by decide) hS (dkN_in (n := 54) (dkN_lit (x := 1) (1) rfl) rfl) dX6_town_88 (fun I508 H508 L508 eI508 hW hS => ?_)
                have eI508 : I508 = dkU I423 347 1 v423 := eI508
                have hO := dkO_set hO eI508 (dkN_sub dv423 rfl)
                have hF := dkF_set hF eI508 rfl
                have hP := dkPP_set hP eI508 rfl
                refine lv_aload_n hx hb dX6_town_89 rfl (lv_at hl 0 rfl) ?_
                refine lv_aload_n hx hb dX6_town_90 rfl (lv_at hl 0 rfl) ?_
                refine dk_get (k := 340) hx hb hts iX6_town_6 hown hK (dk_at340 hW) rfl 11 (by decide) (hts (.fieldLink RX6 98 "DogKingsModel" "token" "I") (List.mem_of_getElem? (i := 4) rfl)) rfl dX6_town_91 ?_
                refine lv_topi (fun v509 ev509 => ?_)
                have dv509 : dkN [(2, 2)] v509 := by rw [ev509]; exact (by rw [eI508, dkU_n (by decide)]; exact f423_340_11)
                have xv509 : v509 = dkTk (I0 345) (I0 340 6) (dkTe (I0 345) (I0 340 6) (dkTe (I0 345) (I0 340 6) (dkTe (I0 345) (I0 340 6) (0)))) := ev509.trans ((by rw [eI508, dkU_n (by decide)] : I508 340 11 = _).trans y506)
                refine lv_iconst (v := 4) hx hb dX6_town_94 (by decide) ?_
                refine lv_icmp_ne (tgt := 102) hx hb dX6_town_95 (by decide) (fun c510 => ?_) (fun c510 => ?_)
                ·
                  have q511 : (dkTk (I0 345) (I0 340 6) (dkTe (I0 345) (I0 340 6) (dkTe (I0 345) (I0 340 6) (dkTe (I0 345) (I0 340 6) (0))))).toInt ≠ (4 : Int) := by first | (rw [← xv509]; exact (dk_ne c510)) | (subst xv509; exact (dk_ne c510))
                  refine lv_iconst (v := 0) hx hb dX6_town_102 (by decide) ?_
                  refine lv_iconst (v := 1) hx hb dX6_town_103 (by decide) ?_
                  refine dk_Vi (As := [.int 0, .int 1]) (rest := []) ⟨hx, hb, hml, hown, hts⟩ (h_X6_takes_0 l g z I508 0 1 (show dkN [(0, 90)] (I508 340 8) from dkN_sub (by rw [eI508, dkU_n (by decide)]; exact f423_340_8) rfl) hO) (cwV 2 hts gX6_town_X6_takes rfl rfl rfl (by decide +kernel) ⟨Nat.le_of_ble_eq_true rfl, Nat.le_of_ble_eq_true rfl⟩) (dk_at340 hW) rfl hK hT hW hS rfl hl.1 rfl (Nat.le_of_ble_eq_true rfl) dX6_town_104 ⟨Nat.zero_le _, Nat.zero_le _⟩ (fun v512 I512 H512 L512 hp512 hW hS => ?_)
                  obtain ⟨hF512, hO, hc512⟩ := hp512
                  have hF := dkF_call hF hF512 rfl
                  have hP := dkPP_F hP hF512 rfl
                  have eI512 : I508 = I512 := (dkF_nil hF512).symm
                  subst eI512
                  obtain ⟨dv512, xr512, -⟩ := hc512
                  have xv512 : v512 = 0 := by have h := xr512; exact h
                  refine lv_pop hx hb dX6_town_107 rfl ?_
                  refine lv_aload_n hx hb dX6_town_108 rfl (lv_at hl 0 rfl) ?_
                  refine lv_aload_n hx hb dX6_town_109 rfl (lv_at hl 0 rfl) ?_
                  refine dk_get (k := 340) hx hb hts iX6_town_6 hown hK (dk_at340 hW) rfl 11 (by decide) (hts (.fieldLink RX6 98 "DogKingsModel" "token" "I") (List.mem_of_getElem? (i := 4) rfl)) rfl dX6_town_110 ?_
                  refine lv_topi (fun v513 ev513 => ?_)
                  have dv513 : dkN [(2, 2)] v513 := by rw [ev513]; exact (by rw [hF512 340 11 rfl]; exact (by rw [eI508, dkU_n (by decide)]; exact f423_340_11))
                  have xv513 : v513 = dkTk (I0 345) (I0 340 6) (dkTe (I0 345) (I0 340 6) (dkTe (I0 345) (I0 340 6) (dkTe (I0 345) (I0 340 6) (0)))) := ev513.trans ((hF512 340 11 rfl).trans ((by rw [eI508, dkU_n (by decide)] : I508 340 11 = _).trans y506))
                  refine lv_iconst (v := 1) hx hb dX6_town_113 (by decide) ?_
                  refine lv_icmp_ne (tgt := 130) hx hb dX6_town_114 (by decide) (fun c514 => ?_) (fun c514 => ?_)
                  ·
                    have q515 : (dkTk (I0 345) (I0 340 6) (dkTe (I0 345) (I0 340 6) (dkTe (I0 345) (I0 340 6) (dkTe (I0 345) (I0 340 6) (0))))).toInt ≠ (1 : Int) := by first | (rw [← xv513]; exact (dk_ne c514)) | (subst xv513; exact (dk_ne c514))
                    refine lv_iconst (v := 0) hx hb dX6_town_130 (by decide) ?_
                    have i0 : (0 : Int32).toInt = 0 := rfl
                    have i1 : (1 : Int32).toInt = 1 := rfl
                    have i2 : (2 : Int32).toInt = 2 := rfl
                    have i3 : (3 : Int32).toInt = 3 := rfl
                    have i9 : (9 : Int32).toInt = 9 := rfl
                    have i30 : (30 : Int32).toInt = 30 := rfl
                    have i44 : (44 : Int32).toInt = 44 := rfl
                    have i59 : (59 : Int32).toInt = 59 := rfl
                    have i109 : (109 : Int32).toInt = 109 := rfl
                    have i116 : (116 : Int32).toInt = 116 := rfl
                    have e516 : dkTw (I0 345) (I0 340 6) = (2, dkTe (I0 345) (I0 340 6) (dkTe (I0 345) (I0 340 6) (dkTe (I0 345) (I0 340 6) (0)))) := dkTw_l ((dkTh_p (dkK_l (T := (I0 345)) (n := (I0 340 6)) (a := 0) (c := 116) q300 (by omega))).trans ((dkTh_p (dkK_0 (T := (I0 345)) (n := (I0 340 6)) (a := dkTe (I0 345) (I0 340 6) (0)) (lo := 3) (hi := 9) q408 (by omega) (by omega))).trans ((dkTh_p (dkK_c (T := (I0 345)) (n := (I0 340 6)) (a := dkTe (I0 345) (I0 340 6) (dkTe (I0 345) (I0 340 6) (0))) q494)).trans (dkTh_q (dkK_2 (T := (I0 345)) (n := (I0 340 6)) (a := dkTe (I0 345) (I0 340 6) (dkTe (I0 345) (I0 340 6) (dkTe (I0 345) (I0 340 6) (0)))) (lo := 1) (hi := 30) q499 (by omega)) (by decide))))) (by decide)
                    exact C131 I508 _ _ ls x2_1 0 hW hS hF hO hP (dkN_sub d252 rfl) (dkN_sub (dkN_lit (x := 0) (0) rfl) rfl) (show dkN [(1, 2)] (I508 340 7) from dkN_sub (by rw [hF512 340 7 rfl]; exact (by rw [eI508, dkU_n (by decide)]; exact f423_340_7)) rfl) (show dkN [(0, 90)] (I508 340 8) from dkN_sub (by rw [hF512 340 8 rfl]; exact (by rw [eI508, dkU_n (by decide)]; exact f423_340_8)) rfl) (show dkN [(0, 0), (3, 9)] (I508 347 0) from dkN_sub (by rw [hF512 347 0 rfl]; exact (by rw [eI508, dkU_sn (by decide)]; exact (by rw [hF423 347 0 rfl]; exact (by rw [eI422, dkU_ss]; exact dv356)))) rfl) (show dkN [(0, 0)] (I508 347 4) from dkN_sub (by rw [hF512 347 4 rfl]; exact (by rw [eI508, dkU_sn (by decide)]; exact (by rw [hF423 347 4 rfl]; exact (by rw [eI422, dkU_sn (by decide)]; exact (by rw [hF356 347 4 rfl]; exact (by rw [hF343 347 4 rfl]; exact (by rw [hF255 347 4 rfl]; exact (by rw [eI254, dkU_n (by decide)]; exact (by rw [eI253, dkU_n (by decide)]; exact (dkN_lit (0) (by rw [hz4]; rfl))))))))))) rfl) (show dkN [(0, 0)] (I508 347 5) from dkN_sub (by rw [hF512 347 5 rfl]; exact (by rw [eI508, dkU_sn (by decide)]; exact (by rw [hF423 347 5 rfl]; exact (by rw [eI422, dkU_sn (by decide)]; exact (by rw [hF356 347 5 rfl]; exact (by rw [hF343 347 5 rfl]; exact (by rw [hF255 347 5 rfl]; exact (by rw [eI254, dkU_n (by decide)]; exact (by rw [eI253, dkU_n (by decide)]; exact (dkN_lit (0) (by rw [hz5]; rfl))))))))))) rfl) ((funext fun j => hF512 345 j dkNin_nil).trans ((by rw [eI508, dkU_n (by decide)] : I508 345 = _).trans ((funext fun j => hF423 345 j (dkNin_k rfl dkNin_nil)).trans ((by rw [eI422, dkU_n (by decide)] : I422 345 = _).trans ((funext fun j => hF356 345 j (dkNin_k rfl dkNin_nil)).trans ((funext fun j => hF343 345 j (dkNin_k rfl dkNin_nil)).trans ((funext fun j => hF255 345 j (dkNin_k rfl dkNin_nil)).trans ((by rw [eI254, dkU_n (by decide)] : I254 345 = _).trans ((by rw [eI253, dkU_n (by decide)] : I253 345 = _).trans z2_0))))))))) ((hF512 340 17 rfl).trans ((by rw [eI508, dkU_n (by decide)] : I508 340 17 = _).trans ((hF423 340 17 rfl).trans ((by rw [eI422, dkU_n (by decide)] : I422 340 17 = _).trans ((hF356 340 17 rfl).trans ((hF343 340 17 rfl).trans ((hF255 340 17 rfl).trans ((by rw [eI254, dkU_sn (by decide)] : I254 340 17 = _).trans ((by rw [eI253, dkU_sn (by decide)] : I253 340 17 = _).trans zp2_0))))))))) ((hF512 340 6 rfl).trans ((by rw [eI508, dkU_n (by decide)] : I508 340 6 = _).trans ((hF423 340 6 rfl).trans ((by rw [eI422, dkU_n (by decide)] : I422 340 6 = _).trans ((hF356 340 6 rfl).trans ((hF343 340 6 rfl).trans ((hF255 340 6 rfl).trans ((by rw [eI254, dkU_sn (by decide)] : I254 340 6 = _).trans ((by rw [eI253, dkU_sn (by decide)] : I253 340 6 = _).trans zp2_1))))))))) ((hF512 346 0 rfl).trans ((by rw [eI508, dkU_n (by decide)] : I508 346 0 = _).trans ((hF423 346 0 rfl).trans ((by rw [eI422, dkU_n (by decide)] : I422 346 0 = _).trans ((hF356 346 0 rfl).trans ((hF343 346 0 rfl).trans ((hF255 346 0 rfl).trans ((by rw [eI254, dkU_n (by decide)] : I254 346 0 = _).trans ((by rw [eI253, dkU_n (by decide)] : I253 346 0 = _).trans zp2_3))))))))) ((hF512 346 4 rfl).trans ((by rw [eI508, dkU_n (by decide)] : I508 346 4 = _).trans ((hF423 346 4 rfl).trans ((by rw [eI422, dkU_n (by decide)] : I422 346 4 = _).trans ((hF356 346 4 rfl).trans ((hF343 346 4 rfl).trans ((hF255 346 4 rfl).trans ((by rw [eI254, dkU_n (by decide)] : I254 346 4 = _).trans ((by rw [eI253, dkU_n (by decide)] : I253 346 4 = _).trans zp2_4))))))))) ((hF512 346 5 rfl).trans ((by rw [eI508, dkU_n (by decide)] : I508 346 5 = _).trans ((hF423 346 5 rfl).trans ((by rw [eI422, dkU_n (by decide)] : I422 346 5 = _).trans ((hF356 346 5 rfl).trans ((hF343 346 5 rfl).trans ((hF255 346 5 rfl).trans ((by rw [eI254, dkU_n (by decide)] : I254 346 5 = _).trans ((by rw [eI253, dkU_n (by decide)] : I253 346 5 = _).trans zp2_5))))))))) ⟨(dkE_k e516 (by decide)), (((show I508 340 7 = 2 from ((hF512 340 7 rfl).trans ((by rw [eI508, dkU_n (by decide)] : I508 340 7 = _).trans y502)))).trans (dkP_1 e516).symm), (((show I508 340 8 = dkTe (I0 345) (I0 340 6) (dkTe (I0 345) (I0 340 6) (dkTe (I0 345) (I0 340 6) (0))) from ((hF512 340 8 rfl).trans ((by rw [eI508, dkU_n (by decide)] : I508 340 8 = _).trans y503)))).trans (dkP_2 e516).symm)⟩ (lv_sub hl [0, 1] rfl)
                  ·
                    exact (dkN_nil (show dkN [] v513 from dkN_eq1 dv513 (dkN_lit (x := 1) (1) rfl) (congrArg Int32.toInt c514) rfl)).elim
                ·
                  exact (dkN_nil (show dkN [] v509 from dkN_eq1 dv509 (dkN_lit (x := 4) (4) rfl) (congrArg Int32.toInt c510) rfl)).elim
              rcases hc423 with ⟨dv423, f423_340_11, f423_340_8, x423_0, x423_1, x423_2, x423_3, x423_4, xr423, xh423_0, xh423_1, xh423_2, xh423_3, xh423_4, xh423_5, -⟩ | hc423
              ·
                have w517 : I422 340 11 = dkTk (I0 345) (I0 340 6) (dkTe (I0 345) (I0 340 6) (dkTe (I0 345) (I0 340 6) (0))) := ((by rw [eI422, dkU_n (by decide)] : I422 340 11 = _).trans y420)
                have q518 : (dkTk (I0 345) (I0 340 6) (dkTe (I0 345) (I0 340 6) (dkTe (I0 345) (I0 340 6) (0)))).toInt = (3 : Int) := by have h := x423_0; rw [w517] at h; exact h
                have w519 : I422 340 8 = (-1) := ((by rw [eI422, dkU_n (by decide)] : I422 340 8 = _).trans y414)
                have w520 : I422 345 = I0 345 := ((by rw [eI422, dkU_n (by decide)] : I422 345 = _).trans ((funext fun j => hF356 345 j (dkNin_k rfl dkNin_nil)).trans ((funext fun j => hF343 345 j (dkNin_k rfl dkNin_nil)).trans ((funext fun j => hF255 345 j (dkNin_k rfl dkNin_nil)).trans ((by rw [eI254, dkU_n (by decide)] : I254 345 = _).trans ((by rw [eI253, dkU_n (by decide)] : I253 345 = _).trans z2_0))))))
                have w521 : I422 340 6 = I0 340 6 := ((by rw [eI422, dkU_n (by decide)] : I422 340 6 = _).trans ((hF356 340 6 rfl).trans ((hF343 340 6 rfl).trans ((hF255 340 6 rfl).trans ((by rw [eI254, dkU_sn (by decide)] : I254 340 6 = _).trans ((by rw [eI253, dkU_sn (by decide)] : I253 340 6 = _).trans zp2_1))))))
                have w522 : I422 340 9 = dkTe (I0 345) (I0 340 6) (dkTe (I0 345) (I0 340 6) (dkTe (I0 345) (I0 340 6) (0))) := ((by rw [eI422, dkU_n (by decide)] : I422 340 9 = _).trans y418)
                have q523 : (dkTk (I0 345) (I0 340 6) (dkTe (I0 345) (I0 340 6) (dkTe (I0 345) (I0 340 6) (dkTe (I0 345) (I0 340 6) (0))))).toInt = (2 : Int) := by have h := x423_2; rw [w520, w521, w522] at h; exact h
                have q524 : (1 : Int) + 0 ≤ (dkTv (I0 345) (I0 340 6) (dkTe (I0 345) (I0 340 6) (dkTe (I0 345) (I0 340 6) (dkTe (I0 345) (I0 340 6) (0))))).toInt := by have h := x423_3; rw [w520, w521, w522] at h; exact h
                have q525 : (dkTv (I0 345) (I0 340 6) (dkTe (I0 345) (I0 340 6) (dkTe (I0 345) (I0 340 6) (dkTe (I0 345) (I0 340 6) (0))))).toInt + 0 ≤ (30 : Int) := by have h := x423_4; rw [w520, w521, w522] at h; exact h
                have w526 : I422 340 7 = I0 340 7 := ((by rw [eI422, dkU_n (by decide)] : I422 340 7 = _).trans y413)
                have y527 : I423 340 7 = I0 340 7 := by have h := xh423_0; rw [w526] at h; exact h
                have y528 : I423 340 8 = (-1) := by have h := xh423_1; rw [w519] at h; exact h
                have y529 : I423 340 9 = dkTe (I0 345) (I0 340 6) (dkTe (I0 345) (I0 340 6) (dkTe (I0 345) (I0 340 6) (dkTe (I0 345) (I0 340 6) (dkTe (I0 345) (I0 340 6) (0))))) := by have h := xh423_2; rw [w520, w521, w522] at h; exact h
                have y530 : I423 340 10 = dkTe (I0 345) (I0 340 6) (dkTe (I0 345) (I0 340 6) (dkTe (I0 345) (I0 340 6) (dkTe (I0 345) (I0 340 6) (0)))) := by have h := xh423_3; rw [w520, w521, w522] at h; exact h
                have y531 : I423 340 11 = dkTk (I0 345) (I0 340 6) (dkTe (I0 345) (I0 340 6) (dkTe (I0 345) (I0 340 6) (dkTe (I0 345) (I0 340 6) (dkTe (I0 345) (I0 340 6) (0))))) := by have h := xh423_4; rw [w520, w521, w522] at h; exact h
                have y532 : I423 340 12 = dkTv (I0 345) (I0 340 6) (dkTe (I0 345) (I0 340 6) (dkTe (I0 345) (I0 340 6) (dkTe (I0 345) (I0 340 6) (dkTe (I0 345) (I0 340 6) (0))))) := by have h := xh423_5; rw [w520, w521, w522] at h; exact h
                have xv423 : v423 = dkTv (I0 345) (I0 340 6) (dkTe (I0 345) (I0 340 6) (dkTe (I0 345) (I0 340 6) (dkTe (I0 345) (I0 340 6) (0)))) := by have h := xr423; rw [w520, w521, w522] at h; exact h
                refine dk_ist (k := 347) hx hb hK hW (fun _ => rfl) (by decide) hS (dkN_in (n := 54) (dkN_lit (x := 1) (1) rfl) rfl) dX6_town_88 (fun I533 H533 L533 eI533 hW hS => ?_)
                have eI533 : I533 = dkU I423 347 1 v423 := eI533
                have hO := dkO_set hO eI533 (dkN_sub dv423 rfl)
                have hF := dkF_set hF eI533 rfl
                have hP := dkPP_set hP eI533 rfl
                refine lv_aload_n hx hb dX6_town_89 rfl (lv_at hl 0 rfl) ?_
                refine lv_aload_n hx hb dX6_town_90 rfl (lv_at hl 0 rfl) ?_
                refine dk_get (k := 340) hx hb hts iX6_town_6 hown hK (dk_at340 hW) rfl 11 (by decide) (hts (.fieldLink RX6 98 "DogKingsModel" "token" "I") (List.mem_of_getElem? (i := 4) rfl)) rfl dX6_town_91 ?_
                refine lv_topi (fun v534 ev534 => ?_)
                have dv534 : dkN [(0, 5)] v534 := by rw [ev534]; exact (by rw [eI533, dkU_n (by decide)]; exact f423_340_11)
                have xv534 : v534 = dkTk (I0 345) (I0 340 6) (dkTe (I0 345) (I0 340 6) (dkTe (I0 345) (I0 340 6) (dkTe (I0 345) (I0 340 6) (dkTe (I0 345) (I0 340 6) (0))))) := ev534.trans ((by rw [eI533, dkU_n (by decide)] : I533 340 11 = _).trans y531)
                refine lv_iconst (v := 4) hx hb dX6_town_94 (by decide) ?_
                refine lv_icmp_ne (tgt := 102) hx hb dX6_town_95 (by decide) (fun c535 => ?_) (fun c535 => ?_)
                ·
                  have q536 : (dkTk (I0 345) (I0 340 6) (dkTe (I0 345) (I0 340 6) (dkTe (I0 345) (I0 340 6) (dkTe (I0 345) (I0 340 6) (dkTe (I0 345) (I0 340 6) (0)))))).toInt ≠ (4 : Int) := by first | (rw [← xv534]; exact (dk_ne c535)) | (subst xv534; exact (dk_ne c535))
                  have d537 : dkN [(0, 3), (5, 5)] v534 := dkN_ne1 (4) dv534 (dkN_lit (x := 4) (4) rfl) (dk_ne c535) rfl
                  have f538 : dkN [(0, 3), (5, 5)] (I533 340 11) := by rw [← ev534]; exact d537
                  refine lv_iconst (v := 0) hx hb dX6_town_102 (by decide) ?_
                  refine lv_iconst (v := 1) hx hb dX6_town_103 (by decide) ?_
                  refine dk_Vi (As := [.int 0, .int 1]) (rest := []) ⟨hx, hb, hml, hown, hts⟩ (fx_X6_takes_31 l g z I533 0 1 (dkN_lit (x := 0) (0) rfl) (dkN_lit (x := 1) (1) rfl) (show dkN [(-1, -1)] (I533 340 8) from dkN_sub (by rw [eI533, dkU_n (by decide)]; exact f423_340_8) rfl) hO) (cwV 2 hts gX6_town_X6_takes rfl rfl rfl (by decide +kernel) ⟨Nat.le_of_ble_eq_true rfl, Nat.le_of_ble_eq_true rfl⟩) (dk_at340 hW) rfl hK hT hW hS rfl hl.1 rfl (Nat.le_of_ble_eq_true rfl) dX6_town_104 ⟨Nat.zero_le _, Nat.zero_le _⟩ (fun v539 I539 H539 L539 hp539 hW hS => ?_)
                  obtain ⟨hF539, hO, hc539⟩ := hp539
                  have hF := dkF_call hF hF539 rfl
                  have hP := dkPP_F hP hF539 rfl
                  obtain ⟨dv539, f539_340_7, f539_340_8, x539_0, x539_1, xr539, xh539_0, xh539_1, xh539_2, xh539_3, xh539_4, xh539_5, -⟩ := hc539
                  have w540 : I533 340 8 = (-1) := ((by rw [eI533, dkU_n (by decide)] : I533 340 8 = _).trans y528)
                  have y541 : I539 340 7 = 1 := by have h := xh539_0; exact h
                  have w542 : I533 340 10 = dkTe (I0 345) (I0 340 6) (dkTe (I0 345) (I0 340 6) (dkTe (I0 345) (I0 340 6) (dkTe (I0 345) (I0 340 6) (0)))) := ((by rw [eI533, dkU_n (by decide)] : I533 340 10 = _).trans y530)
                  have y543 : I539 340 8 = dkTe (I0 345) (I0 340 6) (dkTe (I0 345) (I0 340 6) (dkTe (I0 345) (I0 340 6) (dkTe (I0 345) (I0 340 6) (0)))) := by have h := xh539_1; rw [w542] at h; exact h
                  have w544 : I533 340 9 = dkTe (I0 345) (I0 340 6) (dkTe (I0 345) (I0 340 6) (dkTe (I0 345) (I0 340 6) (dkTe (I0 345) (I0 340 6) (dkTe (I0 345) (I0 340 6) (0))))) := ((by rw [eI533, dkU_n (by decide)] : I533 340 9 = _).trans y529)
                  have y545 : I539 340 9 = dkTe (I0 345) (I0 340 6) (dkTe (I0 345) (I0 340 6) (dkTe (I0 345) (I0 340 6) (dkTe (I0 345) (I0 340 6) (dkTe (I0 345) (I0 340 6) (0))))) := by have h := xh539_2; rw [w544] at h; exact h
                  have y546 : I539 340 10 = dkTe (I0 345) (I0 340 6) (dkTe (I0 345) (I0 340 6) (dkTe (I0 345) (I0 340 6) (dkTe (I0 345) (I0 340 6) (0)))) := by have h := xh539_3; rw [w542] at h; exact h
                  have w547 : I533 340 11 = dkTk (I0 345) (I0 340 6) (dkTe (I0 345) (I0 340 6) (dkTe (I0 345) (I0 340 6) (dkTe (I0 345) (I0 340 6) (dkTe (I0 345) (I0 340 6) (0))))) := ((by rw [eI533, dkU_n (by decide)] : I533 340 11 = _).trans y531)
                  have y548 : I539 340 11 = dkTk (I0 345) (I0 340 6) (dkTe (I0 345) (I0 340 6) (dkTe (I0 345) (I0 340 6) (dkTe (I0 345) (I0 340 6) (dkTe (I0 345) (I0 340 6) (0))))) := by have h := xh539_4; rw [w547] at h; exact h
                  have w549 : I533 340 12 = dkTv (I0 345) (I0 340 6) (dkTe (I0 345) (I0 340 6) (dkTe (I0 345) (I0 340 6) (dkTe (I0 345) (I0 340 6) (dkTe (I0 345) (I0 340 6) (0))))) := ((by rw [eI533, dkU_n (by decide)] : I533 340 12 = _).trans y532)
                  have y550 : I539 340 12 = dkTv (I0 345) (I0 340 6) (dkTe (I0 345) (I0 340 6) (dkTe (I0 345) (I0 340 6) (dkTe (I0 345) (I0 340 6) (dkTe (I0 345) (I0 340 6) (0))))) := by have h := xh539_5; rw [w549] at h; exact h
                  have xv539 : v539 = 0 := by have h := xr539; exact h
                  refine lv_pop hx hb dX6_town_107 rfl ?_
                  refine lv_aload_n hx hb dX6_town_108 rfl (lv_at hl 0 rfl) ?_
                  refine lv_aload_n hx hb dX6_town_109 rfl (lv_at hl 0 rfl) ?_
                  refine dk_get (k := 340) hx hb hts iX6_town_6 hown hK (dk_at340 hW) rfl 11 (by decide) (hts (.fieldLink RX6 98 "DogKingsModel" "token" "I") (List.mem_of_getElem? (i := 4) rfl)) rfl dX6_town_110 ?_
                  refine lv_topi (fun v551 ev551 => ?_)
                  have dv551 : dkN [(0, 3), (5, 5)] v551 := by rw [ev551]; exact (by rw [hF539 340 11 rfl]; exact f538)
                  have xv551 : v551 = dkTk (I0 345) (I0 340 6) (dkTe (I0 345) (I0 340 6) (dkTe (I0 345) (I0 340 6) (dkTe (I0 345) (I0 340 6) (dkTe (I0 345) (I0 340 6) (0))))) := ev551.trans y548
                  refine lv_iconst (v := 1) hx hb dX6_town_113 (by decide) ?_
                  refine lv_icmp_ne (tgt := 130) hx hb dX6_town_114 (by decide) (fun c552 => ?_) (fun c552 => ?_)
                  ·
                    have q553 : (dkTk (I0 345) (I0 340 6) (dkTe (I0 345) (I0 340 6) (dkTe (I0 345) (I0 340 6) (dkTe (I0 345) (I0 340 6) (dkTe (I0 345) (I0 340 6) (0)))))).toInt ≠ (1 : Int) := by first | (rw [← xv551]; exact (dk_ne c552)) | (subst xv551; exact (dk_ne c552))
                    have d554 : dkN [(0, 0), (2, 3), (5, 5)] v551 := dkN_ne1 (1) dv551 (dkN_lit (x := 1) (1) rfl) (dk_ne c552) rfl
                    have f555 : dkN [(0, 0), (2, 3), (5, 5)] (I539 340 11) := by rw [← ev551]; exact d554
                    refine lv_iconst (v := 0) hx hb dX6_town_130 (by decide) ?_
                    have i0 : (0 : Int32).toInt = 0 := rfl
                    have i1 : (1 : Int32).toInt = 1 := rfl
                    have i2 : (2 : Int32).toInt = 2 := rfl
                    have i3 : (3 : Int32).toInt = 3 := rfl
                    have i9 : (9 : Int32).toInt = 9 := rfl
                    have i30 : (30 : Int32).toInt = 30 := rfl
                    have i44 : (44 : Int32).toInt = 44 := rfl
                    have i59 : (59 : Int32).toInt = 59 := rfl
                    have i109 : (109 : Int32).toInt = 109 := rfl
                    have i116 : (116 : Int32).toInt = 116 := rfl
                    have e556 : dkTw (I0 345) (I0 340 6) = (1, dkTe (I0 345) (I0 340 6) (dkTe (I0 345) (I0 340 6) (dkTe (I0 345) (I0 340 6) (dkTe (I0 345) (I0 340 6) (0))))) := dkTw_l ((dkTh_p (dkK_l (T := (I0 345)) (n := (I0 340 6)) (a := 0) (c := 116) q300 (by omega))).trans ((dkTh_p (dkK_0 (T := (I0 345)) (n := (I0 340 6)) (a := dkTe (I0 345) (I0 340 6) (0)) (lo := 3) (hi := 9) q408 (by omega) (by omega))).trans ((dkTh_p (dkK_c (T := (I0 345)) (n := (I0 340 6)) (a := dkTe (I0 345) (I0 340 6) (dkTe (I0 345) (I0 340 6) (0))) q518)).trans ((dkTh_p (dkK_0 (T := (I0 345)) (n := (I0 340 6)) (a := dkTe (I0 345) (I0 340 6) (dkTe (I0 345) (I0 340 6) (dkTe (I0 345) (I0 340 6) (0)))) (lo := 1) (hi := 30) q523 (by omega) (by omega))).trans (dkK_sn (T := (I0 345)) (n := (I0 340 6)) (a := dkTe (I0 345) (I0 340 6) (dkTe (I0 345) (I0 340 6) (dkTe (I0 345) (I0 340 6) (dkTe (I0 345) (I0 340 6) (0))))) q536))))) (by decide)
                    exact C131 I539 _ _ ls x2_1 0 hW hS hF hO hP (dkN_sub d252 rfl) (dkN_sub (dkN_lit (x := 0) (0) rfl) rfl) (show dkN [(1, 2)] (I539 340 7) from dkN_sub f539_340_7 rfl) (show dkN [(0, 90)] (I539 340 8) from dkN_sub f539_340_8 rfl) (show dkN [(0, 0), (3, 9)] (I539 347 0) from dkN_sub (by rw [hF539 347 0 rfl]; exact (by rw [eI533, dkU_sn (by decide)]; exact (by rw [hF423 347 0 rfl]; exact (by rw [eI422, dkU_ss]; exact dv356)))) rfl) (show dkN [(0, 0)] (I539 347 4) from dkN_sub (by rw [hF539 347 4 rfl]; exact (by rw [eI533, dkU_sn (by decide)]; exact (by rw [hF423 347 4 rfl]; exact (by rw [eI422, dkU_sn (by decide)]; exact (by rw [hF356 347 4 rfl]; exact (by rw [hF343 347 4 rfl]; exact (by rw [hF255 347 4 rfl]; exact (by rw [eI254, dkU_n (by decide)]; exact (by rw [eI253, dkU_n (by decide)]; exact (dkN_lit (0) (by rw [hz4]; rfl))))))))))) rfl) (show dkN [(0, 0)] (I539 347 5) from dkN_sub (by rw [hF539 347 5 rfl]; exact (by rw [eI533, dkU_sn (by decide)]; exact (by rw [hF423 347 5 rfl]; exact (by rw [eI422, dkU_sn (by decide)]; exact (by rw [hF356 347 5 rfl]; exact (by rw [hF343 347 5 rfl]; exact (by rw [hF255 347 5 rfl]; exact (by rw [eI254, dkU_n (by decide)]; exact (by rw [eI253, dkU_n (by decide)]; exact (dkN_lit (0) (by rw [hz5]; rfl))))))))))) rfl) ((funext fun j => hF539 345 j (dkNin_k rfl dkNin_nil)).trans ((by rw [eI533, dkU_n (by decide)] : I533 345 = _).trans ((funext fun j => hF423 345 j (dkNin_k rfl dkNin_nil)).trans ((by rw [eI422, dkU_n (by decide)] : I422 345 = _).trans ((funext fun j => hF356 345 j (dkNin_k rfl dkNin_nil)).trans ((funext fun j => hF343 345 j (dkNin_k rfl dkNin_nil)).trans ((funext fun j => hF255 345 j (dkNin_k rfl dkNin_nil)).trans ((by rw [eI254, dkU_n (by decide)] : I254 345 = _).trans ((by rw [eI253, dkU_n (by decide)] : I253 345 = _).trans z2_0))))))))) ((hF539 340 17 rfl).trans ((by rw [eI533, dkU_n (by decide)] : I533 340 17 = _).trans ((hF423 340 17 rfl).trans ((by rw [eI422, dkU_n (by decide)] : I422 340 17 = _).trans ((hF356 340 17 rfl).trans ((hF343 340 17 rfl).trans ((hF255 340 17 rfl).trans ((by rw [eI254, dkU_sn (by decide)] : I254 340 17 = _).trans ((by rw [eI253, dkU_sn (by decide)] : I253 340 17 = _).trans zp2_0))))))))) ((hF539 340 6 rfl).trans ((by rw [eI533, dkU_n (by decide)] : I533 340 6 = _).trans ((hF423 340 6 rfl).trans ((by rw [eI422, dkU_n (by decide)] : I422 340 6 = _).trans ((hF356 340 6 rfl).trans ((hF343 340 6 rfl).trans ((hF255 340 6 rfl).trans ((by rw [eI254, dkU_sn (by decide)] : I254 340 6 = _).trans ((by rw [eI253, dkU_sn (by decide)] : I253 340 6 = _).trans zp2_1))))))))) ((hF539 346 0 rfl).trans ((by rw [eI533, dkU_n (by decide)] : I533 346 0 = _).trans ((hF423 346 0 rfl).trans ((by rw [eI422, dkU_n (by decide)] : I422 346 0 = _).trans ((hF356 346 0 rfl).trans ((hF343 346 0 rfl).trans ((hF255 346 0 rfl).trans ((by rw [eI254, dkU_n (by decide)] : I254 346 0 = _).trans ((by rw [eI253, dkU_n (by decide)] : I253 346 0 = _).trans zp2_3))))))))) ((hF539 346 4 rfl).trans ((by rw [eI533, dkU_n (by decide)] : I533 346 4 = _).trans ((hF423 346 4 rfl).trans ((by rw [eI422, dkU_n (by decide)] : I422 346 4 = _).trans ((hF356 346 4 rfl).trans ((hF343 346 4 rfl).trans ((hF255 346 4 rfl).trans ((by rw [eI254, dkU_n (by decide)] : I254 346 4 = _).trans ((by rw [eI253, dkU_n (by decide)] : I253 346 4 = _).trans zp2_4))))))))) ((hF539 346 5 rfl).trans ((by rw [eI533, dkU_n (by decide)] : I533 346 5 = _).trans ((hF423 346 5 rfl).trans ((by rw [eI422, dkU_n (by decide)] : I422 346 5 = _).trans ((hF356 346 5 rfl).trans ((hF343 346 5 rfl).trans ((hF255 346 5 rfl).trans ((by rw [eI254, dkU_n (by decide)] : I254 346 5 = _).trans ((by rw [eI253, dkU_n (by decide)] : I253 346 5 = _).trans zp2_5))))))))) ⟨(dkE_k e556 (by decide)), (((show I539 340 7 = 1 from y541)).trans (dkP_1 e556).symm), (((show I539 340 8 = dkTe (I0 345) (I0 340 6) (dkTe (I0 345) (I0 340 6) (dkTe (I0 345) (I0 340 6) (dkTe (I0 345) (I0 340 6) (0)))) from y543)).trans (dkP_2 e556).symm)⟩ (lv_sub hl [0, 1] rfl)
                  ·
                    have q557 : (dkTk (I0 345) (I0 340 6) (dkTe (I0 345) (I0 340 6) (dkTe (I0 345) (I0 340 6) (dkTe (I0 345) (I0 340 6) (dkTe (I0 345) (I0 340 6) (0)))))).toInt = (1 : Int) := by first | (rw [← xv551]; exact (congrArg Int32.toInt c552)) | (subst xv551; exact (congrArg Int32.toInt c552))
                    have d558 : dkN [(1, 1)] v551 := dkN_eq1 dv551 (dkN_lit (x := 1) (1) rfl) (congrArg Int32.toInt c552) rfl
                    have f559 : dkN [(1, 1)] (I539 340 11) := by rw [← ev551]; exact d558
                    refine lv_aload_n hx hb dX6_town_117 rfl (lv_at hl 0 rfl) ?_
                    refine dk_get (k := 340) hx hb hts iX6_town_6 hown hK (dk_at340 hW) rfl 12 (by decide) (hts (.fieldLink RX6 95 "DogKingsModel" "value" "I") (List.mem_of_getElem? (i := 5) rfl)) rfl dX6_town_118 ?_
                    refine lv_topi (fun v560 ev560 => ?_)
                    have xv560 : v560 = dkTv (I0 345) (I0 340 6) (dkTe (I0 345) (I0 340 6) (dkTe (I0 345) (I0 340 6) (dkTe (I0 345) (I0 340 6) (dkTe (I0 345) (I0 340 6) (0))))) := ev560.trans y550
                    refine lv_bipush (v := 109) hx hb dX6_town_121 (by decide) ?_
                    refine lv_icmp_ne (tgt := 130) hx hb dX6_town_123 (by decide) (fun c561 => ?_) (fun c561 => ?_)
                    ·
                      have q562 : (dkTv (I0 345) (I0 340 6) (dkTe (I0 345) (I0 340 6) (dkTe (I0 345) (I0 340 6) (dkTe (I0 345) (I0 340 6) (dkTe (I0 345) (I0 340 6) (0)))))).toInt ≠ (109 : Int) := by first | (rw [← xv560]; exact (dk_ne c561)) | (subst xv560; exact (dk_ne c561))
                      have d563 : dkN [(-2147483648, 108), (110, 2147483647)] v560 := dkN_ne1 (109) (dkN_top v560) (dkN_lit (x := 109) (109) rfl) (dk_ne c561) rfl
                      have f564 : dkN [(-2147483648, 108), (110, 2147483647)] (I539 340 12) := by rw [← ev560]; exact d563
                      refine lv_iconst (v := 0) hx hb dX6_town_130 (by decide) ?_
                      have i0 : (0 : Int32).toInt = 0 := rfl
                      have i1 : (1 : Int32).toInt = 1 := rfl
                      have i2 : (2 : Int32).toInt = 2 := rfl
                      have i3 : (3 : Int32).toInt = 3 := rfl
                      have i9 : (9 : Int32).toInt = 9 := rfl
                      have i30 : (30 : Int32).toInt = 30 := rfl
                      have i44 : (44 : Int32).toInt = 44 := rfl
                      have i59 : (59 : Int32).toInt = 59 := rfl
                      have i109 : (109 : Int32).toInt = 109 := rfl
                      have i116 : (116 : Int32).toInt = 116 := rfl
                      have e565 : dkTw (I0 345) (I0 340 6) = (1, dkTe (I0 345) (I0 340 6) (dkTe (I0 345) (I0 340 6) (dkTe (I0 345) (I0 340 6) (dkTe (I0 345) (I0 340 6) (0))))) := dkTw_l ((dkTh_p (dkK_l (T := (I0 345)) (n := (I0 340 6)) (a := 0) (c := 116) q300 (by omega))).trans ((dkTh_p (dkK_0 (T := (I0 345)) (n := (I0 340 6)) (a := dkTe (I0 345) (I0 340 6) (0)) (lo := 3) (hi := 9) q408 (by omega) (by omega))).trans ((dkTh_p (dkK_c (T := (I0 345)) (n := (I0 340 6)) (a := dkTe (I0 345) (I0 340 6) (dkTe (I0 345) (I0 340 6) (0))) q518)).trans ((dkTh_p (dkK_0 (T := (I0 345)) (n := (I0 340 6)) (a := dkTe (I0 345) (I0 340 6) (dkTe (I0 345) (I0 340 6) (dkTe (I0 345) (I0 340 6) (0)))) (lo := 1) (hi := 30) q523 (by omega) (by omega))).trans (dkK_sn (T := (I0 345)) (n := (I0 340 6)) (a := dkTe (I0 345) (I0 340 6) (dkTe (I0 345) (I0 340 6) (dkTe (I0 345) (I0 340 6) (dkTe (I0 345) (I0 340 6) (0))))) q536))))) (by decide)
                      exact C131 I539 _ _ ls x2_1 0 hW hS hF hO hP (dkN_sub d252 rfl) (dkN_sub (dkN_lit (x := 0) (0) rfl) rfl) (show dkN [(1, 2)] (I539 340 7) from dkN_sub f539_340_7 rfl) (show dkN [(0, 90)] (I539 340 8) from dkN_sub f539_340_8 rfl) (show dkN [(0, 0), (3, 9)] (I539 347 0) from dkN_sub (by rw [hF539 347 0 rfl]; exact (by rw [eI533, dkU_sn (by decide)]; exact (by rw [hF423 347 0 rfl]; exact (by rw [eI422, dkU_ss]; exact dv356)))) rfl) (show dkN [(0, 0)] (I539 347 4) from dkN_sub (by rw [hF539 347 4 rfl]; exact (by rw [eI533, dkU_sn (by decide)]; exact (by rw [hF423 347 4 rfl]; exact (by rw [eI422, dkU_sn (by decide)]; exact (by rw [hF356 347 4 rfl]; exact (by rw [hF343 347 4 rfl]; exact (by rw [hF255 347 4 rfl]; exact (by rw [eI254, dkU_n (by decide)]; exact (by rw [eI253, dkU_n (by decide)]; exact (dkN_lit (0) (by rw [hz4]; rfl))))))))))) rfl) (show dkN [(0, 0)] (I539 347 5) from dkN_sub (by rw [hF539 347 5 rfl]; exact (by rw [eI533, dkU_sn (by decide)]; exact (by rw [hF423 347 5 rfl]; exact (by rw [eI422, dkU_sn (by decide)]; exact (by rw [hF356 347 5 rfl]; exact (by rw [hF343 347 5 rfl]; exact (by rw [hF255 347 5 rfl]; exact (by rw [eI254, dkU_n (by decide)]; exact (by rw [eI253, dkU_n (by decide)]; exact (dkN_lit (0) (by rw [hz5]; rfl))))))))))) rfl) ((funext fun j => hF539 345 j (dkNin_k rfl dkNin_nil)).trans ((by rw [eI533, dkU_n (by decide)] : I533 345 = _).trans ((funext fun j => hF423 345 j (dkNin_k rfl dkNin_nil)).trans ((by rw [eI422, dkU_n (by decide)] : I422 345 = _).trans ((funext fun j => hF356 345 j (dkNin_k rfl dkNin_nil)).trans ((funext fun j => hF343 345 j (dkNin_k rfl dkNin_nil)).trans ((funext fun j => hF255 345 j (dkNin_k rfl dkNin_nil)).trans ((by rw [eI254, dkU_n (by decide)] : I254 345 = _).trans ((by rw [eI253, dkU_n (by decide)] : I253 345 = _).trans z2_0))))))))) ((hF539 340 17 rfl).trans ((by rw [eI533, dkU_n (by decide)] : I533 340 17 = _).trans ((hF423 340 17 rfl).trans ((by rw [eI422, dkU_n (by decide)] : I422 340 17 = _).trans ((hF356 340 17 rfl).trans ((hF343 340 17 rfl).trans ((hF255 340 17 rfl).trans ((by rw [eI254, dkU_sn (by decide)] : I254 340 17 = _).trans ((by rw [eI253, dkU_sn (by decide)] : I253 340 17 = _).trans zp2_0))))))))) ((hF539 340 6 rfl).trans ((by rw [eI533, dkU_n (by decide)] : I533 340 6 = _).trans ((hF423 340 6 rfl).trans ((by rw [eI422, dkU_n (by decide)] : I422 340 6 = _).trans ((hF356 340 6 rfl).trans ((hF343 340 6 rfl).trans ((hF255 340 6 rfl).trans ((by rw [eI254, dkU_sn (by decide)] : I254 340 6 = _).trans ((by rw [eI253, dkU_sn (by decide)] : I253 340 6 = _).trans zp2_1))))))))) ((hF539 346 0 rfl).trans ((by rw [eI533, dkU_n (by decide)] : I533 346 0 = _).trans ((hF423 346 0 rfl).trans ((by rw [eI422, dkU_n (by decide)] : I422 346 0 = _).trans ((hF356 346 0 rfl).trans ((hF343 346 0 rfl).trans ((hF255 346 0 rfl).trans ((by rw [eI254, dkU_n (by decide)] : I254 346 0 = _).trans ((by rw [eI253, dkU_n (by decide)] : I253 346 0 = _).trans zp2_3))))))))) ((hF539 346 4 rfl).trans ((by rw [eI533, dkU_n (by decide)] : I533 346 4 = _).trans ((hF423 346 4 rfl).trans ((by rw [eI422, dkU_n (by decide)] : I422 346 4 = _).trans ((hF356 346 4 rfl).trans ((hF343 346 4 rfl).trans ((hF255 346 4 rfl).trans ((by rw [eI254, dkU_n (by decide)] : I254 346 4 = _).trans ((by rw [eI253, dkU_n (by decide)] : I253 346 4 = _).trans zp2_4))))))))) ((hF539 346 5 rfl).trans ((by rw [eI533, dkU_n (by decide)] : I533 346 5 = _).trans ((hF423 346 5 rfl).trans ((by rw [eI422, dkU_n (by decide)] : I422 346 5 = _).trans ((hF356 346 5 rfl).trans ((hF343 346 5 rfl).trans ((hF255 346 5 rfl).trans ((by rw [eI254, dkU_n (by decide)] : I254 346 5 = _).trans ((by rw [eI253, dkU_n (by decide)] : I253 346 5 = _).trans zp2_5))))))))) ⟨(dkE_k e565 (by decide)), (((show I539 340 7 = 1 from y541)).trans (dkP_1 e565).symm), (((show I539 340 8 = dkTe (I0 345) (I0 340 6) (dkTe (I0 345) (I0 340 6) (dkTe (I0 345) (I0 340 6) (dkTe (I0 345) (I0 340 6) (0)))) from y543)).trans (dkP_2 e565).symm)⟩ (lv_sub hl [0, 1] rfl)
                    ·
                      have q566 : (dkTv (I0 345) (I0 340 6) (dkTe (I0 345) (I0 340 6) (dkTe (I0 345) (I0 340 6) (dkTe (I0 345) (I0 340 6) (dkTe (I0 345) (I0 340 6) (0)))))).toInt = (109 : Int) := by first | (rw [← xv560]; exact (congrArg Int32.toInt c561)) | (subst xv560; exact (congrArg Int32.toInt c561))
                      have d567 : dkN [(109, 109)] v560 := dkN_eq1 (dkN_top v560) (dkN_lit (x := 109) (109) rfl) (congrArg Int32.toInt c561) rfl
                      have f568 : dkN [(109, 109)] (I539 340 12) := by rw [← ev560]; exact d567
                      refine lv_iconst (v := 1) hx hb dX6_town_126 (by decide) ?_
                      refine lv_goto (tgt := 131) hx hb dX6_town_127 (by decide) ?_
                      have i0 : (0 : Int32).toInt = 0 := rfl
                      have i1 : (1 : Int32).toInt = 1 := rfl
                      have i2 : (2 : Int32).toInt = 2 := rfl
                      have i3 : (3 : Int32).toInt = 3 := rfl
                      have i9 : (9 : Int32).toInt = 9 := rfl
                      have i30 : (30 : Int32).toInt = 30 := rfl
                      have i44 : (44 : Int32).toInt = 44 := rfl
                      have i59 : (59 : Int32).toInt = 59 := rfl
                      have i109 : (109 : Int32).toInt = 109 := rfl
                      have i116 : (116 : Int32).toInt = 116 := rfl
                      have e569 : dkTw (I0 345) (I0 340 6) = (1, dkTe (I0 345) (I0 340 6) (dkTe (I0 345) (I0 340 6) (dkTe (I0 345) (I0 340 6) (dkTe (I0 345) (I0 340 6) (0))))) := dkTw_l ((dkTh_p (dkK_l (T := (I0 345)) (n := (I0 340 6)) (a := 0) (c := 116) q300 (by omega))).trans ((dkTh_p (dkK_0 (T := (I0 345)) (n := (I0 340 6)) (a := dkTe (I0 345) (I0 340 6) (0)) (lo := 3) (hi := 9) q408 (by omega) (by omega))).trans ((dkTh_p (dkK_c (T := (I0 345)) (n := (I0 340 6)) (a := dkTe (I0 345) (I0 340 6) (dkTe (I0 345) (I0 340 6) (0))) q518)).trans ((dkTh_p (dkK_0 (T := (I0 345)) (n := (I0 340 6)) (a := dkTe (I0 345) (I0 340 6) (dkTe (I0 345) (I0 340 6) (dkTe (I0 345) (I0 340 6) (0)))) (lo := 1) (hi := 30) q523 (by omega) (by omega))).trans (dkK_sn (T := (I0 345)) (n := (I0 340 6)) (a := dkTe (I0 345) (I0 340 6) (dkTe (I0 345) (I0 340 6) (dkTe (I0 345) (I0 340 6) (dkTe (I0 345) (I0 340 6) (0))))) q536))))) (by decide)
                      exact C131 I539 _ _ ls x2_1 1 hW hS hF hO hP (dkN_sub d252 rfl) (dkN_sub (dkN_lit (x := 1) (1) rfl) rfl) (show dkN [(1, 2)] (I539 340 7) from dkN_sub f539_340_7 rfl) (show dkN [(0, 90)] (I539 340 8) from dkN_sub f539_340_8 rfl) (show dkN [(0, 0), (3, 9)] (I539 347 0) from dkN_sub (by rw [hF539 347 0 rfl]; exact (by rw [eI533, dkU_sn (by decide)]; exact (by rw [hF423 347 0 rfl]; exact (by rw [eI422, dkU_ss]; exact dv356)))) rfl) (show dkN [(0, 0)] (I539 347 4) from dkN_sub (by rw [hF539 347 4 rfl]; exact (by rw [eI533, dkU_sn (by decide)]; exact (by rw [hF423 347 4 rfl]; exact (by rw [eI422, dkU_sn (by decide)]; exact (by rw [hF356 347 4 rfl]; exact (by rw [hF343 347 4 rfl]; exact (by rw [hF255 347 4 rfl]; exact (by rw [eI254, dkU_n (by decide)]; exact (by rw [eI253, dkU_n (by decide)]; exact (dkN_lit (0) (by rw [hz4]; rfl))))))))))) rfl) (show dkN [(0, 0)] (I539 347 5) from dkN_sub (by rw [hF539 347 5 rfl]; exact (by rw [eI533, dkU_sn (by decide)]; exact (by rw [hF423 347 5 rfl]; exact (by rw [eI422, dkU_sn (by decide)]; exact (by rw [hF356 347 5 rfl]; exact (by rw [hF343 347 5 rfl]; exact (by rw [hF255 347 5 rfl]; exact (by rw [eI254, dkU_n (by decide)]; exact (by rw [eI253, dkU_n (by decide)]; exact (dkN_lit (0) (by rw [hz5]; rfl))))))))))) rfl) ((funext fun j => hF539 345 j (dkNin_k rfl dkNin_nil)).trans ((by rw [eI533, dkU_n (by decide)] : I533 345 = _).trans ((funext fun j => hF423 345 j (dkNin_k rfl dkNin_nil)).trans ((by rw [eI422, dkU_n (by decide)] : I422 345 = _).trans ((funext fun j => hF356 345 j (dkNin_k rfl dkNin_nil)).trans ((funext fun j => hF343 345 j (dkNin_k rfl dkNin_nil)).trans ((funext fun j => hF255 345 j (dkNin_k rfl dkNin_nil)).trans ((by rw [eI254, dkU_n (by decide)] : I254 345 = _).trans ((by rw [eI253, dkU_n (by decide)] : I253 345 = _).trans z2_0))))))))) ((hF539 340 17 rfl).trans ((by rw [eI533, dkU_n (by decide)] : I533 340 17 = _).trans ((hF423 340 17 rfl).trans ((by rw [eI422, dkU_n (by decide)] : I422 340 17 = _).trans ((hF356 340 17 rfl).trans ((hF343 340 17 rfl).trans ((hF255 340 17 rfl).trans ((by rw [eI254, dkU_sn (by decide)] : I254 340 17 = _).trans ((by rw [eI253, dkU_sn (by decide)] : I253 340 17 = _).trans zp2_0))))))))) ((hF539 340 6 rfl).trans ((by rw [eI533, dkU_n (by decide)] : I533 340 6 = _).trans ((hF423 340 6 rfl).trans ((by rw [eI422, dkU_n (by decide)] : I422 340 6 = _).trans ((hF356 340 6 rfl).trans ((hF343 340 6 rfl).trans ((hF255 340 6 rfl).trans ((by rw [eI254, dkU_sn (by decide)] : I254 340 6 = _).trans ((by rw [eI253, dkU_sn (by decide)] : I253 340 6 = _).trans zp2_1))))))))) ((hF539 346 0 rfl).trans ((by rw [eI533, dkU_n (by decide)] : I533 346 0 = _).trans ((hF423 346 0 rfl).trans ((by rw [eI422, dkU_n (by decide)] : I422 346 0 = _).trans ((hF356 346 0 rfl).trans ((hF343 346 0 rfl).trans ((hF255 346 0 rfl).trans ((by rw [eI254, dkU_n (by decide)] : I254 346 0 = _).trans ((by rw [eI253, dkU_n (by decide)] : I253 346 0 = _).trans zp2_3))))))))) ((hF539 346 4 rfl).trans ((by rw [eI533, dkU_n (by decide)] : I533 346 4 = _).trans ((hF423 346 4 rfl).trans ((by rw [eI422, dkU_n (by decide)] : I422 346 4 = _).trans ((hF356 346 4 rfl).trans ((hF343 346 4 rfl).trans ((hF255 346 4 rfl).trans ((by rw [eI254, dkU_n (by decide)] : I254 346 4 = _).trans ((by rw [eI253, dkU_n (by decide)] : I253 346 4 = _).trans zp2_4))))))))) ((hF539 346 5 rfl).trans ((by rw [eI533, dkU_n (by decide)] : I533 346 5 = _).trans ((hF423 346 5 rfl).trans ((by rw [eI422, dkU_n (by decide)] : I422 346 5 = _).trans ((hF356 346 5 rfl).trans ((hF343 346 5 rfl).trans ((hF255 346 5 rfl).trans ((by rw [eI254, dkU_n (by decide)] : I254 346 5 = _).trans ((by rw [eI253, dkU_n (by decide)] : I253 346 5 = _).trans zp2_5))))))))) ⟨(dkE_k e569 (by decide)), (((show I539 340 7 = 1 from y541)).trans (dkP_1 e569).symm), (((show I539 340 8 = dkTe (I0 345) (I0 340 6) (dkTe (I0 345) (I0 340 6) (dkTe (I0 345) (I0 340 6) (dkTe (I0 345) (I0 340 6) (0)))) from y543)).trans (dkP_2 e569).symm)⟩ (lv_sub hl [0, 1] rfl)
                ·
                  have q570 : (dkTk (I0 345) (I0 340 6) (dkTe (I0 345) (I0 340 6) (dkTe (I0 345) (I0 340 6) (dkTe (I0 345) (I0 340 6) (dkTe (I0 345) (I0 340 6) (0)))))).toInt = (4 : Int) := by first | (rw [← xv534]; exact (congrArg Int32.toInt c535)) | (subst xv534; exact (congrArg Int32.toInt c535))
                  have d571 : dkN [(4, 4)] v534 := dkN_eq1 dv534 (dkN_lit (x := 4) (4) rfl) (congrArg Int32.toInt c535) rfl
                  have f572 : dkN [(4, 4)] (I533 340 11) := by rw [← ev534]; exact d571
                  refine lv_iconst (v := 1) hx hb dX6_town_98 (by decide) ?_
                  refine lv_goto (tgt := 103) hx hb dX6_town_99 (by decide) ?_
                  refine lv_iconst (v := 1) hx hb dX6_town_103 (by decide) ?_
                  refine dk_Vi (As := [.int 1, .int 1]) (rest := []) ⟨hx, hb, hml, hown, hts⟩ (fx_X6_takes_38 l g z I533 1 1 (dkN_lit (x := 1) (1) rfl) (dkN_lit (x := 1) (1) rfl) (show dkN [(-1, -1)] (I533 340 8) from dkN_sub (by rw [eI533, dkU_n (by decide)]; exact f423_340_8) rfl) hO) (cwV 2 hts gX6_town_X6_takes rfl rfl rfl (by decide +kernel) ⟨Nat.le_of_ble_eq_true rfl, Nat.le_of_ble_eq_true rfl⟩) (dk_at340 hW) rfl hK hT hW hS rfl hl.1 rfl (Nat.le_of_ble_eq_true rfl) dX6_town_104 ⟨Nat.zero_le _, Nat.zero_le _⟩ (fun v573 I573 H573 L573 hp573 hW hS => ?_)
                  obtain ⟨hF573, hO, hc573⟩ := hp573
                  have hF := dkF_call hF hF573 rfl
                  have hP := dkPP_F hP hF573 rfl
                  obtain ⟨_, f573_340_11, f573_340_8, x573_0, x573_1, xr573, xh573_0, xh573_1, xh573_2, xh573_3, xh573_4, xh573_5, -⟩ := hc573
                  have w574 : I533 340 8 = (-1) := ((by rw [eI533, dkU_n (by decide)] : I533 340 8 = _).trans y528)
                  have w575 : I533 340 7 = I0 340 7 := ((by rw [eI533, dkU_n (by decide)] : I533 340 7 = _).trans y527)
                  have y576 : I573 340 7 = I0 340 7 := by have h := xh573_0; rw [w575] at h; exact h
                  have y577 : I573 340 8 = (-1) := by have h := xh573_1; rw [w574] at h; exact h
                  have w578 : I533 345 = I0 345 := ((by rw [eI533, dkU_n (by decide)] : I533 345 = _).trans ((funext fun j => hF423 345 j (dkNin_k rfl dkNin_nil)).trans ((by rw [eI422, dkU_n (by decide)] : I422 345 = _).trans ((funext fun j => hF356 345 j (dkNin_k rfl dkNin_nil)).trans ((funext fun j => hF343 345 j (dkNin_k rfl dkNin_nil)).trans ((funext fun j => hF255 345 j (dkNin_k rfl dkNin_nil)).trans ((by rw [eI254, dkU_n (by decide)] : I254 345 = _).trans ((by rw [eI253, dkU_n (by decide)] : I253 345 = _).trans z2_0))))))))
                  have w579 : I533 340 6 = I0 340 6 := ((by rw [eI533, dkU_n (by decide)] : I533 340 6 = _).trans ((hF423 340 6 rfl).trans ((by rw [eI422, dkU_n (by decide)] : I422 340 6 = _).trans ((hF356 340 6 rfl).trans ((hF343 340 6 rfl).trans ((hF255 340 6 rfl).trans ((by rw [eI254, dkU_sn (by decide)] : I254 340 6 = _).trans ((by rw [eI253, dkU_sn (by decide)] : I253 340 6 = _).trans zp2_1))))))))
                  have w580 : I533 340 9 = dkTe (I0 345) (I0 340 6) (dkTe (I0 345) (I0 340 6) (dkTe (I0 345) (I0 340 6) (dkTe (I0 345) (I0 340 6) (dkTe (I0 345) (I0 340 6) (0))))) := ((by rw [eI533, dkU_n (by decide)] : I533 340 9 = _).trans y529)
                  have y581 : I573 340 9 = dkTe (I0 345) (I0 340 6) (dkTe (I0 345) (I0 340 6) (dkTe (I0 345) (I0 340 6) (dkTe (I0 345) (I0 340 6) (dkTe (I0 345) (I0 340 6) (dkTe (I0 345) (I0 340 6) (0)))))) := by have h := xh573_2; rw [w578, w579, w580] at h; exact h
                  have y582 : I573 340 10 = dkTe (I0 345) (I0 340 6) (dkTe (I0 345) (I0 340 6) (dkTe (I0 345) (I0 340 6) (dkTe (I0 345) (I0 340 6) (dkTe (I0 345) (I0 340 6) (0))))) := by have h := xh573_3; rw [w580] at h; exact h
                  have y583 : I573 340 11 = dkTk (I0 345) (I0 340 6) (dkTe (I0 345) (I0 340 6) (dkTe (I0 345) (I0 340 6) (dkTe (I0 345) (I0 340 6) (dkTe (I0 345) (I0 340 6) (dkTe (I0 345) (I0 340 6) (0)))))) := by have h := xh573_4; rw [w578, w579, w580] at h; exact h
                  have y584 : I573 340 12 = dkTv (I0 345) (I0 340 6) (dkTe (I0 345) (I0 340 6) (dkTe (I0 345) (I0 340 6) (dkTe (I0 345) (I0 340 6) (dkTe (I0 345) (I0 340 6) (dkTe (I0 345) (I0 340 6) (0)))))) := by have h := xh573_5; rw [w578, w579, w580] at h; exact h
                  have w585 : I533 340 12 = dkTv (I0 345) (I0 340 6) (dkTe (I0 345) (I0 340 6) (dkTe (I0 345) (I0 340 6) (dkTe (I0 345) (I0 340 6) (dkTe (I0 345) (I0 340 6) (0))))) := ((by rw [eI533, dkU_n (by decide)] : I533 340 12 = _).trans y532)
                  have xv573 : v573 = dkTv (I0 345) (I0 340 6) (dkTe (I0 345) (I0 340 6) (dkTe (I0 345) (I0 340 6) (dkTe (I0 345) (I0 340 6) (dkTe (I0 345) (I0 340 6) (0))))) := by have h := xr573; rw [w585] at h; exact h
                  refine lv_pop hx hb dX6_town_107 rfl ?_
                  refine lv_aload_n hx hb dX6_town_108 rfl (lv_at hl 0 rfl) ?_
                  refine lv_aload_n hx hb dX6_town_109 rfl (lv_at hl 0 rfl) ?_
                  refine dk_get (k := 340) hx hb hts iX6_town_6 hown hK (dk_at340 hW) rfl 11 (by decide) (hts (.fieldLink RX6 98 "DogKingsModel" "token" "I") (List.mem_of_getElem? (i := 4) rfl)) rfl dX6_town_110 ?_
                  refine lv_topi (fun v586 ev586 => ?_)
                  have dv586 : dkN [(0, 5)] v586 := by rw [ev586]; exact f573_340_11
                  have xv586 : v586 = dkTk (I0 345) (I0 340 6) (dkTe (I0 345) (I0 340 6) (dkTe (I0 345) (I0 340 6) (dkTe (I0 345) (I0 340 6) (dkTe (I0 345) (I0 340 6) (dkTe (I0 345) (I0 340 6) (0)))))) := ev586.trans y583
                  refine lv_iconst (v := 1) hx hb dX6_town_113 (by decide) ?_
                  refine lv_icmp_ne (tgt := 130) hx hb dX6_town_114 (by decide) (fun c587 => ?_) (fun c587 => ?_)
                  ·
                    have q588 : (dkTk (I0 345) (I0 340 6) (dkTe (I0 345) (I0 340 6) (dkTe (I0 345) (I0 340 6) (dkTe (I0 345) (I0 340 6) (dkTe (I0 345) (I0 340 6) (dkTe (I0 345) (I0 340 6) (0))))))).toInt ≠ (1 : Int) := by first | (rw [← xv586]; exact (dk_ne c587)) | (subst xv586; exact (dk_ne c587))
                    have d589 : dkN [(0, 0), (2, 5)] v586 := dkN_ne1 (1) dv586 (dkN_lit (x := 1) (1) rfl) (dk_ne c587) rfl
                    have f590 : dkN [(0, 0), (2, 5)] (I573 340 11) := by rw [← ev586]; exact d589
                    refine lv_iconst (v := 0) hx hb dX6_town_130 (by decide) ?_
                    refine dk_Vv (As := [.int 0]) (rest := []) ⟨hx, hb, hml, hown, hts⟩ (fx_X6_must_8 l g z I573 0 (dkN_lit (x := 0) (0) rfl) (show dkN [(-1, -1)] (I573 340 8) from dkN_sub f573_340_8 rfl) hO) (cwV 1 hts gX6_town_X6_must rfl rfl rfl (by decide +kernel) ⟨Nat.le_of_ble_eq_true rfl, Nat.le_of_ble_eq_true rfl⟩) (dk_at340 hW) rfl hK hT hW hS rfl hl.1 rfl (Nat.le_of_ble_eq_true rfl) dX6_town_131 ⟨Nat.zero_le _, Nat.zero_le _⟩ (fun I591 H591 L591 hp591 hW hS => ?_)
                    obtain ⟨hF591, hO, hc591⟩ := hp591
                    have hF := dkF_call hF hF591 rfl
                    have hP := dkPP_F hP hF591 rfl
                    obtain ⟨f591_340_7, f591_340_8, x591_0, x591_1, xh591_0, xh591_1, xh591_2, xh591_3, xh591_4, xh591_5, -⟩ := hc591
                    have w592 : I573 340 8 = (-1) := y577
                    have y593 : I591 340 7 = 1 := by have h := xh591_0; exact h
                    have w594 : I573 340 10 = dkTe (I0 345) (I0 340 6) (dkTe (I0 345) (I0 340 6) (dkTe (I0 345) (I0 340 6) (dkTe (I0 345) (I0 340 6) (dkTe (I0 345) (I0 340 6) (0))))) := y582
                    have y595 : I591 340 8 = dkTe (I0 345) (I0 340 6) (dkTe (I0 345) (I0 340 6) (dkTe (I0 345) (I0 340 6) (dkTe (I0 345) (I0 340 6) (dkTe (I0 345) (I0 340 6) (0))))) := by have h := xh591_1; rw [w594] at h; exact h
                    have w596 : I573 340 9 = dkTe (I0 345) (I0 340 6) (dkTe (I0 345) (I0 340 6) (dkTe (I0 345) (I0 340 6) (dkTe (I0 345) (I0 340 6) (dkTe (I0 345) (I0 340 6) (dkTe (I0 345) (I0 340 6) (0)))))) := y581
                    have y597 : I591 340 9 = dkTe (I0 345) (I0 340 6) (dkTe (I0 345) (I0 340 6) (dkTe (I0 345) (I0 340 6) (dkTe (I0 345) (I0 340 6) (dkTe (I0 345) (I0 340 6) (dkTe (I0 345) (I0 340 6) (0)))))) := by have h := xh591_2; rw [w596] at h; exact h
                    have y598 : I591 340 10 = dkTe (I0 345) (I0 340 6) (dkTe (I0 345) (I0 340 6) (dkTe (I0 345) (I0 340 6) (dkTe (I0 345) (I0 340 6) (dkTe (I0 345) (I0 340 6) (0))))) := by have h := xh591_3; rw [w594] at h; exact h
                    have w599 : I573 340 11 = dkTk (I0 345) (I0 340 6) (dkTe (I0 345) (I0 340 6) (dkTe (I0 345) (I0 340 6) (dkTe (I0 345) (I0 340 6) (dkTe (I0 345) (I0 340 6) (dkTe (I0 345) (I0 340 6) (0)))))) := y583
                    have y600 : I591 340 11 = dkTk (I0 345) (I0 340 6) (dkTe (I0 345) (I0 340 6) (dkTe (I0 345) (I0 340 6) (dkTe (I0 345) (I0 340 6) (dkTe (I0 345) (I0 340 6) (dkTe (I0 345) (I0 340 6) (0)))))) := by have h := xh591_4; rw [w599] at h; exact h
                    have w601 : I573 340 12 = dkTv (I0 345) (I0 340 6) (dkTe (I0 345) (I0 340 6) (dkTe (I0 345) (I0 340 6) (dkTe (I0 345) (I0 340 6) (dkTe (I0 345) (I0 340 6) (dkTe (I0 345) (I0 340 6) (0)))))) := y584
                    have y602 : I591 340 12 = dkTv (I0 345) (I0 340 6) (dkTe (I0 345) (I0 340 6) (dkTe (I0 345) (I0 340 6) (dkTe (I0 345) (I0 340 6) (dkTe (I0 345) (I0 340 6) (dkTe (I0 345) (I0 340 6) (0)))))) := by have h := xh591_5; rw [w601] at h; exact h
                    refine lv_aload_n hx hb dX6_town_134 rfl (lv_at hl 0 rfl) ?_
                    refine dk_Vi (As := []) (rest := []) ⟨hx, hb, hml, hown, hts⟩ (fx_X6_isWell_7 l g z I591 (show dkN [(0, 90)] (I591 340 8) from dkN_sub f591_340_8 rfl) hO) (cwV 0 hts gX6_town_X6_isWell rfl rfl rfl (by decide +kernel) ⟨Nat.le_of_ble_eq_true rfl, Nat.le_of_ble_eq_true rfl⟩) (dk_at340 hW) rfl hK hT hW hS rfl hl.1 rfl (Nat.le_of_ble_eq_true rfl) dX6_town_135 ⟨Nat.zero_le _, Nat.zero_le _⟩ (fun v603 I603 H603 L603 hp603 hW hS => ?_)
                    obtain ⟨hF603, hO, hc603⟩ := hp603
                    have hF := dkF_call hF hF603 rfl
                    have hP := dkPP_F hP hF603 rfl
                    have eI603 : I591 = I603 := (dkF_nil hF603).symm
                    subst eI603
                    obtain ⟨dv603, f603_340_8, x603_0, xr603, -⟩ := hc603
                    have w604 : I591 340 8 = dkTe (I0 345) (I0 340 6) (dkTe (I0 345) (I0 340 6) (dkTe (I0 345) (I0 340 6) (dkTe (I0 345) (I0 340 6) (dkTe (I0 345) (I0 340 6) (0))))) := y595
                    have q605 : (0 : Int) + 0 ≤ (dkTe (I0 345) (I0 340 6) (dkTe (I0 345) (I0 340 6) (dkTe (I0 345) (I0 340 6) (dkTe (I0 345) (I0 340 6) (dkTe (I0 345) (I0 340 6) (0)))))).toInt := by have h := x603_0; rw [w604] at h; exact h
                    have xv603 : v603 = 0 := by have h := xr603; exact h
                    refine lv_if_eq (tgt := 165) hx hb dX6_town_138 (by decide) (fun c606 => ?_) (fun c606 => ?_)
                    ·
                      refine lv_aload_n hx hb dX6_town_165 rfl (lv_at hl 0 rfl) ?_
                      refine dk_Vi (As := []) (rest := []) ⟨hx, hb, hml, hown, hts⟩ (fx_X6_isWell_7 l g z I591 (show dkN [(0, 90)] (I591 340 8) from dkN_sub f603_340_8 rfl) hO) (cwV 0 hts gX6_town_X6_isWell rfl rfl rfl (by decide +kernel) ⟨Nat.le_of_ble_eq_true rfl, Nat.le_of_ble_eq_true rfl⟩) (dk_at340 hW) rfl hK hT hW hS rfl hl.1 rfl (Nat.le_of_ble_eq_true rfl) dX6_town_166 ⟨Nat.zero_le _, Nat.zero_le _⟩ (fun v607 I607 H607 L607 hp607 hW hS => ?_)
                      obtain ⟨hF607, hO, hc607⟩ := hp607
                      have hF := dkF_call hF hF607 rfl
                      have hP := dkPP_F hP hF607 rfl
                      have eI607 : I591 = I607 := (dkF_nil hF607).symm
                      subst eI607
                      obtain ⟨dv607, f607_340_8, x607_0, xr607, -⟩ := hc607
                      have w608 : I591 340 8 = dkTe (I0 345) (I0 340 6) (dkTe (I0 345) (I0 340 6) (dkTe (I0 345) (I0 340 6) (dkTe (I0 345) (I0 340 6) (dkTe (I0 345) (I0 340 6) (0))))) := ((hF603 340 8 rfl).trans y595)
                      have xv607 : v607 = 0 := by have h := xr607; exact h
                      refine lv_if_eq (tgt := 197) hx hb dX6_town_169 (by decide) (fun c609 => ?_) (fun c609 => ?_)
                      ·
                        have i0 : (0 : Int32).toInt = 0 := rfl
                        have i1 : (1 : Int32).toInt = 1 := rfl
                        have i2 : (2 : Int32).toInt = 2 := rfl
                        have i3 : (3 : Int32).toInt = 3 := rfl
                        have i9 : (9 : Int32).toInt = 9 := rfl
                        have i30 : (30 : Int32).toInt = 30 := rfl
                        have i44 : (44 : Int32).toInt = 44 := rfl
                        have i59 : (59 : Int32).toInt = 59 := rfl
                        have i109 : (109 : Int32).toInt = 109 := rfl
                        have i116 : (116 : Int32).toInt = 116 := rfl
                        have hlw : dkLw (I0 345) (I0 340 6) 0 = (0, dkTe (I0 345) (I0 340 6) (dkTe (I0 345) (I0 340 6) (dkTe (I0 345) (I0 340 6) (dkTe (I0 345) (I0 340 6) (dkTe (I0 345) (I0 340 6) (0)))))) := ((dkTh_p (dkK_l (T := (I0 345)) (n := (I0 340 6)) (a := 0) (c := 116) q300 (by omega))).trans ((dkTh_p (dkK_0 (T := (I0 345)) (n := (I0 340 6)) (a := dkTe (I0 345) (I0 340 6) (0)) (lo := 3) (hi := 9) q408 (by omega) (by omega))).trans ((dkTh_p (dkK_c (T := (I0 345)) (n := (I0 340 6)) (a := dkTe (I0 345) (I0 340 6) (dkTe (I0 345) (I0 340 6) (0))) q518)).trans ((dkTh_p (dkK_0 (T := (I0 345)) (n := (I0 340 6)) (a := dkTe (I0 345) (I0 340 6) (dkTe (I0 345) (I0 340 6) (dkTe (I0 345) (I0 340 6) (0)))) (lo := 1) (hi := 30) q523 (by omega) (by omega))).trans (dkK_s (T := (I0 345)) (n := (I0 340 6)) (a := dkTe (I0 345) (I0 340 6) (dkTe (I0 345) (I0 340 6) (dkTe (I0 345) (I0 340 6) (dkTe (I0 345) (I0 340 6) (0))))) q570)))))
                        have hhh : dkHh (I0 345) (I0 340 6) = (dkTv (I0 345) (I0 340 6) (dkTe (I0 345) (I0 340 6) (0))) := (by unfold dkHh; rw [show dkSg (I0 345) (I0 340 6) 116 0 = (0, dkTe (I0 345) (I0 340 6) (0)) from dkK_l (T := (I0 345)) (n := (I0 340 6)) (a := 0) (c := 116) q300 (by omega)]; exact (dkK_v (T := (I0 345)) (n := (I0 340 6)) (a := dkTe (I0 345) (I0 340 6) (0)) (by omega)).symm)
                        have e610 : dkTw (I0 345) (I0 340 6) = (1, dkTe (I0 345) (I0 340 6) (dkTe (I0 345) (I0 340 6) (dkTe (I0 345) (I0 340 6) (dkTe (I0 345) (I0 340 6) (dkTe (I0 345) (I0 340 6) (0)))))) := dkTw_p hlw hhh (dkPs_1 (dkK_ln (T := (I0 345)) (n := (I0 340 6)) (a := dkTe (I0 345) (I0 340 6) (dkTe (I0 345) (I0 340 6) (dkTe (I0 345) (I0 340 6) (dkTe (I0 345) (I0 340 6) (dkTe (I0 345) (I0 340 6) (0)))))) (c := 109) (by omega) (by omega))) (by decide)
                        exact C197 I591 _ _ ls x2_1 hW hS hF hO hP (dkN_sub d252 rfl) (show dkN [(1, 3)] (I591 340 7) from dkN_sub (by rw [hF607 340 7 rfl]; exact (by rw [hF603 340 7 rfl]; exact f591_340_7)) rfl) (show dkN [(0, 90)] (I591 340 8) from dkN_sub f607_340_8 rfl) (show dkN [(0, 0), (3, 9)] (I591 347 0) from dkN_sub (by rw [hF607 347 0 rfl]; exact (by rw [hF603 347 0 rfl]; exact (by rw [hF591 347 0 rfl]; exact (by rw [hF573 347 0 rfl]; exact (by rw [eI533, dkU_sn (by decide)]; exact (by rw [hF423 347 0 rfl]; exact (by rw [eI422, dkU_ss]; exact dv356))))))) rfl) ((funext fun j => hF607 345 j dkNin_nil).trans ((funext fun j => hF603 345 j dkNin_nil).trans ((funext fun j => hF591 345 j (dkNin_k rfl dkNin_nil)).trans ((funext fun j => hF573 345 j (dkNin_k rfl dkNin_nil)).trans ((by rw [eI533, dkU_n (by decide)] : I533 345 = _).trans ((funext fun j => hF423 345 j (dkNin_k rfl dkNin_nil)).trans ((by rw [eI422, dkU_n (by decide)] : I422 345 = _).trans ((funext fun j => hF356 345 j (dkNin_k rfl dkNin_nil)).trans ((funext fun j => hF343 345 j (dkNin_k rfl dkNin_nil)).trans ((funext fun j => hF255 345 j (dkNin_k rfl dkNin_nil)).trans ((by rw [eI254, dkU_n (by decide)] : I254 345 = _).trans ((by rw [eI253, dkU_n (by decide)] : I253 345 = _).trans z2_0)))))))))))) ((hF607 340 17 rfl).trans ((hF603 340 17 rfl).trans ((hF591 340 17 rfl).trans ((hF573 340 17 rfl).trans ((by rw [eI533, dkU_n (by decide)] : I533 340 17 = _).trans ((hF423 340 17 rfl).trans ((by rw [eI422, dkU_n (by decide)] : I422 340 17 = _).trans ((hF356 340 17 rfl).trans ((hF343 340 17 rfl).trans ((hF255 340 17 rfl).trans ((by rw [eI254, dkU_sn (by decide)] : I254 340 17 = _).trans ((by rw [eI253, dkU_sn (by decide)] : I253 340 17 = _).trans zp2_0)))))))))))) ((hF607 340 6 rfl).trans ((hF603 340 6 rfl).trans ((hF591 340 6 rfl).trans ((hF573 340 6 rfl).trans ((by rw [eI533, dkU_n (by decide)] : I533 340 6 = _).trans ((hF423 340 6 rfl).trans ((by rw [eI422, dkU_n (by decide)] : I422 340 6 = _).trans ((hF356 340 6 rfl).trans ((hF343 340 6 rfl).trans ((hF255 340 6 rfl).trans ((by rw [eI254, dkU_sn (by decide)] : I254 340 6 = _).trans ((by rw [eI253, dkU_sn (by decide)] : I253 340 6 = _).trans zp2_1)))))))))))) ((hF607 346 0 rfl).trans ((hF603 346 0 rfl).trans ((hF591 346 0 rfl).trans ((hF573 346 0 rfl).trans ((by rw [eI533, dkU_n (by decide)] : I533 346 0 = _).trans ((hF423 346 0 rfl).trans ((by rw [eI422, dkU_n (by decide)] : I422 346 0 = _).trans ((hF356 346 0 rfl).trans ((hF343 346 0 rfl).trans ((hF255 346 0 rfl).trans ((by rw [eI254, dkU_n (by decide)] : I254 346 0 = _).trans ((by rw [eI253, dkU_n (by decide)] : I253 346 0 = _).trans zp2_3)))))))))))) ((hF607 346 4 rfl).trans ((hF603 346 4 rfl).trans ((hF591 346 4 rfl).trans ((hF573 346 4 rfl).trans ((by rw [eI533, dkU_n (by decide)] : I533 346 4 = _).trans ((hF423 346 4 rfl).trans ((by rw [eI422, dkU_n (by decide)] : I422 346 4 = _).trans ((hF356 346 4 rfl).trans ((hF343 346 4 rfl).trans ((hF255 346 4 rfl).trans ((by rw [eI254, dkU_n (by decide)] : I254 346 4 = _).trans ((by rw [eI253, dkU_n (by decide)] : I253 346 4 = _).trans zp2_4)))))))))))) ((hF607 346 5 rfl).trans ((hF603 346 5 rfl).trans ((hF591 346 5 rfl).trans ((hF573 346 5 rfl).trans ((by rw [eI533, dkU_n (by decide)] : I533 346 5 = _).trans ((hF423 346 5 rfl).trans ((by rw [eI422, dkU_n (by decide)] : I422 346 5 = _).trans ((hF356 346 5 rfl).trans ((hF343 346 5 rfl).trans ((hF255 346 5 rfl).trans ((by rw [eI254, dkU_n (by decide)] : I254 346 5 = _).trans ((by rw [eI253, dkU_n (by decide)] : I253 346 5 = _).trans zp2_5)))))))))))) ⟨(dkE_k e610 (by decide)), (((show I591 340 7 = 1 from ((hF607 340 7 rfl).trans ((hF603 340 7 rfl).trans y593)))).trans (dkP_1 e610).symm), (((show I591 340 8 = dkTe (I0 345) (I0 340 6) (dkTe (I0 345) (I0 340 6) (dkTe (I0 345) (I0 340 6) (dkTe (I0 345) (I0 340 6) (dkTe (I0 345) (I0 340 6) (0))))) from ((hF607 340 8 rfl).trans ((hF603 340 8 rfl).trans y595)))).trans (dkP_2 e610).symm)⟩ (lv_sub hl [0, 1] rfl)
                      ·
                        exact absurd ((xv607).trans (rfl).symm) c609
                    ·
                      exact absurd ((xv603).trans (rfl).symm) c606
                  ·
                    have q611 : (dkTk (I0 345) (I0 340 6) (dkTe (I0 345) (I0 340 6) (dkTe (I0 345) (I0 340 6) (dkTe (I0 345) (I0 340 6) (dkTe (I0 345) (I0 340 6) (dkTe (I0 345) (I0 340 6) (0))))))).toInt = (1 : Int) := by first | (rw [← xv586]; exact (congrArg Int32.toInt c587)) | (subst xv586; exact (congrArg Int32.toInt c587))
                    have d612 : dkN [(1, 1)] v586 := dkN_eq1 dv586 (dkN_lit (x := 1) (1) rfl) (congrArg Int32.toInt c587) rfl
                    have f613 : dkN [(1, 1)] (I573 340 11) := by rw [← ev586]; exact d612
                    refine lv_aload_n hx hb dX6_town_117 rfl (lv_at hl 0 rfl) ?_
                    refine dk_get (k := 340) hx hb hts iX6_town_6 hown hK (dk_at340 hW) rfl 12 (by decide) (hts (.fieldLink RX6 95 "DogKingsModel" "value" "I") (List.mem_of_getElem? (i := 5) rfl)) rfl dX6_town_118 ?_
                    refine lv_topi (fun v614 ev614 => ?_)
                    have xv614 : v614 = dkTv (I0 345) (I0 340 6) (dkTe (I0 345) (I0 340 6) (dkTe (I0 345) (I0 340 6) (dkTe (I0 345) (I0 340 6) (dkTe (I0 345) (I0 340 6) (dkTe (I0 345) (I0 340 6) (0)))))) := ev614.trans y584
                    refine lv_bipush (v := 109) hx hb dX6_town_121 (by decide) ?_
                    refine lv_icmp_ne (tgt := 130) hx hb dX6_town_123 (by decide) (fun c615 => ?_) (fun c615 => ?_)
                    ·
                      have q616 : (dkTv (I0 345) (I0 340 6) (dkTe (I0 345) (I0 340 6) (dkTe (I0 345) (I0 340 6) (dkTe (I0 345) (I0 340 6) (dkTe (I0 345) (I0 340 6) (dkTe (I0 345) (I0 340 6) (0))))))).toInt ≠ (109 : Int) := by first | (rw [← xv614]; exact (dk_ne c615)) | (subst xv614; exact (dk_ne c615))
                      have d617 : dkN [(-2147483648, 108), (110, 2147483647)] v614 := dkN_ne1 (109) (dkN_top v614) (dkN_lit (x := 109) (109) rfl) (dk_ne c615) rfl
                      have f618 : dkN [(-2147483648, 108), (110, 2147483647)] (I573 340 12) := by rw [← ev614]; exact d617
                      refine lv_iconst (v := 0) hx hb dX6_town_130 (by decide) ?_
                      refine dk_Vv (As := [.int 0]) (rest := []) ⟨hx, hb, hml, hown, hts⟩ (fx_X6_must_8 l g z I573 0 (dkN_lit (x := 0) (0) rfl) (show dkN [(-1, -1)] (I573 340 8) from dkN_sub f573_340_8 rfl) hO) (cwV 1 hts gX6_town_X6_must rfl rfl rfl (by decide +kernel) ⟨Nat.le_of_ble_eq_true rfl, Nat.le_of_ble_eq_true rfl⟩) (dk_at340 hW) rfl hK hT hW hS rfl hl.1 rfl (Nat.le_of_ble_eq_true rfl) dX6_town_131 ⟨Nat.zero_le _, Nat.zero_le _⟩ (fun I619 H619 L619 hp619 hW hS => ?_)
                      obtain ⟨hF619, hO, hc619⟩ := hp619
                      have hF := dkF_call hF hF619 rfl
                      have hP := dkPP_F hP hF619 rfl
                      obtain ⟨f619_340_7, f619_340_8, x619_0, x619_1, xh619_0, xh619_1, xh619_2, xh619_3, xh619_4, xh619_5, -⟩ := hc619
                      have w620 : I573 340 8 = (-1) := y577
                      have y621 : I619 340 7 = 1 := by have h := xh619_0; exact h
                      have w622 : I573 340 10 = dkTe (I0 345) (I0 340 6) (dkTe (I0 345) (I0 340 6) (dkTe (I0 345) (I0 340 6) (dkTe (I0 345) (I0 340 6) (dkTe (I0 345) (I0 340 6) (0))))) := y582
                      have y623 : I619 340 8 = dkTe (I0 345) (I0 340 6) (dkTe (I0 345) (I0 340 6) (dkTe (I0 345) (I0 340 6) (dkTe (I0 345) (I0 340 6) (dkTe (I0 345) (I0 340 6) (0))))) := by have h := xh619_1; rw [w622] at h; exact h
                      have w624 : I573 340 9 = dkTe (I0 345) (I0 340 6) (dkTe (I0 345) (I0 340 6) (dkTe (I0 345) (I0 340 6) (dkTe (I0 345) (I0 340 6) (dkTe (I0 345) (I0 340 6) (dkTe (I0 345) (I0 340 6) (0)))))) := y581
                      have y625 : I619 340 9 = dkTe (I0 345) (I0 340 6) (dkTe (I0 345) (I0 340 6) (dkTe (I0 345) (I0 340 6) (dkTe (I0 345) (I0 340 6) (dkTe (I0 345) (I0 340 6) (dkTe (I0 345) (I0 340 6) (0)))))) := by have h := xh619_2; rw [w624] at h; exact h
                      have y626 : I619 340 10 = dkTe (I0 345) (I0 340 6) (dkTe (I0 345) (I0 340 6) (dkTe (I0 345) (I0 340 6) (dkTe (I0 345) (I0 340 6) (dkTe (I0 345) (I0 340 6) (0))))) := by have h := xh619_3; rw [w622] at h; exact h
                      have w627 : I573 340 11 = dkTk (I0 345) (I0 340 6) (dkTe (I0 345) (I0 340 6) (dkTe (I0 345) (I0 340 6) (dkTe (I0 345) (I0 340 6) (dkTe (I0 345) (I0 340 6) (dkTe (I0 345) (I0 340 6) (0)))))) := y583
                      have y628 : I619 340 11 = dkTk (I0 345) (I0 340 6) (dkTe (I0 345) (I0 340 6) (dkTe (I0 345) (I0 340 6) (dkTe (I0 345) (I0 340 6) (dkTe (I0 345) (I0 340 6) (dkTe (I0 345) (I0 340 6) (0)))))) := by have h := xh619_4; rw [w627] at h; exact h
                      have w629 : I573 340 12 = dkTv (I0 345) (I0 340 6) (dkTe (I0 345) (I0 340 6) (dkTe (I0 345) (I0 340 6) (dkTe (I0 345) (I0 340 6) (dkTe (I0 345) (I0 340 6) (dkTe (I0 345) (I0 340 6) (0)))))) := y584
                      have y630 : I619 340 12 = dkTv (I0 345) (I0 340 6) (dkTe (I0 345) (I0 340 6) (dkTe (I0 345) (I0 340 6) (dkTe (I0 345) (I0 340 6) (dkTe (I0 345) (I0 340 6) (dkTe (I0 345) (I0 340 6) (0)))))) := by have h := xh619_5; rw [w629] at h; exact h
                      refine lv_aload_n hx hb dX6_town_134 rfl (lv_at hl 0 rfl) ?_
                      refine dk_Vi (As := []) (rest := []) ⟨hx, hb, hml, hown, hts⟩ (fx_X6_isWell_7 l g z I619 (show dkN [(0, 90)] (I619 340 8) from dkN_sub f619_340_8 rfl) hO) (cwV 0 hts gX6_town_X6_isWell rfl rfl rfl (by decide +kernel) ⟨Nat.le_of_ble_eq_true rfl, Nat.le_of_ble_eq_true rfl⟩) (dk_at340 hW) rfl hK hT hW hS rfl hl.1 rfl (Nat.le_of_ble_eq_true rfl) dX6_town_135 ⟨Nat.zero_le _, Nat.zero_le _⟩ (fun v631 I631 H631 L631 hp631 hW hS => ?_)
                      obtain ⟨hF631, hO, hc631⟩ := hp631
                      have hF := dkF_call hF hF631 rfl
                      have hP := dkPP_F hP hF631 rfl
                      have eI631 : I619 = I631 := (dkF_nil hF631).symm
                      subst eI631
                      obtain ⟨dv631, f631_340_8, x631_0, xr631, -⟩ := hc631
                      have w632 : I619 340 8 = dkTe (I0 345) (I0 340 6) (dkTe (I0 345) (I0 340 6) (dkTe (I0 345) (I0 340 6) (dkTe (I0 345) (I0 340 6) (dkTe (I0 345) (I0 340 6) (0))))) := y623
                      have q633 : (0 : Int) + 0 ≤ (dkTe (I0 345) (I0 340 6) (dkTe (I0 345) (I0 340 6) (dkTe (I0 345) (I0 340 6) (dkTe (I0 345) (I0 340 6) (dkTe (I0 345) (I0 340 6) (0)))))).toInt := by have h := x631_0; rw [w632] at h; exact h
                      have xv631 : v631 = 0 := by have h := xr631; exact h
                      refine lv_if_eq (tgt := 165) hx hb dX6_town_138 (by decide) (fun c634 => ?_) (fun c634 => ?_)
                      ·
                        refine lv_aload_n hx hb dX6_town_165 rfl (lv_at hl 0 rfl) ?_
                        refine dk_Vi (As := []) (rest := []) ⟨hx, hb, hml, hown, hts⟩ (fx_X6_isWell_7 l g z I619 (show dkN [(0, 90)] (I619 340 8) from dkN_sub f631_340_8 rfl) hO) (cwV 0 hts gX6_town_X6_isWell rfl rfl rfl (by decide +kernel) ⟨Nat.le_of_ble_eq_true rfl, Nat.le_of_ble_eq_true rfl⟩) (dk_at340 hW) rfl hK hT hW hS rfl hl.1 rfl (Nat.le_of_ble_eq_true rfl) dX6_town_166 ⟨Nat.zero_le _, Nat.zero_le _⟩ (fun v635 I635 H635 L635 hp635 hW hS => ?_)
                        obtain ⟨hF635, hO, hc635⟩ := hp635
                        have hF := dkF_call hF hF635 rfl
                        have hP := dkPP_F hP hF635 rfl
                        have eI635 : I619 = I635 := (dkF_nil hF635).symm
                        subst eI635
                        obtain ⟨dv635, f635_340_8, x635_0, xr635, -⟩ := hc635
                        have w636 : I619 340 8 = dkTe (I0 345) (I0 340 6) (dkTe (I0 345) (I0 340 6) (dkTe (I0 345) (I0 340 6) (dkTe (I0 345) (I0 340 6) (dkTe (I0 345) (I0 340 6) (0))))) := ((hF631 340 8 rfl).trans y623)
                        have xv635 : v635 = 0 := by have h := xr635; exact h
                        refine lv_if_eq (tgt := 197) hx hb dX6_town_169 (by decide) (fun c637 => ?_) (fun c637 => ?_)
                        ·
                          have i0 : (0 : Int32).toInt = 0 := rfl
                          have i1 : (1 : Int32).toInt = 1 := rfl
                          have i2 : (2 : Int32).toInt = 2 := rfl
                          have i3 : (3 : Int32).toInt = 3 := rfl
                          have i9 : (9 : Int32).toInt = 9 := rfl
                          have i30 : (30 : Int32).toInt = 30 := rfl
                          have i44 : (44 : Int32).toInt = 44 := rfl
                          have i59 : (59 : Int32).toInt = 59 := rfl
                          have i109 : (109 : Int32).toInt = 109 := rfl
                          have i116 : (116 : Int32).toInt = 116 := rfl
                          have hlw : dkLw (I0 345) (I0 340 6) 0 = (0, dkTe (I0 345) (I0 340 6) (dkTe (I0 345) (I0 340 6) (dkTe (I0 345) (I0 340 6) (dkTe (I0 345) (I0 340 6) (dkTe (I0 345) (I0 340 6) (0)))))) := ((dkTh_p (dkK_l (T := (I0 345)) (n := (I0 340 6)) (a := 0) (c := 116) q300 (by omega))).trans ((dkTh_p (dkK_0 (T := (I0 345)) (n := (I0 340 6)) (a := dkTe (I0 345) (I0 340 6) (0)) (lo := 3) (hi := 9) q408 (by omega) (by omega))).trans ((dkTh_p (dkK_c (T := (I0 345)) (n := (I0 340 6)) (a := dkTe (I0 345) (I0 340 6) (dkTe (I0 345) (I0 340 6) (0))) q518)).trans ((dkTh_p (dkK_0 (T := (I0 345)) (n := (I0 340 6)) (a := dkTe (I0 345) (I0 340 6) (dkTe (I0 345) (I0 340 6) (dkTe (I0 345) (I0 340 6) (0)))) (lo := 1) (hi := 30) q523 (by omega) (by omega))).trans (dkK_s (T := (I0 345)) (n := (I0 340 6)) (a := dkTe (I0 345) (I0 340 6) (dkTe (I0 345) (I0 340 6) (dkTe (I0 345) (I0 340 6) (dkTe (I0 345) (I0 340 6) (0))))) q570)))))
                          have hhh : dkHh (I0 345) (I0 340 6) = (dkTv (I0 345) (I0 340 6) (dkTe (I0 345) (I0 340 6) (0))) := (by unfold dkHh; rw [show dkSg (I0 345) (I0 340 6) 116 0 = (0, dkTe (I0 345) (I0 340 6) (0)) from dkK_l (T := (I0 345)) (n := (I0 340 6)) (a := 0) (c := 116) q300 (by omega)]; exact (dkK_v (T := (I0 345)) (n := (I0 340 6)) (a := dkTe (I0 345) (I0 340 6) (0)) (by omega)).symm)
                          have e638 : dkTw (I0 345) (I0 340 6) = (1, dkTe (I0 345) (I0 340 6) (dkTe (I0 345) (I0 340 6) (dkTe (I0 345) (I0 340 6) (dkTe (I0 345) (I0 340 6) (dkTe (I0 345) (I0 340 6) (0)))))) := dkTw_p hlw hhh (dkPs_1 (dkK_ln (T := (I0 345)) (n := (I0 340 6)) (a := dkTe (I0 345) (I0 340 6) (dkTe (I0 345) (I0 340 6) (dkTe (I0 345) (I0 340 6) (dkTe (I0 345) (I0 340 6) (dkTe (I0 345) (I0 340 6) (0)))))) (c := 109) (by omega) (by omega))) (by decide)
                          exact C197 I619 _ _ ls x2_1 hW hS hF hO hP (dkN_sub d252 rfl) (show dkN [(1, 3)] (I619 340 7) from dkN_sub (by rw [hF635 340 7 rfl]; exact (by rw [hF631 340 7 rfl]; exact f619_340_7)) rfl) (show dkN [(0, 90)] (I619 340 8) from dkN_sub f635_340_8 rfl) (show dkN [(0, 0), (3, 9)] (I619 347 0) from dkN_sub (by rw [hF635 347 0 rfl]; exact (by rw [hF631 347 0 rfl]; exact (by rw [hF619 347 0 rfl]; exact (by rw [hF573 347 0 rfl]; exact (by rw [eI533, dkU_sn (by decide)]; exact (by rw [hF423 347 0 rfl]; exact (by rw [eI422, dkU_ss]; exact dv356))))))) rfl) ((funext fun j => hF635 345 j dkNin_nil).trans ((funext fun j => hF631 345 j dkNin_nil).trans ((funext fun j => hF619 345 j (dkNin_k rfl dkNin_nil)).trans ((funext fun j => hF573 345 j (dkNin_k rfl dkNin_nil)).trans ((by rw [eI533, dkU_n (by decide)] : I533 345 = _).trans ((funext fun j => hF423 345 j (dkNin_k rfl dkNin_nil)).trans ((by rw [eI422, dkU_n (by decide)] : I422 345 = _).trans ((funext fun j => hF356 345 j (dkNin_k rfl dkNin_nil)).trans ((funext fun j => hF343 345 j (dkNin_k rfl dkNin_nil)).trans ((funext fun j => hF255 345 j (dkNin_k rfl dkNin_nil)).trans ((by rw [eI254, dkU_n (by decide)] : I254 345 = _).trans ((by rw [eI253, dkU_n (by decide)] : I253 345 = _).trans z2_0)))))))))))) ((hF635 340 17 rfl).trans ((hF631 340 17 rfl).trans ((hF619 340 17 rfl).trans ((hF573 340 17 rfl).trans ((by rw [eI533, dkU_n (by decide)] : I533 340 17 = _).trans ((hF423 340 17 rfl).trans ((by rw [eI422, dkU_n (by decide)] : I422 340 17 = _).trans ((hF356 340 17 rfl).trans ((hF343 340 17 rfl).trans ((hF255 340 17 rfl).trans ((by rw [eI254, dkU_sn (by decide)] : I254 340 17 = _).trans ((by rw [eI253, dkU_sn (by decide)] : I253 340 17 = _).trans zp2_0)))))))))))) ((hF635 340 6 rfl).trans ((hF631 340 6 rfl).trans ((hF619 340 6 rfl).trans ((hF573 340 6 rfl).trans ((by rw [eI533, dkU_n (by decide)] : I533 340 6 = _).trans ((hF423 340 6 rfl).trans ((by rw [eI422, dkU_n (by decide)] : I422 340 6 = _).trans ((hF356 340 6 rfl).trans ((hF343 340 6 rfl).trans ((hF255 340 6 rfl).trans ((by rw [eI254, dkU_sn (by decide)] : I254 340 6 = _).trans ((by rw [eI253, dkU_sn (by decide)] : I253 340 6 = _).trans zp2_1)))))))))))) ((hF635 346 0 rfl).trans ((hF631 346 0 rfl).trans ((hF619 346 0 rfl).trans ((hF573 346 0 rfl).trans ((by rw [eI533, dkU_n (by decide)] : I533 346 0 = _).trans ((hF423 346 0 rfl).trans ((by rw [eI422, dkU_n (by decide)] : I422 346 0 = _).trans ((hF356 346 0 rfl).trans ((hF343 346 0 rfl).trans ((hF255 346 0 rfl).trans ((by rw [eI254, dkU_n (by decide)] : I254 346 0 = _).trans ((by rw [eI253, dkU_n (by decide)] : I253 346 0 = _).trans zp2_3)))))))))))) ((hF635 346 4 rfl).trans ((hF631 346 4 rfl).trans ((hF619 346 4 rfl).trans ((hF573 346 4 rfl).trans ((by rw [eI533, dkU_n (by decide)] : I533 346 4 = _).trans ((hF423 346 4 rfl).trans ((by rw [eI422, dkU_n (by decide)] : I422 346 4 = _).trans ((hF356 346 4 rfl).trans ((hF343 346 4 rfl).trans ((hF255 346 4 rfl).trans ((by rw [eI254, dkU_n (by decide)] : I254 346 4 = _).trans ((by rw [eI253, dkU_n (by decide)] : I253 346 4 = _).trans zp2_4)))))))))))) ((hF635 346 5 rfl).trans ((hF631 346 5 rfl).trans ((hF619 346 5 rfl).trans ((hF573 346 5 rfl).trans ((by rw [eI533, dkU_n (by decide)] : I533 346 5 = _).trans ((hF423 346 5 rfl).trans ((by rw [eI422, dkU_n (by decide)] : I422 346 5 = _).trans ((hF356 346 5 rfl).trans ((hF343 346 5 rfl).trans ((hF255 346 5 rfl).trans ((by rw [eI254, dkU_n (by decide)] : I254 346 5 = _).trans ((by rw [eI253, dkU_n (by decide)] : I253 346 5 = _).trans zp2_5)))))))))))) ⟨(dkE_k e638 (by decide)), (((show I619 340 7 = 1 from ((hF635 340 7 rfl).trans ((hF631 340 7 rfl).trans y621)))).trans (dkP_1 e638).symm), (((show I619 340 8 = dkTe (I0 345) (I0 340 6) (dkTe (I0 345) (I0 340 6) (dkTe (I0 345) (I0 340 6) (dkTe (I0 345) (I0 340 6) (dkTe (I0 345) (I0 340 6) (0))))) from ((hF635 340 8 rfl).trans ((hF631 340 8 rfl).trans y623)))).trans (dkP_2 e638).symm)⟩ (lv_sub hl [0, 1] rfl)
                        ·
                          exact absurd ((xv635).trans (rfl).symm) c637
                      ·
                        exact absurd ((xv631).trans (rfl).symm) c634
                    ·
                      have q639 : (dkTv (I0 345) (I0 340 6) (dkTe (I0 345) (I0 340 6) (dkTe (I0 345) (I0 340 6) (dkTe (I0 345) (I0 340 6) (dkTe (I0 345) (I0 340 6) (dkTe (I0 345) (I0 340 6) (0))))))).toInt = (109 : Int) := by first | (rw [← xv614]; exact (congrArg Int32.toInt c615)) | (subst xv614; exact (congrArg Int32.toInt c615))
                      have d640 : dkN [(109, 109)] v614 := dkN_eq1 (dkN_top v614) (dkN_lit (x := 109) (109) rfl) (congrArg Int32.toInt c615) rfl
                      have f641 : dkN [(109, 109)] (I573 340 12) := by rw [← ev614]; exact d640
                      refine lv_iconst (v := 1) hx hb dX6_town_126 (by decide) ?_
                      refine lv_goto (tgt := 131) hx hb dX6_town_127 (by decide) ?_
                      refine dk_Vv (As := [.int 1]) (rest := []) ⟨hx, hb, hml, hown, hts⟩ (fx_X6_must_9 l g z I573 1 (dkN_lit (x := 1) (1) rfl) (show dkN [(-1, -1)] (I573 340 8) from dkN_sub f573_340_8 rfl) hO) (cwV 1 hts gX6_town_X6_must rfl rfl rfl (by decide +kernel) ⟨Nat.le_of_ble_eq_true rfl, Nat.le_of_ble_eq_true rfl⟩) (dk_at340 hW) rfl hK hT hW hS rfl hl.1 rfl (Nat.le_of_ble_eq_true rfl) dX6_town_131 ⟨Nat.zero_le _, Nat.zero_le _⟩ (fun I642 H642 L642 hp642 hW hS => ?_)
                      obtain ⟨hF642, hO, hc642⟩ := hp642
                      have hF := dkF_call hF hF642 rfl
                      have hP := dkPP_F hP hF642 rfl
                      have eI642 : I573 = I642 := (dkF_nil hF642).symm
                      subst eI642
                      obtain ⟨f642_340_8, x642_0, x642_1, xh642_0, xh642_1, xh642_2, xh642_3, xh642_4, xh642_5, -⟩ := hc642
                      have w643 : I573 340 8 = (-1) := y577
                      refine lv_aload_n hx hb dX6_town_134 rfl (lv_at hl 0 rfl) ?_
                      refine dk_Vi (As := []) (rest := []) ⟨hx, hb, hml, hown, hts⟩ (fx_X6_isWell_6 l g z I573 (show dkN [(-1, -1)] (I573 340 8) from dkN_sub f642_340_8 rfl) hO) (cwV 0 hts gX6_town_X6_isWell rfl rfl rfl (by decide +kernel) ⟨Nat.le_of_ble_eq_true rfl, Nat.le_of_ble_eq_true rfl⟩) (dk_at340 hW) rfl hK hT hW hS rfl hl.1 rfl (Nat.le_of_ble_eq_true rfl) dX6_town_135 ⟨Nat.zero_le _, Nat.zero_le _⟩ (fun v644 I644 H644 L644 hp644 hW hS => ?_)
                      obtain ⟨hF644, hO, hc644⟩ := hp644
                      have hF := dkF_call hF hF644 rfl
                      have hP := dkPP_F hP hF644 rfl
                      have eI644 : I573 = I644 := (dkF_nil hF644).symm
                      subst eI644
                      obtain ⟨dv644, f644_340_8, x644_0, xr644, -⟩ := hc644
                      have w645 : I573 340 8 = (-1) := ((hF642 340 8 rfl).trans y577)
                      have xv644 : v644 = 1 := by have h := xr644; exact h
                      refine lv_if_eq (tgt := 165) hx hb dX6_town_138 (by decide) (fun c646 => ?_) (fun c646 => ?_)
                      ·
                        exact (dkN_nil (show dkN [] v644 from dkN_eq1 dv644 (dkN_lit (x := 0) (0) rfl) (congrArg Int32.toInt c646) rfl)).elim
                      ·
                        refine lv_aload_n hx hb dX6_town_141 rfl (lv_at hl 0 rfl) ?_
                        refine dk_get (k := 340) hx hb hts iX6_town_6 hown hK (dk_at340 hW) rfl 11 (by decide) (hts (.fieldLink RX6 98 "DogKingsModel" "token" "I") (List.mem_of_getElem? (i := 4) rfl)) rfl dX6_town_142 ?_
                        refine lv_topi (fun v647 ev647 => ?_)
                        have dv647 : dkN [(1, 1)] v647 := by rw [ev647]; exact (by rw [hF644 340 11 rfl]; exact (by rw [hF642 340 11 rfl]; exact f613))
                        have xv647 : v647 = dkTk (I0 345) (I0 340 6) (dkTe (I0 345) (I0 340 6) (dkTe (I0 345) (I0 340 6) (dkTe (I0 345) (I0 340 6) (dkTe (I0 345) (I0 340 6) (dkTe (I0 345) (I0 340 6) (0)))))) := ev647.trans ((hF644 340 11 rfl).trans ((hF642 340 11 rfl).trans y583))
                        refine lv_iconst (v := 1) hx hb dX6_town_145 (by decide) ?_
                        refine lv_icmp_ne (tgt := 165) hx hb dX6_town_146 (by decide) (fun c648 => ?_) (fun c648 => ?_)
                        ·
                          exact (dkN_nil (show dkN [] v647 from dkN_ne1 (1) dv647 (dkN_lit (x := 1) (1) rfl) (dk_ne c648) rfl)).elim
                        ·
                          refine lv_aload_n hx hb dX6_town_149 rfl (lv_at hl 0 rfl) ?_
                          refine dk_get (k := 340) hx hb hts iX6_town_6 hown hK (dk_at340 hW) rfl 12 (by decide) (hts (.fieldLink RX6 95 "DogKingsModel" "value" "I") (List.mem_of_getElem? (i := 5) rfl)) rfl dX6_town_150 ?_
                          refine lv_topi (fun v649 ev649 => ?_)
                          have dv649 : dkN [(109, 109)] v649 := by rw [ev649]; exact (by rw [hF644 340 12 rfl]; exact (by rw [hF642 340 12 rfl]; exact f641))
                          have xv649 : v649 = dkTv (I0 345) (I0 340 6) (dkTe (I0 345) (I0 340 6) (dkTe (I0 345) (I0 340 6) (dkTe (I0 345) (I0 340 6) (dkTe (I0 345) (I0 340 6) (dkTe (I0 345) (I0 340 6) (0)))))) := ev649.trans ((hF644 340 12 rfl).trans ((hF642 340 12 rfl).trans y584))
                          refine lv_bipush (v := 109) hx hb dX6_town_153 (by decide) ?_
                          refine lv_icmp_ne (tgt := 165) hx hb dX6_town_155 (by decide) (fun c650 => ?_) (fun c650 => ?_)
                          ·
                            exact (dkN_nil (show dkN [] v649 from dkN_ne1 (109) dv649 (dkN_lit (x := 109) (109) rfl) (dk_ne c650) rfl)).elim
                          ·
                            refine lv_aload_n hx hb dX6_town_158 rfl (lv_at hl 0 rfl) ?_
                            refine dk_Vv (As := []) (rest := []) ⟨hx, hb, hml, hown, hts⟩ (fx_X6_readsPerson_1 l g z I573 (show dkN [(-1, -1)] (I573 340 8) from dkN_sub f644_340_8 rfl) (show dkN [(3, 9)] (I573 347 0) from dkN_sub (by rw [hF644 347 0 rfl]; exact (by rw [hF642 347 0 rfl]; exact (by rw [hF573 347 0 rfl]; exact (by rw [eI533, dkU_sn (by decide)]; exact (by rw [hF423 347 0 rfl]; exact (by rw [eI422, dkU_ss]; exact dv356)))))) rfl) hO) (cwV 0 hts gX6_town_X6_readsPerson rfl rfl rfl (by decide +kernel) ⟨Nat.le_of_ble_eq_true rfl, Nat.le_of_ble_eq_true rfl⟩) (dk_at340 hW) rfl hK hT hW hS rfl hl.1 rfl (Nat.le_of_ble_eq_true rfl) dX6_town_159 ⟨Nat.zero_le _, Nat.zero_le _⟩ (fun I651 H651 L651 hp651 hW hS => ?_)
                            obtain ⟨hF651, hO, hc651⟩ := hp651
                            have hF := dkF_call hF hF651 rfl
                            have hP := dkPP_F hP hF651 rfl
                            rcases hc651 with ⟨f651_340_7, f651_340_8, f651_347_0, f651_347_4, x651_0, xh651_0, xh651_1, xh651_2, xh651_3, xh651_4, -⟩ | hc651
                            ·
                              have w652 : I573 347 4 = 0 := ((hF644 347 4 rfl).trans ((hF642 347 4 rfl).trans ((hF573 347 4 rfl).trans ((by rw [eI533, dkU_sn (by decide)] : I533 347 4 = _).trans ((hF423 347 4 rfl).trans ((by rw [eI422, dkU_sn (by decide)] : I422 347 4 = _).trans ((hF356 347 4 rfl).trans ((hF343 347 4 rfl).trans ((hF255 347 4 rfl).trans ((by rw [eI254, dkU_n (by decide)] : I254 347 4 = _).trans ((by rw [eI253, dkU_n (by decide)] : I253 347 4 = _).trans hz4)))))))))))
                              exact absurd (by have h := x651_0; rw [w652] at h; exact h : (5 : Int) + 0 ≤ (0 : Int)) (by decide)
                            rcases hc651 with ⟨f651_340_7, f651_340_8, f651_347_0, f651_347_4, x651_0, x651_1, xh651_0, xh651_1, xh651_2, xh651_3, xh651_4, -⟩ | hc651
                            ·
                              have w653 : I573 347 4 = 0 := ((hF644 347 4 rfl).trans ((hF642 347 4 rfl).trans ((hF573 347 4 rfl).trans ((by rw [eI533, dkU_sn (by decide)] : I533 347 4 = _).trans ((hF423 347 4 rfl).trans ((by rw [eI422, dkU_sn (by decide)] : I422 347 4 = _).trans ((hF356 347 4 rfl).trans ((hF343 347 4 rfl).trans ((hF255 347 4 rfl).trans ((by rw [eI254, dkU_n (by decide)] : I254 347 4 = _).trans ((by rw [eI253, dkU_n (by decide)] : I253 347 4 = _).trans hz4)))))))))))
                              have w654 : I573 345 = I0 345 := ((funext fun j => hF644 345 j dkNin_nil).trans ((funext fun j => hF642 345 j dkNin_nil).trans ((funext fun j => hF573 345 j (dkNin_k rfl dkNin_nil)).trans ((by rw [eI533, dkU_n (by decide)] : I533 345 = _).trans ((funext fun j => hF423 345 j (dkNin_k rfl dkNin_nil)).trans ((by rw [eI422, dkU_n (by decide)] : I422 345 = _).trans ((funext fun j => hF356 345 j (dkNin_k rfl dkNin_nil)).trans ((funext fun j => hF343 345 j (dkNin_k rfl dkNin_nil)).trans ((funext fun j => hF255 345 j (dkNin_k rfl dkNin_nil)).trans ((by rw [eI254, dkU_n (by decide)] : I254 345 = _).trans ((by rw [eI253, dkU_n (by decide)] : I253 345 = _).trans z2_0)))))))))))
                              have w655 : I573 340 6 = I0 340 6 := ((hF644 340 6 rfl).trans ((hF642 340 6 rfl).trans ((hF573 340 6 rfl).trans ((by rw [eI533, dkU_n (by decide)] : I533 340 6 = _).trans ((hF423 340 6 rfl).trans ((by rw [eI422, dkU_n (by decide)] : I422 340 6 = _).trans ((hF356 340 6 rfl).trans ((hF343 340 6 rfl).trans ((hF255 340 6 rfl).trans ((by rw [eI254, dkU_sn (by decide)] : I254 340 6 = _).trans ((by rw [eI253, dkU_sn (by decide)] : I253 340 6 = _).trans zp2_1)))))))))))
                              have w656 : I573 347 0 = dkTv (I0 345) (I0 340 6) (dkTe (I0 345) (I0 340 6) (0)) := ((hF644 347 0 rfl).trans ((hF642 347 0 rfl).trans ((hF573 347 0 rfl).trans ((by rw [eI533, dkU_sn (by decide)] : I533 347 0 = _).trans ((hF423 347 0 rfl).trans (by rw [eI422, dkU_ss, xv356]))))))
                              have w657 : I573 340 9 = dkTe (I0 345) (I0 340 6) (dkTe (I0 345) (I0 340 6) (dkTe (I0 345) (I0 340 6) (dkTe (I0 345) (I0 340 6) (dkTe (I0 345) (I0 340 6) (dkTe (I0 345) (I0 340 6) (0)))))) := ((hF644 340 9 rfl).trans ((hF642 340 9 rfl).trans y581))
                              have q658 : (dkMb (I0 345) (I0 340 6) (dkTv (I0 345) (I0 340 6) (dkTe (I0 345) (I0 340 6) (0))) (dkTe (I0 345) (I0 340 6) (dkTe (I0 345) (I0 340 6) (dkTe (I0 345) (I0 340 6) (dkTe (I0 345) (I0 340 6) (dkTe (I0 345) (I0 340 6) (dkTe (I0 345) (I0 340 6) (0)))))))).1 ≠ 0 := by have h := x651_1; rw [w654, w655, w656, w657] at h; exact h
                              have y659 : I651 340 7 = (dkMb (I0 345) (I0 340 6) (dkTv (I0 345) (I0 340 6) (dkTe (I0 345) (I0 340 6) (0))) (dkTe (I0 345) (I0 340 6) (dkTe (I0 345) (I0 340 6) (dkTe (I0 345) (I0 340 6) (dkTe (I0 345) (I0 340 6) (dkTe (I0 345) (I0 340 6) (dkTe (I0 345) (I0 340 6) (0)))))))).1 := by have h := xh651_0; rw [w654, w655, w656, w657] at h; exact h
                              have y660 : I651 340 8 = (dkMb (I0 345) (I0 340 6) (dkTv (I0 345) (I0 340 6) (dkTe (I0 345) (I0 340 6) (0))) (dkTe (I0 345) (I0 340 6) (dkTe (I0 345) (I0 340 6) (dkTe (I0 345) (I0 340 6) (dkTe (I0 345) (I0 340 6) (dkTe (I0 345) (I0 340 6) (dkTe (I0 345) (I0 340 6) (0)))))))).2 := by have h := xh651_1; rw [w654, w655, w656, w657] at h; exact h
                              have y661 : I651 347 0 = dkTv (I0 345) (I0 340 6) (dkTe (I0 345) (I0 340 6) (0)) := by have h := xh651_2; rw [w656] at h; exact h
                              have y662 : I651 347 4 = 0 := by have h := xh651_3; rw [w653] at h; exact h
                              have w663 : I573 347 5 = 0 := ((hF644 347 5 rfl).trans ((hF642 347 5 rfl).trans ((hF573 347 5 rfl).trans ((by rw [eI533, dkU_sn (by decide)] : I533 347 5 = _).trans ((hF423 347 5 rfl).trans ((by rw [eI422, dkU_sn (by decide)] : I422 347 5 = _).trans ((hF356 347 5 rfl).trans ((hF343 347 5 rfl).trans ((hF255 347 5 rfl).trans ((by rw [eI254, dkU_n (by decide)] : I254 347 5 = _).trans ((by rw [eI253, dkU_n (by decide)] : I253 347 5 = _).trans hz5)))))))))))
                              have y664 : I651 347 5 = 0 := by have h := xh651_4; rw [w663] at h; exact h
                              refine lv_goto (tgt := 134) hx hb dX6_town_162 (by decide) ?_
                              refine lv_aload_n hx hb dX6_town_134 rfl (lv_at hl 0 rfl) ?_
                              refine dk_Vi (As := []) (rest := []) ⟨hx, hb, hml, hown, hts⟩ (fx_X6_isWell_7 l g z I651 (show dkN [(0, 90)] (I651 340 8) from dkN_sub f651_340_8 rfl) hO) (cwV 0 hts gX6_town_X6_isWell rfl rfl rfl (by decide +kernel) ⟨Nat.le_of_ble_eq_true rfl, Nat.le_of_ble_eq_true rfl⟩) (dk_at340 hW) rfl hK hT hW hS rfl hl.1 rfl (Nat.le_of_ble_eq_true rfl) dX6_town_135 ⟨Nat.zero_le _, Nat.zero_le _⟩ (fun v665 I665 H665 L665 hp665 hW hS => ?_)
                              obtain ⟨hF665, hO, hc665⟩ := hp665
                              have hF := dkF_call hF hF665 rfl
                              have hP := dkPP_F hP hF665 rfl
                              have eI665 : I651 = I665 := (dkF_nil hF665).symm
                              subst eI665
                              obtain ⟨dv665, f665_340_8, x665_0, xr665, -⟩ := hc665
                              have w666 : I651 340 8 = (dkMb (I0 345) (I0 340 6) (dkTv (I0 345) (I0 340 6) (dkTe (I0 345) (I0 340 6) (0))) (dkTe (I0 345) (I0 340 6) (dkTe (I0 345) (I0 340 6) (dkTe (I0 345) (I0 340 6) (dkTe (I0 345) (I0 340 6) (dkTe (I0 345) (I0 340 6) (dkTe (I0 345) (I0 340 6) (0)))))))).2 := y660
                              have q667 : (0 : Int) + 0 ≤ ((dkMb (I0 345) (I0 340 6) (dkTv (I0 345) (I0 340 6) (dkTe (I0 345) (I0 340 6) (0))) (dkTe (I0 345) (I0 340 6) (dkTe (I0 345) (I0 340 6) (dkTe (I0 345) (I0 340 6) (dkTe (I0 345) (I0 340 6) (dkTe (I0 345) (I0 340 6) (dkTe (I0 345) (I0 340 6) (0)))))))).2).toInt := by have h := x665_0; rw [w666] at h; exact h
                              have xv665 : v665 = 0 := by have h := xr665; exact h
                              refine lv_if_eq (tgt := 165) hx hb dX6_town_138 (by decide) (fun c668 => ?_) (fun c668 => ?_)
                              ·
                                refine lv_aload_n hx hb dX6_town_165 rfl (lv_at hl 0 rfl) ?_
                                refine dk_Vi (As := []) (rest := []) ⟨hx, hb, hml, hown, hts⟩ (fx_X6_isWell_7 l g z I651 (show dkN [(0, 90)] (I651 340 8) from dkN_sub f665_340_8 rfl) hO) (cwV 0 hts gX6_town_X6_isWell rfl rfl rfl (by decide +kernel) ⟨Nat.le_of_ble_eq_true rfl, Nat.le_of_ble_eq_true rfl⟩) (dk_at340 hW) rfl hK hT hW hS rfl hl.1 rfl (Nat.le_of_ble_eq_true rfl) dX6_town_166 ⟨Nat.zero_le _, Nat.zero_le _⟩ (fun v669 I669 H669 L669 hp669 hW hS => ?_)
                                obtain ⟨hF669, hO, hc669⟩ := hp669
                                have hF := dkF_call hF hF669 rfl
                                have hP := dkPP_F hP hF669 rfl
                                have eI669 : I651 = I669 := (dkF_nil hF669).symm
                                subst eI669
                                obtain ⟨dv669, f669_340_8, x669_0, xr669, -⟩ := hc669
                                have w670 : I651 340 8 = (dkMb (I0 345) (I0 340 6) (dkTv (I0 345) (I0 340 6) (dkTe (I0 345) (I0 340 6) (0))) (dkTe (I0 345) (I0 340 6) (dkTe (I0 345) (I0 340 6) (dkTe (I0 345) (I0 340 6) (dkTe (I0 345) (I0 340 6) (dkTe (I0 345) (I0 340 6) (dkTe (I0 345) (I0 340 6) (0)))))))).2 := ((hF665 340 8 rfl).trans y660)
                                have xv669 : v669 = 0 := by have h := xr669; exact h
                                refine lv_if_eq (tgt := 197) hx hb dX6_town_169 (by decide) (fun c671 => ?_) (fun c671 => ?_)
                                ·
                                  have i0 : (0 : Int32).toInt = 0 := rfl
                                  have i1 : (1 : Int32).toInt = 1 := rfl
                                  have i2 : (2 : Int32).toInt = 2 := rfl
                                  have i3 : (3 : Int32).toInt = 3 := rfl
                                  have i9 : (9 : Int32).toInt = 9 := rfl
                                  have i30 : (30 : Int32).toInt = 30 := rfl
                                  have i44 : (44 : Int32).toInt = 44 := rfl
                                  have i59 : (59 : Int32).toInt = 59 := rfl
                                  have i109 : (109 : Int32).toInt = 109 := rfl
                                  have i116 : (116 : Int32).toInt = 116 := rfl
                                  have hlw : dkLw (I0 345) (I0 340 6) 0 = (0, dkTe (I0 345) (I0 340 6) (dkTe (I0 345) (I0 340 6) (dkTe (I0 345) (I0 340 6) (dkTe (I0 345) (I0 340 6) (dkTe (I0 345) (I0 340 6) (0)))))) := ((dkTh_p (dkK_l (T := (I0 345)) (n := (I0 340 6)) (a := 0) (c := 116) q300 (by omega))).trans ((dkTh_p (dkK_0 (T := (I0 345)) (n := (I0 340 6)) (a := dkTe (I0 345) (I0 340 6) (0)) (lo := 3) (hi := 9) q408 (by omega) (by omega))).trans ((dkTh_p (dkK_c (T := (I0 345)) (n := (I0 340 6)) (a := dkTe (I0 345) (I0 340 6) (dkTe (I0 345) (I0 340 6) (0))) q518)).trans ((dkTh_p (dkK_0 (T := (I0 345)) (n := (I0 340 6)) (a := dkTe (I0 345) (I0 340 6) (dkTe (I0 345) (I0 340 6) (dkTe (I0 345) (I0 340 6) (0)))) (lo := 1) (hi := 30) q523 (by omega) (by omega))).trans (dkK_s (T := (I0 345)) (n := (I0 340 6)) (a := dkTe (I0 345) (I0 340 6) (dkTe (I0 345) (I0 340 6) (dkTe (I0 345) (I0 340 6) (dkTe (I0 345) (I0 340 6) (0))))) q570)))))
                                  have hhh : dkHh (I0 345) (I0 340 6) = (dkTv (I0 345) (I0 340 6) (dkTe (I0 345) (I0 340 6) (0))) := (by unfold dkHh; rw [show dkSg (I0 345) (I0 340 6) 116 0 = (0, dkTe (I0 345) (I0 340 6) (0)) from dkK_l (T := (I0 345)) (n := (I0 340 6)) (a := 0) (c := 116) q300 (by omega)]; exact (dkK_v (T := (I0 345)) (n := (I0 340 6)) (a := dkTe (I0 345) (I0 340 6) (0)) (by omega)).symm)
                                  have hps : dkPs (I0 345) (I0 340 6) (dkTv (I0 345) (I0 340 6) (dkTe (I0 345) (I0 340 6) (0))) (dkTe (I0 345) (I0 340 6) (dkTe (I0 345) (I0 340 6) (dkTe (I0 345) (I0 340 6) (dkTe (I0 345) (I0 340 6) (dkTe (I0 345) (I0 340 6) (0)))))) = dkPw (I0 345) (I0 340 6) (dkTv (I0 345) (I0 340 6) (dkTe (I0 345) (I0 340 6) (0))) 5 (dkTe (I0 345) (I0 340 6) (dkTe (I0 345) (I0 340 6) (dkTe (I0 345) (I0 340 6) (dkTe (I0 345) (I0 340 6) (dkTe (I0 345) (I0 340 6) (0)))))) := dkPs_w (dkK_l (T := (I0 345)) (n := (I0 340 6)) (a := dkTe (I0 345) (I0 340 6) (dkTe (I0 345) (I0 340 6) (dkTe (I0 345) (I0 340 6) (dkTe (I0 345) (I0 340 6) (dkTe (I0 345) (I0 340 6) (0)))))) (c := 109) q611 (by omega))
                                  have e6720 := dkX1_f (dkX1_0 (T := (I0 345)) (n := (I0 340 6)) (h := (dkTv (I0 345) (I0 340 6) (dkTe (I0 345) (I0 340 6) (0)))) (a := dkTe (I0 345) (I0 340 6) (dkTe (I0 345) (I0 340 6) (dkTe (I0 345) (I0 340 6) (dkTe (I0 345) (I0 340 6) (dkTe (I0 345) (I0 340 6) (0))))))) (by omega) (by omega) (by decide) q658
                                  have e672 : dkTw (I0 345) (I0 340 6) = ((dkMb (I0 345) (I0 340 6) (dkTv (I0 345) (I0 340 6) (dkTe (I0 345) (I0 340 6) (0))) (dkTe (I0 345) (I0 340 6) (dkTe (I0 345) (I0 340 6) (dkTe (I0 345) (I0 340 6) (dkTe (I0 345) (I0 340 6) (dkTe (I0 345) (I0 340 6) (dkTe (I0 345) (I0 340 6) (0)))))))).1, (dkMb (I0 345) (I0 340 6) (dkTv (I0 345) (I0 340 6) (dkTe (I0 345) (I0 340 6) (0))) (dkTe (I0 345) (I0 340 6) (dkTe (I0 345) (I0 340 6) (dkTe (I0 345) (I0 340 6) (dkTe (I0 345) (I0 340 6) (dkTe (I0 345) (I0 340 6) (dkTe (I0 345) (I0 340 6) (0)))))))).2) := dkTw_p hlw hhh (hps.trans e6720) q658
                                  exact C197 I651 _ _ ls x2_1 hW hS hF hO hP (dkN_sub d252 rfl) (show dkN [(1, 3)] (I651 340 7) from dkN_sub (by rw [hF669 340 7 rfl]; exact (by rw [hF665 340 7 rfl]; exact f651_340_7)) rfl) (show dkN [(0, 90)] (I651 340 8) from dkN_sub f669_340_8 rfl) (show dkN [(0, 0), (3, 9)] (I651 347 0) from dkN_sub (by rw [hF669 347 0 rfl]; exact (by rw [hF665 347 0 rfl]; exact f651_347_0)) rfl) ((funext fun j => hF669 345 j dkNin_nil).trans ((funext fun j => hF665 345 j dkNin_nil).trans ((funext fun j => hF651 345 j (dkNin_k rfl (dkNin_k rfl (dkNin_k rfl dkNin_nil)))).trans ((funext fun j => hF644 345 j dkNin_nil).trans ((funext fun j => hF642 345 j dkNin_nil).trans ((funext fun j => hF573 345 j (dkNin_k rfl dkNin_nil)).trans ((by rw [eI533, dkU_n (by decide)] : I533 345 = _).trans ((funext fun j => hF423 345 j (dkNin_k rfl dkNin_nil)).trans ((by rw [eI422, dkU_n (by decide)] : I422 345 = _).trans ((funext fun j => hF356 345 j (dkNin_k rfl dkNin_nil)).trans ((funext fun j => hF343 345 j (dkNin_k rfl dkNin_nil)).trans ((funext fun j => hF255 345 j (dkNin_k rfl dkNin_nil)).trans ((by rw [eI254, dkU_n (by decide)] : I254 345 = _).trans ((by rw [eI253, dkU_n (by decide)] : I253 345 = _).trans z2_0)))))))))))))) ((hF669 340 17 rfl).trans ((hF665 340 17 rfl).trans ((hF651 340 17 rfl).trans ((hF644 340 17 rfl).trans ((hF642 340 17 rfl).trans ((hF573 340 17 rfl).trans ((by rw [eI533, dkU_n (by decide)] : I533 340 17 = _).trans ((hF423 340 17 rfl).trans ((by rw [eI422, dkU_n (by decide)] : I422 340 17 = _).trans ((hF356 340 17 rfl).trans ((hF343 340 17 rfl).trans ((hF255 340 17 rfl).trans ((by rw [eI254, dkU_sn (by decide)] : I254 340 17 = _).trans ((by rw [eI253, dkU_sn (by decide)] : I253 340 17 = _).trans zp2_0)))))))))))))) ((hF669 340 6 rfl).trans ((hF665 340 6 rfl).trans ((hF651 340 6 rfl).trans ((hF644 340 6 rfl).trans ((hF642 340 6 rfl).trans ((hF573 340 6 rfl).trans ((by rw [eI533, dkU_n (by decide)] : I533 340 6 = _).trans ((hF423 340 6 rfl).trans ((by rw [eI422, dkU_n (by decide)] : I422 340 6 = _).trans ((hF356 340 6 rfl).trans ((hF343 340 6 rfl).trans ((hF255 340 6 rfl).trans ((by rw [eI254, dkU_sn (by decide)] : I254 340 6 = _).trans ((by rw [eI253, dkU_sn (by decide)] : I253 340 6 = _).trans zp2_1)))))))))))))) ((hF669 346 0 rfl).trans ((hF665 346 0 rfl).trans ((hF651 346 0 rfl).trans ((hF644 346 0 rfl).trans ((hF642 346 0 rfl).trans ((hF573 346 0 rfl).trans ((by rw [eI533, dkU_n (by decide)] : I533 346 0 = _).trans ((hF423 346 0 rfl).trans ((by rw [eI422, dkU_n (by decide)] : I422 346 0 = _).trans ((hF356 346 0 rfl).trans ((hF343 346 0 rfl).trans ((hF255 346 0 rfl).trans ((by rw [eI254, dkU_n (by decide)] : I254 346 0 = _).trans ((by rw [eI253, dkU_n (by decide)] : I253 346 0 = _).trans zp2_3)))))))))))))) ((hF669 346 4 rfl).trans ((hF665 346 4 rfl).trans ((hF651 346 4 rfl).trans ((hF644 346 4 rfl).trans ((hF642 346 4 rfl).trans ((hF573 346 4 rfl).trans ((by rw [eI533, dkU_n (by decide)] : I533 346 4 = _).trans ((hF423 346 4 rfl).trans ((by rw [eI422, dkU_n (by decide)] : I422 346 4 = _).trans ((hF356 346 4 rfl).trans ((hF343 346 4 rfl).trans ((hF255 346 4 rfl).trans ((by rw [eI254, dkU_n (by decide)] : I254 346 4 = _).trans ((by rw [eI253, dkU_n (by decide)] : I253 346 4 = _).trans zp2_4)))))))))))))) ((hF669 346 5 rfl).trans ((hF665 346 5 rfl).trans ((hF651 346 5 rfl).trans ((hF644 346 5 rfl).trans ((hF642 346 5 rfl).trans ((hF573 346 5 rfl).trans ((by rw [eI533, dkU_n (by decide)] : I533 346 5 = _).trans ((hF423 346 5 rfl).trans ((by rw [eI422, dkU_n (by decide)] : I422 346 5 = _).trans ((hF356 346 5 rfl).trans ((hF343 346 5 rfl).trans ((hF255 346 5 rfl).trans ((by rw [eI254, dkU_n (by decide)] : I254 346 5 = _).trans ((by rw [eI253, dkU_n (by decide)] : I253 346 5 = _).trans zp2_5)))))))))))))) ⟨(fun q => q658 ((dkP_1 e672).symm.trans q)), (((show I651 340 7 = (dkMb (I0 345) (I0 340 6) (dkTv (I0 345) (I0 340 6) (dkTe (I0 345) (I0 340 6) (0))) (dkTe (I0 345) (I0 340 6) (dkTe (I0 345) (I0 340 6) (dkTe (I0 345) (I0 340 6) (dkTe (I0 345) (I0 340 6) (dkTe (I0 345) (I0 340 6) (dkTe (I0 345) (I0 340 6) (0)))))))).1 from ((hF669 340 7 rfl).trans ((hF665 340 7 rfl).trans y659)))).trans (dkP_1 e672).symm), (((show I651 340 8 = (dkMb (I0 345) (I0 340 6) (dkTv (I0 345) (I0 340 6) (dkTe (I0 345) (I0 340 6) (0))) (dkTe (I0 345) (I0 340 6) (dkTe (I0 345) (I0 340 6) (dkTe (I0 345) (I0 340 6) (dkTe (I0 345) (I0 340 6) (dkTe (I0 345) (I0 340 6) (dkTe (I0 345) (I0 340 6) (0)))))))).2 from ((hF669 340 8 rfl).trans ((hF665 340 8 rfl).trans y660)))).trans (dkP_2 e672).symm)⟩ (lv_sub hl [0, 1] rfl)
                                ·
                                  exact absurd ((xv669).trans (rfl).symm) c671
                              ·
                                exact absurd ((xv665).trans (rfl).symm) c668
                            ·
                              obtain ⟨f651_340_11, f651_340_8, f651_347_0, f651_347_4, x651_0, x651_1, xh651_0, xh651_1, xh651_2, xh651_3, xh651_4, xh651_5, xh651_6, xh651_7, xh651_8, ci651_0, -⟩ := hc651
                              have w673 : I573 347 4 = 0 := ((hF644 347 4 rfl).trans ((hF642 347 4 rfl).trans ((hF573 347 4 rfl).trans ((by rw [eI533, dkU_sn (by decide)] : I533 347 4 = _).trans ((hF423 347 4 rfl).trans ((by rw [eI422, dkU_sn (by decide)] : I422 347 4 = _).trans ((hF356 347 4 rfl).trans ((hF343 347 4 rfl).trans ((hF255 347 4 rfl).trans ((by rw [eI254, dkU_n (by decide)] : I254 347 4 = _).trans ((by rw [eI253, dkU_n (by decide)] : I253 347 4 = _).trans hz4)))))))))))
                              have w674 : I573 345 = I0 345 := ((funext fun j => hF644 345 j dkNin_nil).trans ((funext fun j => hF642 345 j dkNin_nil).trans ((funext fun j => hF573 345 j (dkNin_k rfl dkNin_nil)).trans ((by rw [eI533, dkU_n (by decide)] : I533 345 = _).trans ((funext fun j => hF423 345 j (dkNin_k rfl dkNin_nil)).trans ((by rw [eI422, dkU_n (by decide)] : I422 345 = _).trans ((funext fun j => hF356 345 j (dkNin_k rfl dkNin_nil)).trans ((funext fun j => hF343 345 j (dkNin_k rfl dkNin_nil)).trans ((funext fun j => hF255 345 j (dkNin_k rfl dkNin_nil)).trans ((by rw [eI254, dkU_n (by decide)] : I254 345 = _).trans ((by rw [eI253, dkU_n (by decide)] : I253 345 = _).trans z2_0)))))))))))
                              have w675 : I573 340 6 = I0 340 6 := ((hF644 340 6 rfl).trans ((hF642 340 6 rfl).trans ((hF573 340 6 rfl).trans ((by rw [eI533, dkU_n (by decide)] : I533 340 6 = _).trans ((hF423 340 6 rfl).trans ((by rw [eI422, dkU_n (by decide)] : I422 340 6 = _).trans ((hF356 340 6 rfl).trans ((hF343 340 6 rfl).trans ((hF255 340 6 rfl).trans ((by rw [eI254, dkU_sn (by decide)] : I254 340 6 = _).trans ((by rw [eI253, dkU_sn (by decide)] : I253 340 6 = _).trans zp2_1)))))))))))
                              have w676 : I573 347 0 = dkTv (I0 345) (I0 340 6) (dkTe (I0 345) (I0 340 6) (0)) := ((hF644 347 0 rfl).trans ((hF642 347 0 rfl).trans ((hF573 347 0 rfl).trans ((by rw [eI533, dkU_sn (by decide)] : I533 347 0 = _).trans ((hF423 347 0 rfl).trans (by rw [eI422, dkU_ss, xv356]))))))
                              have w677 : I573 340 9 = dkTe (I0 345) (I0 340 6) (dkTe (I0 345) (I0 340 6) (dkTe (I0 345) (I0 340 6) (dkTe (I0 345) (I0 340 6) (dkTe (I0 345) (I0 340 6) (dkTe (I0 345) (I0 340 6) (0)))))) := ((hF644 340 9 rfl).trans ((hF642 340 9 rfl).trans y581))
                              have q678 : (dkMb (I0 345) (I0 340 6) (dkTv (I0 345) (I0 340 6) (dkTe (I0 345) (I0 340 6) (0))) (dkTe (I0 345) (I0 340 6) (dkTe (I0 345) (I0 340 6) (dkTe (I0 345) (I0 340 6) (dkTe (I0 345) (I0 340 6) (dkTe (I0 345) (I0 340 6) (dkTe (I0 345) (I0 340 6) (0)))))))).1 = 0 := by have h := x651_1; rw [w674, w675, w676, w677] at h; exact h
                              have w679 : I573 340 7 = I0 340 7 := ((hF644 340 7 rfl).trans ((hF642 340 7 rfl).trans y576))
                              have y680 : I651 340 7 = I0 340 7 := by have h := xh651_0; rw [w679] at h; exact h
                              have w681 : I573 340 8 = (-1) := ((hF644 340 8 rfl).trans ((hF642 340 8 rfl).trans y577))
                              have y682 : I651 340 8 = (-1) := by have h := xh651_1; rw [w681] at h; exact h
                              have y683 : I651 340 9 = dkTe (I0 345) (I0 340 6) (dkMb (I0 345) (I0 340 6) (dkTv (I0 345) (I0 340 6) (dkTe (I0 345) (I0 340 6) (0))) (dkTe (I0 345) (I0 340 6) (dkTe (I0 345) (I0 340 6) (dkTe (I0 345) (I0 340 6) (dkTe (I0 345) (I0 340 6) (dkTe (I0 345) (I0 340 6) (dkTe (I0 345) (I0 340 6) (0)))))))).2 := by have h := xh651_2; rw [w674, w675, w676, w677] at h; exact h
                              have y684 : I651 340 10 = (dkMb (I0 345) (I0 340 6) (dkTv (I0 345) (I0 340 6) (dkTe (I0 345) (I0 340 6) (0))) (dkTe (I0 345) (I0 340 6) (dkTe (I0 345) (I0 340 6) (dkTe (I0 345) (I0 340 6) (dkTe (I0 345) (I0 340 6) (dkTe (I0 345) (I0 340 6) (dkTe (I0 345) (I0 340 6) (0)))))))).2 := by have h := xh651_3; rw [w674, w675, w676, w677] at h; exact h
                              have y685 : I651 340 11 = dkTk (I0 345) (I0 340 6) (dkMb (I0 345) (I0 340 6) (dkTv (I0 345) (I0 340 6) (dkTe (I0 345) (I0 340 6) (0))) (dkTe (I0 345) (I0 340 6) (dkTe (I0 345) (I0 340 6) (dkTe (I0 345) (I0 340 6) (dkTe (I0 345) (I0 340 6) (dkTe (I0 345) (I0 340 6) (dkTe (I0 345) (I0 340 6) (0)))))))).2 := by have h := xh651_4; rw [w674, w675, w676, w677] at h; exact h
                              have y686 : I651 340 12 = dkTv (I0 345) (I0 340 6) (dkMb (I0 345) (I0 340 6) (dkTv (I0 345) (I0 340 6) (dkTe (I0 345) (I0 340 6) (0))) (dkTe (I0 345) (I0 340 6) (dkTe (I0 345) (I0 340 6) (dkTe (I0 345) (I0 340 6) (dkTe (I0 345) (I0 340 6) (dkTe (I0 345) (I0 340 6) (dkTe (I0 345) (I0 340 6) (0)))))))).2 := by have h := xh651_5; rw [w674, w675, w676, w677] at h; exact h
                              have y687 : I651 347 0 = dkTv (I0 345) (I0 340 6) (dkTe (I0 345) (I0 340 6) (0)) := by have h := xh651_6; rw [w676] at h; exact h
                              have w688 : I573 347 5 = 0 := ((hF644 347 5 rfl).trans ((hF642 347 5 rfl).trans ((hF573 347 5 rfl).trans ((by rw [eI533, dkU_sn (by decide)] : I533 347 5 = _).trans ((hF423 347 5 rfl).trans ((by rw [eI422, dkU_sn (by decide)] : I422 347 5 = _).trans ((hF356 347 5 rfl).trans ((hF343 347 5 rfl).trans ((hF255 347 5 rfl).trans ((by rw [eI254, dkU_n (by decide)] : I254 347 5 = _).trans ((by rw [eI253, dkU_n (by decide)] : I253 347 5 = _).trans hz5)))))))))))
                              have y689 : I651 347 5 = 0 := by have h := xh651_7; rw [w688] at h; exact h
                              have k690 : dkN [(1, 1)] (I651 347 4) := by rw [xh651_8]; exact dkN_add (by rw [hF644 347 4 rfl]; exact (by rw [hF642 347 4 rfl]; exact (by rw [hF573 347 4 rfl]; exact (by rw [eI533, dkU_sn (by decide)]; exact (by rw [hF423 347 4 rfl]; exact (by rw [eI422, dkU_sn (by decide)]; exact (by rw [hF356 347 4 rfl]; exact (by rw [hF343 347 4 rfl]; exact (by rw [hF255 347 4 rfl]; exact (by rw [eI254, dkU_n (by decide)]; exact (by rw [eI253, dkU_n (by decide)]; exact (dkN_lit (0) (by rw [hz4]; rfl))))))))))))) (dkN_lit (x := 1) (1) rfl) rfl
                              have y691 : I651 347 4 = 0 + 1 := by have h := xh651_8; rw [w673] at h; exact h
                              refine lv_goto (tgt := 134) hx hb dX6_town_162 (by decide) ?_
                              exact C134 _ I651 _ _ ls x2_1 (Nat.lt_succ_self _) hW hS hF hO hP (dkN_sub d252 rfl) (show dkN [(0, 5)] (I651 340 11) from dkN_sub f651_340_11 rfl) (show dkN [(-1, -1)] (I651 340 8) from dkN_sub f651_340_8 rfl) (show dkN [(3, 9)] (I651 347 0) from dkN_sub f651_347_0 rfl) (show dkN [(1, 30)] (I651 347 1) from dkN_sub (by rw [hF651 347 1 rfl]; exact (by rw [hF644 347 1 rfl]; exact (by rw [hF642 347 1 rfl]; exact (by rw [hF573 347 1 rfl]; exact (by rw [eI533, dkU_ss]; exact dv423))))) rfl) (show dkN [(1, 5)] (I651 347 4) from dkN_sub k690 rfl) (show dkN [(0, 0)] (I651 347 5) from dkN_sub (by rw [hF651 347 5 rfl]; exact (by rw [hF644 347 5 rfl]; exact (by rw [hF642 347 5 rfl]; exact (by rw [hF573 347 5 rfl]; exact (by rw [eI533, dkU_sn (by decide)]; exact (by rw [hF423 347 5 rfl]; exact (by rw [eI422, dkU_sn (by decide)]; exact (by rw [hF356 347 5 rfl]; exact (by rw [hF343 347 5 rfl]; exact (by rw [hF255 347 5 rfl]; exact (by rw [eI254, dkU_n (by decide)]; exact (by rw [eI253, dkU_n (by decide)]; exact (dkN_lit (0) (by rw [hz5]; rfl)))))))))))))) rfl) ((funext fun j => hF651 345 j (dkNin_k rfl (dkNin_k rfl (dkNin_k rfl dkNin_nil)))).trans ((funext fun j => hF644 345 j dkNin_nil).trans ((funext fun j => hF642 345 j dkNin_nil).trans ((funext fun j => hF573 345 j (dkNin_k rfl dkNin_nil)).trans ((by rw [eI533, dkU_n (by decide)] : I533 345 = _).trans ((funext fun j => hF423 345 j (dkNin_k rfl dkNin_nil)).trans ((by rw [eI422, dkU_n (by decide)] : I422 345 = _).trans ((funext fun j => hF356 345 j (dkNin_k rfl dkNin_nil)).trans ((funext fun j => hF343 345 j (dkNin_k rfl dkNin_nil)).trans ((funext fun j => hF255 345 j (dkNin_k rfl dkNin_nil)).trans ((by rw [eI254, dkU_n (by decide)] : I254 345 = _).trans ((by rw [eI253, dkU_n (by decide)] : I253 345 = _).trans z2_0)))))))))))) ((hF651 340 17 rfl).trans ((hF644 340 17 rfl).trans ((hF642 340 17 rfl).trans ((hF573 340 17 rfl).trans ((by rw [eI533, dkU_n (by decide)] : I533 340 17 = _).trans ((hF423 340 17 rfl).trans ((by rw [eI422, dkU_n (by decide)] : I422 340 17 = _).trans ((hF356 340 17 rfl).trans ((hF343 340 17 rfl).trans ((hF255 340 17 rfl).trans ((by rw [eI254, dkU_sn (by decide)] : I254 340 17 = _).trans ((by rw [eI253, dkU_sn (by decide)] : I253 340 17 = _).trans zp2_0)))))))))))) ((hF651 340 6 rfl).trans ((hF644 340 6 rfl).trans ((hF642 340 6 rfl).trans ((hF573 340 6 rfl).trans ((by rw [eI533, dkU_n (by decide)] : I533 340 6 = _).trans ((hF423 340 6 rfl).trans ((by rw [eI422, dkU_n (by decide)] : I422 340 6 = _).trans ((hF356 340 6 rfl).trans ((hF343 340 6 rfl).trans ((hF255 340 6 rfl).trans ((by rw [eI254, dkU_sn (by decide)] : I254 340 6 = _).trans ((by rw [eI253, dkU_sn (by decide)] : I253 340 6 = _).trans zp2_1)))))))))))) y680 ((hF651 346 0 rfl).trans ((hF644 346 0 rfl).trans ((hF642 346 0 rfl).trans ((hF573 346 0 rfl).trans ((by rw [eI533, dkU_n (by decide)] : I533 346 0 = _).trans ((hF423 346 0 rfl).trans ((by rw [eI422, dkU_n (by decide)] : I422 346 0 = _).trans ((hF356 346 0 rfl).trans ((hF343 346 0 rfl).trans ((hF255 346 0 rfl).trans ((by rw [eI254, dkU_n (by decide)] : I254 346 0 = _).trans ((by rw [eI253, dkU_n (by decide)] : I253 346 0 = _).trans zp2_3)))))))))))) ((hF651 346 4 rfl).trans ((hF644 346 4 rfl).trans ((hF642 346 4 rfl).trans ((hF573 346 4 rfl).trans ((by rw [eI533, dkU_n (by decide)] : I533 346 4 = _).trans ((hF423 346 4 rfl).trans ((by rw [eI422, dkU_n (by decide)] : I422 346 4 = _).trans ((hF356 346 4 rfl).trans ((hF343 346 4 rfl).trans ((hF255 346 4 rfl).trans ((by rw [eI254, dkU_n (by decide)] : I254 346 4 = _).trans ((by rw [eI253, dkU_n (by decide)] : I253 346 4 = _).trans zp2_4)))))))))))) ((hF651 346 5 rfl).trans ((hF644 346 5 rfl).trans ((hF642 346 5 rfl).trans ((hF573 346 5 rfl).trans ((by rw [eI533, dkU_n (by decide)] : I533 346 5 = _).trans ((hF423 346 5 rfl).trans ((by rw [eI422, dkU_n (by decide)] : I422 346 5 = _).trans ((hF356 346 5 rfl).trans ((hF343 346 5 rfl).trans ((hF255 346 5 rfl).trans ((by rw [eI254, dkU_n (by decide)] : I254 346 5 = _).trans ((by rw [eI253, dkU_n (by decide)] : I253 346 5 = _).trans zp2_5)))))))))))) y687 q300 q340 q408 q410 q411 q518 q523 q524 q525 q570 q611 q639 q678 ⟨⟨(((show I651 340 11 = dkTk (I0 345) (I0 340 6) (dkMb (I0 345) (I0 340 6) (dkTv (I0 345) (I0 340 6) (dkTe (I0 345) (I0 340 6) (0))) (dkTe (I0 345) (I0 340 6) (dkTe (I0 345) (I0 340 6) (dkTe (I0 345) (I0 340 6) (dkTe (I0 345) (I0 340 6) (dkTe (I0 345) (I0 340 6) (dkTe (I0 345) (I0 340 6) (0)))))))).2 from y685)).trans (congrArg (dkTk (I0 345) (I0 340 6)) ((show I651 340 10 = (dkMb (I0 345) (I0 340 6) (dkTv (I0 345) (I0 340 6) (dkTe (I0 345) (I0 340 6) (0))) (dkTe (I0 345) (I0 340 6) (dkTe (I0 345) (I0 340 6) (dkTe (I0 345) (I0 340 6) (dkTe (I0 345) (I0 340 6) (dkTe (I0 345) (I0 340 6) (dkTe (I0 345) (I0 340 6) (0)))))))).2 from y684)).symm)), (((show I651 340 12 = dkTv (I0 345) (I0 340 6) (dkMb (I0 345) (I0 340 6) (dkTv (I0 345) (I0 340 6) (dkTe (I0 345) (I0 340 6) (0))) (dkTe (I0 345) (I0 340 6) (dkTe (I0 345) (I0 340 6) (dkTe (I0 345) (I0 340 6) (dkTe (I0 345) (I0 340 6) (dkTe (I0 345) (I0 340 6) (dkTe (I0 345) (I0 340 6) (0)))))))).2 from y686)).trans (congrArg (dkTv (I0 345) (I0 340 6)) ((show I651 340 10 = (dkMb (I0 345) (I0 340 6) (dkTv (I0 345) (I0 340 6) (dkTe (I0 345) (I0 340 6) (0))) (dkTe (I0 345) (I0 340 6) (dkTe (I0 345) (I0 340 6) (dkTe (I0 345) (I0 340 6) (dkTe (I0 345) (I0 340 6) (dkTe (I0 345) (I0 340 6) (dkTe (I0 345) (I0 340 6) (0)))))))).2 from y684)).symm)), (((show I651 340 9 = dkTe (I0 345) (I0 340 6) (dkMb (I0 345) (I0 340 6) (dkTv (I0 345) (I0 340 6) (dkTe (I0 345) (I0 340 6) (0))) (dkTe (I0 345) (I0 340 6) (dkTe (I0 345) (I0 340 6) (dkTe (I0 345) (I0 340 6) (dkTe (I0 345) (I0 340 6) (dkTe (I0 345) (I0 340 6) (dkTe (I0 345) (I0 340 6) (0)))))))).2 from y683)).trans (congrArg (dkTe (I0 345) (I0 340 6)) ((show I651 340 10 = (dkMb (I0 345) (I0 340 6) (dkTv (I0 345) (I0 340 6) (dkTe (I0 345) (I0 340 6) (0))) (dkTe (I0 345) (I0 340 6) (dkTe (I0 345) (I0 340 6) (dkTe (I0 345) (I0 340 6) (dkTe (I0 345) (I0 340 6) (dkTe (I0 345) (I0 340 6) (dkTe (I0 345) (I0 340 6) (0)))))))).2 from y684)).symm))⟩, (by rw [show I651 340 10 = (dkMb (I0 345) (I0 340 6) (dkTv (I0 345) (I0 340 6) (dkTe (I0 345) (I0 340 6) (0))) (dkTe (I0 345) (I0 340 6) (dkTe (I0 345) (I0 340 6) (dkTe (I0 345) (I0 340 6) (dkTe (I0 345) (I0 340 6) (dkTe (I0 345) (I0 340 6) (dkTe (I0 345) (I0 340 6) (0)))))))).2 from y684, show I651 347 4 = 0 + 1 from y691]; exact dkX1_s dkX1_0 (by omega) (by omega) (by decide) (by decide) q678), (show I651 347 5 = 0 from y689)⟩ (lv_sub hl [0, 1] rfl)
              ·
                obtain ⟨dv423, f423_340_11, f423_340_7, f423_340_8, x423_0, x423_1, x423_2, xr423, xh423_0, xh423_1, xh423_2, xh423_3, xh423_4, xh423_5, -⟩ := hc423
                have w692 : I422 340 11 = dkTk (I0 345) (I0 340 6) (dkTe (I0 345) (I0 340 6) (dkTe (I0 345) (I0 340 6) (0))) := ((by rw [eI422, dkU_n (by decide)] : I422 340 11 = _).trans y420)
                have q693 : (dkTk (I0 345) (I0 340 6) (dkTe (I0 345) (I0 340 6) (dkTe (I0 345) (I0 340 6) (0)))).toInt = (3 : Int) := by have h := x423_0; rw [w692] at h; exact h
                have w694 : I422 340 8 = (-1) := ((by rw [eI422, dkU_n (by decide)] : I422 340 8 = _).trans y414)
                have w695 : I422 345 = I0 345 := ((by rw [eI422, dkU_n (by decide)] : I422 345 = _).trans ((funext fun j => hF356 345 j (dkNin_k rfl dkNin_nil)).trans ((funext fun j => hF343 345 j (dkNin_k rfl dkNin_nil)).trans ((funext fun j => hF255 345 j (dkNin_k rfl dkNin_nil)).trans ((by rw [eI254, dkU_n (by decide)] : I254 345 = _).trans ((by rw [eI253, dkU_n (by decide)] : I253 345 = _).trans z2_0))))))
                have w696 : I422 340 6 = I0 340 6 := ((by rw [eI422, dkU_n (by decide)] : I422 340 6 = _).trans ((hF356 340 6 rfl).trans ((hF343 340 6 rfl).trans ((hF255 340 6 rfl).trans ((by rw [eI254, dkU_sn (by decide)] : I254 340 6 = _).trans ((by rw [eI253, dkU_sn (by decide)] : I253 340 6 = _).trans zp2_1))))))
                have w697 : I422 340 9 = dkTe (I0 345) (I0 340 6) (dkTe (I0 345) (I0 340 6) (dkTe (I0 345) (I0 340 6) (0))) := ((by rw [eI422, dkU_n (by decide)] : I422 340 9 = _).trans y418)
                have q698 : (dkTk (I0 345) (I0 340 6) (dkTe (I0 345) (I0 340 6) (dkTe (I0 345) (I0 340 6) (dkTe (I0 345) (I0 340 6) (0))))).toInt ≠ (2 : Int) := by have h := x423_2; rw [w695, w696, w697] at h; exact h
                have y699 : I423 340 7 = 1 := by have h := xh423_0; exact h
                have y700 : I423 340 8 = dkTe (I0 345) (I0 340 6) (dkTe (I0 345) (I0 340 6) (dkTe (I0 345) (I0 340 6) (0))) := by have h := xh423_1; rw [w697] at h; exact h
                have y701 : I423 340 9 = dkTe (I0 345) (I0 340 6) (dkTe (I0 345) (I0 340 6) (dkTe (I0 345) (I0 340 6) (dkTe (I0 345) (I0 340 6) (0)))) := by have h := xh423_2; rw [w695, w696, w697] at h; exact h
                have y702 : I423 340 10 = dkTe (I0 345) (I0 340 6) (dkTe (I0 345) (I0 340 6) (dkTe (I0 345) (I0 340 6) (0))) := by have h := xh423_3; rw [w697] at h; exact h
                have y703 : I423 340 11 = dkTk (I0 345) (I0 340 6) (dkTe (I0 345) (I0 340 6) (dkTe (I0 345) (I0 340 6) (dkTe (I0 345) (I0 340 6) (0)))) := by have h := xh423_4; rw [w695, w696, w697] at h; exact h
                have y704 : I423 340 12 = dkTv (I0 345) (I0 340 6) (dkTe (I0 345) (I0 340 6) (dkTe (I0 345) (I0 340 6) (dkTe (I0 345) (I0 340 6) (0)))) := by have h := xh423_5; rw [w695, w696, w697] at h; exact h
                have xv423 : v423 = 0 := by have h := xr423; exact h
                refine dk_ist (k := 347) hx hb hK hW (fun _ => rfl) (by decide) hS (dkN_in (n := 54) (dkN_lit (x := 1) (1) rfl) rfl) dX6_town_88 (fun I705 H705 L705 eI705 hW hS => ?_)
                have eI705 : I705 = dkU I423 347 1 v423 := eI705
                have hO := dkO_set hO eI705 (dkN_sub dv423 rfl)
                have hF := dkF_set hF eI705 rfl
                have hP := dkPP_set hP eI705 rfl
                refine lv_aload_n hx hb dX6_town_89 rfl (lv_at hl 0 rfl) ?_
                refine lv_aload_n hx hb dX6_town_90 rfl (lv_at hl 0 rfl) ?_
                refine dk_get (k := 340) hx hb hts iX6_town_6 hown hK (dk_at340 hW) rfl 11 (by decide) (hts (.fieldLink RX6 98 "DogKingsModel" "token" "I") (List.mem_of_getElem? (i := 4) rfl)) rfl dX6_town_91 ?_
                refine lv_topi (fun v706 ev706 => ?_)
                have dv706 : dkN [(-2147483648, 1), (3, 2147483647)] v706 := by rw [ev706]; exact (by rw [eI705, dkU_n (by decide)]; exact f423_340_11)
                have xv706 : v706 = dkTk (I0 345) (I0 340 6) (dkTe (I0 345) (I0 340 6) (dkTe (I0 345) (I0 340 6) (dkTe (I0 345) (I0 340 6) (0)))) := ev706.trans ((by rw [eI705, dkU_n (by decide)] : I705 340 11 = _).trans y703)
                refine lv_iconst (v := 4) hx hb dX6_town_94 (by decide) ?_
                refine lv_icmp_ne (tgt := 102) hx hb dX6_town_95 (by decide) (fun c707 => ?_) (fun c707 => ?_)
                ·
                  have q708 : (dkTk (I0 345) (I0 340 6) (dkTe (I0 345) (I0 340 6) (dkTe (I0 345) (I0 340 6) (dkTe (I0 345) (I0 340 6) (0))))).toInt ≠ (4 : Int) := by first | (rw [← xv706]; exact (dk_ne c707)) | (subst xv706; exact (dk_ne c707))
                  have d709 : dkN [(-2147483648, 1), (3, 3), (5, 2147483647)] v706 := dkN_ne1 (4) dv706 (dkN_lit (x := 4) (4) rfl) (dk_ne c707) rfl
                  have f710 : dkN [(-2147483648, 1), (3, 3), (5, 2147483647)] (I705 340 11) := by rw [← ev706]; exact d709
                  refine lv_iconst (v := 0) hx hb dX6_town_102 (by decide) ?_
                  refine lv_iconst (v := 1) hx hb dX6_town_103 (by decide) ?_
                  refine dk_Vi (As := [.int 0, .int 1]) (rest := []) ⟨hx, hb, hml, hown, hts⟩ (h_X6_takes_0 l g z I705 0 1 (show dkN [(0, 90)] (I705 340 8) from dkN_sub (by rw [eI705, dkU_n (by decide)]; exact f423_340_8) rfl) hO) (cwV 2 hts gX6_town_X6_takes rfl rfl rfl (by decide +kernel) ⟨Nat.le_of_ble_eq_true rfl, Nat.le_of_ble_eq_true rfl⟩) (dk_at340 hW) rfl hK hT hW hS rfl hl.1 rfl (Nat.le_of_ble_eq_true rfl) dX6_town_104 ⟨Nat.zero_le _, Nat.zero_le _⟩ (fun v711 I711 H711 L711 hp711 hW hS => ?_)
                  obtain ⟨hF711, hO, hc711⟩ := hp711
                  have hF := dkF_call hF hF711 rfl
                  have hP := dkPP_F hP hF711 rfl
                  have eI711 : I705 = I711 := (dkF_nil hF711).symm
                  subst eI711
                  obtain ⟨dv711, xr711, -⟩ := hc711
                  have xv711 : v711 = 0 := by have h := xr711; exact h
                  refine lv_pop hx hb dX6_town_107 rfl ?_
                  refine lv_aload_n hx hb dX6_town_108 rfl (lv_at hl 0 rfl) ?_
                  refine lv_aload_n hx hb dX6_town_109 rfl (lv_at hl 0 rfl) ?_
                  refine dk_get (k := 340) hx hb hts iX6_town_6 hown hK (dk_at340 hW) rfl 11 (by decide) (hts (.fieldLink RX6 98 "DogKingsModel" "token" "I") (List.mem_of_getElem? (i := 4) rfl)) rfl dX6_town_110 ?_
                  refine lv_topi (fun v712 ev712 => ?_)
                  have dv712 : dkN [(-2147483648, 1), (3, 3), (5, 2147483647)] v712 := by rw [ev712]; exact (by rw [hF711 340 11 rfl]; exact f710)
                  have xv712 : v712 = dkTk (I0 345) (I0 340 6) (dkTe (I0 345) (I0 340 6) (dkTe (I0 345) (I0 340 6) (dkTe (I0 345) (I0 340 6) (0)))) := ev712.trans ((hF711 340 11 rfl).trans ((by rw [eI705, dkU_n (by decide)] : I705 340 11 = _).trans y703))
                  refine lv_iconst (v := 1) hx hb dX6_town_113 (by decide) ?_
                  refine lv_icmp_ne (tgt := 130) hx hb dX6_town_114 (by decide) (fun c713 => ?_) (fun c713 => ?_)
                  ·
                    have q714 : (dkTk (I0 345) (I0 340 6) (dkTe (I0 345) (I0 340 6) (dkTe (I0 345) (I0 340 6) (dkTe (I0 345) (I0 340 6) (0))))).toInt ≠ (1 : Int) := by first | (rw [← xv712]; exact (dk_ne c713)) | (subst xv712; exact (dk_ne c713))
                    have d715 : dkN [(-2147483648, 0), (3, 3), (5, 2147483647)] v712 := dkN_ne1 (1) dv712 (dkN_lit (x := 1) (1) rfl) (dk_ne c713) rfl
                    have f716 : dkN [(-2147483648, 0), (3, 3), (5, 2147483647)] (I705 340 11) := by rw [← ev712]; exact d715
                    refine lv_iconst (v := 0) hx hb dX6_town_130 (by decide) ?_
                    have i0 : (0 : Int32).toInt = 0 := rfl
                    have i1 : (1 : Int32).toInt = 1 := rfl
                    have i2 : (2 : Int32).toInt = 2 := rfl
                    have i3 : (3 : Int32).toInt = 3 := rfl
                    have i9 : (9 : Int32).toInt = 9 := rfl
                    have i30 : (30 : Int32).toInt = 30 := rfl
                    have i44 : (44 : Int32).toInt = 44 := rfl
                    have i59 : (59 : Int32).toInt = 59 := rfl
                    have i109 : (109 : Int32).toInt = 109 := rfl
                    have i116 : (116 : Int32).toInt = 116 := rfl
                    have e717 : dkTw (I0 345) (I0 340 6) = (1, dkTe (I0 345) (I0 340 6) (dkTe (I0 345) (I0 340 6) (dkTe (I0 345) (I0 340 6) (0)))) := dkTw_l ((dkTh_p (dkK_l (T := (I0 345)) (n := (I0 340 6)) (a := 0) (c := 116) q300 (by omega))).trans ((dkTh_p (dkK_0 (T := (I0 345)) (n := (I0 340 6)) (a := dkTe (I0 345) (I0 340 6) (0)) (lo := 3) (hi := 9) q408 (by omega) (by omega))).trans ((dkTh_p (dkK_c (T := (I0 345)) (n := (I0 340 6)) (a := dkTe (I0 345) (I0 340 6) (dkTe (I0 345) (I0 340 6) (0))) q693)).trans (dkTh_q (dkK_1 (T := (I0 345)) (n := (I0 340 6)) (a := dkTe (I0 345) (I0 340 6) (dkTe (I0 345) (I0 340 6) (dkTe (I0 345) (I0 340 6) (0)))) (lo := 1) (hi := 30) q698) (by decide))))) (by decide)
                    exact C131 I705 _ _ ls x2_1 0 hW hS hF hO hP (dkN_sub d252 rfl) (dkN_sub (dkN_lit (x := 0) (0) rfl) rfl) (show dkN [(1, 2)] (I705 340 7) from dkN_sub (by rw [hF711 340 7 rfl]; exact (by rw [eI705, dkU_n (by decide)]; exact f423_340_7)) rfl) (show dkN [(0, 90)] (I705 340 8) from dkN_sub (by rw [hF711 340 8 rfl]; exact (by rw [eI705, dkU_n (by decide)]; exact f423_340_8)) rfl) (show dkN [(0, 0), (3, 9)] (I705 347 0) from dkN_sub (by rw [hF711 347 0 rfl]; exact (by rw [eI705, dkU_sn (by decide)]; exact (by rw [hF423 347 0 rfl]; exact (by rw [eI422, dkU_ss]; exact dv356)))) rfl) (show dkN [(0, 0)] (I705 347 4) from dkN_sub (by rw [hF711 347 4 rfl]; exact (by rw [eI705, dkU_sn (by decide)]; exact (by rw [hF423 347 4 rfl]; exact (by rw [eI422, dkU_sn (by decide)]; exact (by rw [hF356 347 4 rfl]; exact (by rw [hF343 347 4 rfl]; exact (by rw [hF255 347 4 rfl]; exact (by rw [eI254, dkU_n (by decide)]; exact (by rw [eI253, dkU_n (by decide)]; exact (dkN_lit (0) (by rw [hz4]; rfl))))))))))) rfl) (show dkN [(0, 0)] (I705 347 5) from dkN_sub (by rw [hF711 347 5 rfl]; exact (by rw [eI705, dkU_sn (by decide)]; exact (by rw [hF423 347 5 rfl]; exact (by rw [eI422, dkU_sn (by decide)]; exact (by rw [hF356 347 5 rfl]; exact (by rw [hF343 347 5 rfl]; exact (by rw [hF255 347 5 rfl]; exact (by rw [eI254, dkU_n (by decide)]; exact (by rw [eI253, dkU_n (by decide)]; exact (dkN_lit (0) (by rw [hz5]; rfl))))))))))) rfl) ((funext fun j => hF711 345 j dkNin_nil).trans ((by rw [eI705, dkU_n (by decide)] : I705 345 = _).trans ((funext fun j => hF423 345 j (dkNin_k rfl dkNin_nil)).trans ((by rw [eI422, dkU_n (by decide)] : I422 345 = _).trans ((funext fun j => hF356 345 j (dkNin_k rfl dkNin_nil)).trans ((funext fun j => hF343 345 j (dkNin_k rfl dkNin_nil)).trans ((funext fun j => hF255 345 j (dkNin_k rfl dkNin_nil)).trans ((by rw [eI254, dkU_n (by decide)] : I254 345 = _).trans ((by rw [eI253, dkU_n (by decide)] : I253 345 = _).trans z2_0))))))))) ((hF711 340 17 rfl).trans ((by rw [eI705, dkU_n (by decide)] : I705 340 17 = _).trans ((hF423 340 17 rfl).trans ((by rw [eI422, dkU_n (by decide)] : I422 340 17 = _).trans ((hF356 340 17 rfl).trans ((hF343 340 17 rfl).trans ((hF255 340 17 rfl).trans ((by rw [eI254, dkU_sn (by decide)] : I254 340 17 = _).trans ((by rw [eI253, dkU_sn (by decide)] : I253 340 17 = _).trans zp2_0))))))))) ((hF711 340 6 rfl).trans ((by rw [eI705, dkU_n (by decide)] : I705 340 6 = _).trans ((hF423 340 6 rfl).trans ((by rw [eI422, dkU_n (by decide)] : I422 340 6 = _).trans ((hF356 340 6 rfl).trans ((hF343 340 6 rfl).trans ((hF255 340 6 rfl).trans ((by rw [eI254, dkU_sn (by decide)] : I254 340 6 = _).trans ((by rw [eI253, dkU_sn (by decide)] : I253 340 6 = _).trans zp2_1))))))))) ((hF711 346 0 rfl).trans ((by rw [eI705, dkU_n (by decide)] : I705 346 0 = _).trans ((hF423 346 0 rfl).trans ((by rw [eI422, dkU_n (by decide)] : I422 346 0 = _).trans ((hF356 346 0 rfl).trans ((hF343 346 0 rfl).trans ((hF255 346 0 rfl).trans ((by rw [eI254, dkU_n (by decide)] : I254 346 0 = _).trans ((by rw [eI253, dkU_n (by decide)] : I253 346 0 = _).trans zp2_3))))))))) ((hF711 346 4 rfl).trans ((by rw [eI705, dkU_n (by decide)] : I705 346 4 = _).trans ((hF423 346 4 rfl).trans ((by rw [eI422, dkU_n (by decide)] : I422 346 4 = _).trans ((hF356 346 4 rfl).trans ((hF343 346 4 rfl).trans ((hF255 346 4 rfl).trans ((by rw [eI254, dkU_n (by decide)] : I254 346 4 = _).trans ((by rw [eI253, dkU_n (by decide)] : I253 346 4 = _).trans zp2_4))))))))) ((hF711 346 5 rfl).trans ((by rw [eI705, dkU_n (by decide)] : I705 346 5 = _).trans ((hF423 346 5 rfl).trans ((by rw [eI422, dkU_n (by decide)] : I422 346 5 = _).trans ((hF356 346 5 rfl).trans ((hF343 346 5 rfl).trans ((hF255 346 5 rfl).trans ((by rw [eI254, dkU_n (by decide)] : I254 346 5 = _).trans ((by rw [eI253, dkU_n (by decide)] : I253 346 5 = _).trans zp2_5))))))))) ⟨(dkE_k e717 (by decide)), (((show I705 340 7 = 1 from ((hF711 340 7 rfl).trans ((by rw [eI705, dkU_n (by decide)] : I705 340 7 = _).trans y699)))).trans (dkP_1 e717).symm), (((show I705 340 8 = dkTe (I0 345) (I0 340 6) (dkTe (I0 345) (I0 340 6) (dkTe (I0 345) (I0 340 6) (0))) from ((hF711 340 8 rfl).trans ((by rw [eI705, dkU_n (by decide)] : I705 340 8 = _).trans y700)))).trans (dkP_2 e717).symm)⟩ (lv_sub hl [0, 1] rfl)
                  ·
                    have q718 : (dkTk (I0 345) (I0 340 6) (dkTe (I0 345) (I0 340 6) (dkTe (I0 345) (I0 340 6) (dkTe (I0 345) (I0 340 6) (0))))).toInt = (1 : Int) := by first | (rw [← xv712]; exact (congrArg Int32.toInt c713)) | (subst xv712; exact (congrArg Int32.toInt c713))
                    have d719 : dkN [(1, 1)] v712 := dkN_eq1 dv712 (dkN_lit (x := 1) (1) rfl) (congrArg Int32.toInt c713) rfl
                    have f720 : dkN [(1, 1)] (I705 340 11) := by rw [← ev712]; exact d719
                    refine lv_aload_n hx hb dX6_town_117 rfl (lv_at hl 0 rfl) ?_
                    refine dk_get (k := 340) hx hb hts iX6_town_6 hown hK (dk_at340 hW) rfl 12 (by decide) (hts (.fieldLink RX6 95 "DogKingsModel" "value" "I") (List.mem_of_getElem? (i := 5) rfl)) rfl dX6_town_118 ?_
                    refine lv_topi (fun v721 ev721 => ?_)
                    have xv721 : v721 = dkTv (I0 345) (I0 340 6) (dkTe (I0 345) (I0 340 6) (dkTe (I0 345) (I0 340 6) (dkTe (I0 345) (I0 340 6) (0)))) := ev721.trans ((hF711 340 12 rfl).trans ((by rw [eI705, dkU_n (by decide)] : I705 340 12 = _).trans y704))
                    refine lv_bipush (v := 109) hx hb dX6_town_121 (by decide) ?_
                    refine lv_icmp_ne (tgt := 130) hx hb dX6_town_123 (by decide) (fun c722 => ?_) (fun c722 => ?_)
                    ·
                      have q723 : (dkTv (I0 345) (I0 340 6) (dkTe (I0 345) (I0 340 6) (dkTe (I0 345) (I0 340 6) (dkTe (I0 345) (I0 340 6) (0))))).toInt ≠ (109 : Int) := by first | (rw [← xv721]; exact (dk_ne c722)) | (subst xv721; exact (dk_ne c722))
                      have d724 : dkN [(-2147483648, 108), (110, 2147483647)] v721 := dkN_ne1 (109) (dkN_top v721) (dkN_lit (x := 109) (109) rfl) (dk_ne c722) rfl
                      have f725 : dkN [(-2147483648, 108), (110, 2147483647)] (I705 340 12) := by rw [← ev721]; exact d724
                      refine lv_iconst (v := 0) hx hb dX6_town_130 (by decide) ?_
                      have i0 : (0 : Int32).toInt = 0 := rfl
                      have i1 : (1 : Int32).toInt = 1 := rfl
                      have i2 : (2 : Int32).toInt = 2 := rfl
                      have i3 : (3 : Int32).toInt = 3 := rfl
                      have i9 : (9 : Int32).toInt = 9 := rfl
                      have i30 : (30 : Int32).toInt = 30 := rfl
                      have i44 : (44 : Int32).toInt = 44 := rfl
                      have i59 : (59 : Int32).toInt = 59 := rfl
                      have i109 : (109 : Int32).toInt = 109 := rfl
                      have i116 : (116 : Int32).toInt = 116 := rfl
                      have e726 : dkTw (I0 345) (I0 340 6) = (1, dkTe (I0 345) (I0 340 6) (dkTe (I0 345) (I0 340 6) (dkTe (I0 345) (I0 340 6) (0)))) := dkTw_l ((dkTh_p (dkK_l (T := (I0 345)) (n := (I0 340 6)) (a := 0) (c := 116) q300 (by omega))).trans ((dkTh_p (dkK_0 (T := (I0 345)) (n := (I0 340 6)) (a := dkTe (I0 345) (I0 340 6) (0)) (lo := 3) (hi := 9) q408 (by omega) (by omega))).trans ((dkTh_p (dkK_c (T := (I0 345)) (n := (I0 340 6)) (a := dkTe (I0 345) (I0 340 6) (dkTe (I0 345) (I0 340 6) (0))) q693)).trans (dkTh_q (dkK_1 (T := (I0 345)) (n := (I0 340 6)) (a := dkTe (I0 345) (I0 340 6) (dkTe (I0 345) (I0 340 6) (dkTe (I0 345) (I0 340 6) (0)))) (lo := 1) (hi := 30) q698) (by decide))))) (by decide)
                      exact C131 I705 _ _ ls x2_1 0 hW hS hF hO hP (dkN_sub d252 rfl) (dkN_sub (dkN_lit (x := 0) (0) rfl) rfl) (show dkN [(1, 2)] (I705 340 7) from dkN_sub (by rw [hF711 340 7 rfl]; exact (by rw [eI705, dkU_n (by decide)]; exact f423_340_7)) rfl) (show dkN [(0, 90)] (I705 340 8) from dkN_sub (by rw [hF711 340 8 rfl]; exact (by rw [eI705, dkU_n (by decide)]; exact f423_340_8)) rfl) (show dkN [(0, 0), (3, 9)] (I705 347 0) from dkN_sub (by rw [hF711 347 0 rfl]; exact (by rw [eI705, dkU_sn (by decide)]; exact (by rw [hF423 347 0 rfl]; exact (by rw [eI422, dkU_ss]; exact dv356)))) rfl) (show dkN [(0, 0)] (I705 347 4) from dkN_sub (by rw [hF711 347 4 rfl]; exact (by rw [eI705, dkU_sn (by decide)]; exact (by rw [hF423 347 4 rfl]; exact (by rw [eI422, dkU_sn (by decide)]; exact (by rw [hF356 347 4 rfl]; exact (by rw [hF343 347 4 rfl]; exact (by rw [hF255 347 4 rfl]; exact (by rw [eI254, dkU_n (by decide)]; exact (by rw [eI253, dkU_n (by decide)]; exact (dkN_lit (0) (by rw [hz4]; rfl))))))))))) rfl) (show dkN [(0, 0)] (I705 347 5) from dkN_sub (by rw [hF711 347 5 rfl]; exact (by rw [eI705, dkU_sn (by decide)]; exact (by rw [hF423 347 5 rfl]; exact (by rw [eI422, dkU_sn (by decide)]; exact (by rw [hF356 347 5 rfl]; exact (by rw [hF343 347 5 rfl]; exact (by rw [hF255 347 5 rfl]; exact (by rw [eI254, dkU_n (by decide)]; exact (by rw [eI253, dkU_n (by decide)]; exact (dkN_lit (0) (by rw [hz5]; rfl))))))))))) rfl) ((funext fun j => hF711 345 j dkNin_nil).trans ((by rw [eI705, dkU_n (by decide)] : I705 345 = _).trans ((funext fun j => hF423 345 j (dkNin_k rfl dkNin_nil)).trans ((by rw [eI422, dkU_n (by decide)] : I422 345 = _).trans ((funext fun j => hF356 345 j (dkNin_k rfl dkNin_nil)).trans ((funext fun j => hF343 345 j (dkNin_k rfl dkNin_nil)).trans ((funext fun j => hF255 345 j (dkNin_k rfl dkNin_nil)).trans ((by rw [eI254, dkU_n (by decide)] : I254 345 = _).trans ((by rw [eI253, dkU_n (by decide)] : I253 345 = _).trans z2_0))))))))) ((hF711 340 17 rfl).trans ((by rw [eI705, dkU_n (by decide)] : I705 340 17 = _).trans ((hF423 340 17 rfl).trans ((by rw [eI422, dkU_n (by decide)] : I422 340 17 = _).trans ((hF356 340 17 rfl).trans ((hF343 340 17 rfl).trans ((hF255 340 17 rfl).trans ((by rw [eI254, dkU_sn (by decide)] : I254 340 17 = _).trans ((by rw [eI253, dkU_sn (by decide)] : I253 340 17 = _).trans zp2_0))))))))) ((hF711 340 6 rfl).trans ((by rw [eI705, dkU_n (by decide)] : I705 340 6 = _).trans ((hF423 340 6 rfl).trans ((by rw [eI422, dkU_n (by decide)] : I422 340 6 = _).trans ((hF356 340 6 rfl).trans ((hF343 340 6 rfl).trans ((hF255 340 6 rfl).trans ((by rw [eI254, dkU_sn (by decide)] : I254 340 6 = _).trans ((by rw [eI253, dkU_sn (by decide)] : I253 340 6 = _).trans zp2_1))))))))) ((hF711 346 0 rfl).trans ((by rw [eI705, dkU_n (by decide)] : I705 346 0 = _).trans ((hF423 346 0 rfl).trans ((by rw [eI422, dkU_n (by decide)] : I422 346 0 = _).trans ((hF356 346 0 rfl).trans ((hF343 346 0 rfl).trans ((hF255 346 0 rfl).trans ((by rw [eI254, dkU_n (by decide)] : I254 346 0 = _).trans ((by rw [eI253, dkU_n (by decide)] : I253 346 0 = _).trans zp2_3))))))))) ((hF711 346 4 rfl).trans ((by rw [eI705, dkU_n (by decide)] : I705 346 4 = _).trans ((hF423 346 4 rfl).trans ((by rw [eI422, dkU_n (by decide)] : I422 346 4 = _).trans ((hF356 346 4 rfl).trans ((hF343 346 4 rfl).trans ((hF255 346 4 rfl).trans ((by rw [eI254, dkU_n (by decide)] : I254 346 4 = _).trans ((by rw [eI253, dkU_n (by decide)] : I253 346 4 = _).trans zp2_4))))))))) ((hF711 346 5 rfl).trans ((by rw [eI705, dkU_n (by decide)] : I705 346 5 = _).trans ((hF423 346 5 rfl).trans ((by rw [eI422, dkU_n (by decide)] : I422 346 5 = _).trans ((hF356 346 5 rfl).trans ((hF343 346 5 rfl).trans ((hF255 346 5 rfl).trans ((by rw [eI254, dkU_n (by decide)] : I254 346 5 = _).trans ((by rw [eI253, dkU_n (by decide)] : I253 346 5 = _).trans zp2_5))))))))) ⟨(dkE_k e726 (by decide)), (((show I705 340 7 = 1 from ((hF711 340 7 rfl).trans ((by rw [eI705, dkU_n (by decide)] : I705 340 7 = _).trans y699)))).trans (dkP_1 e726).symm), (((show I705 340 8 = dkTe (I0 345) (I0 340 6) (dkTe (I0 345) (I0 340 6) (dkTe (I0 345) (I0 340 6) (0))) from ((hF711 340 8 rfl).trans ((by rw [eI705, dkU_n (by decide)] : I705 340 8 = _).trans y700)))).trans (dkP_2 e726).symm)⟩ (lv_sub hl [0, 1] rfl)
                    ·
                      have q727 : (dkTv (I0 345) (I0 340 6) (dkTe (I0 345) (I0 340 6) (dkTe (I0 345) (I0 340 6) (dkTe (I0 345) (I0 340 6) (0))))).toInt = (109 : Int) := by first | (rw [← xv721]; exact (congrArg Int32.toInt c722)) | (subst xv721; exact (congrArg Int32.toInt c722))
                      have d728 : dkN [(109, 109)] v721 := dkN_eq1 (dkN_top v721) (dkN_lit (x := 109) (109) rfl) (congrArg Int32.toInt c722) rfl
                      have f729 : dkN [(109, 109)] (I705 340 12) := by rw [← ev721]; exact d728
                      refine lv_iconst (v := 1) hx hb dX6_town_126 (by decide) ?_
                      refine lv_goto (tgt := 131) hx hb dX6_town_127 (by decide) ?_
                      have i0 : (0 : Int32).toInt = 0 := rfl
                      have i1 : (1 : Int32).toInt = 1 := rfl
                      have i2 : (2 : Int32).toInt = 2 := rfl
                      have i3 : (3 : Int32).toInt = 3 := rfl
                      have i9 : (9 : Int32).toInt = 9 := rfl
                      have i30 : (30 : Int32).toInt = 30 := rfl
                      have i44 : (44 : Int32).toInt = 44 := rfl
                      have i59 : (59 : Int32).toInt = 59 := rfl
                      have i109 : (109 : Int32).toInt = 109 := rfl
                      have i116 : (116 : Int32).toInt = 116 := rfl
                      have e730 : dkTw (I0 345) (I0 340 6) = (1, dkTe (I0 345) (I0 340 6) (dkTe (I0 345) (I0 340 6) (dkTe (I0 345) (I0 340 6) (0)))) := dkTw_l ((dkTh_p (dkK_l (T := (I0 345)) (n := (I0 340 6)) (a := 0) (c := 116) q300 (by omega))).trans ((dkTh_p (dkK_0 (T := (I0 345)) (n := (I0 340 6)) (a := dkTe (I0 345) (I0 340 6) (0)) (lo := 3) (hi := 9) q408 (by omega) (by omega))).trans ((dkTh_p (dkK_c (T := (I0 345)) (n := (I0 340 6)) (a := dkTe (I0 345) (I0 340 6) (dkTe (I0 345) (I0 340 6) (0))) q693)).trans (dkTh_q (dkK_1 (T := (I0 345)) (n := (I0 340 6)) (a := dkTe (I0 345) (I0 340 6) (dkTe (I0 345) (I0 340 6) (dkTe (I0 345) (I0 340 6) (0)))) (lo := 1) (hi := 30) q698) (by decide))))) (by decide)
                      exact C131 I705 _ _ ls x2_1 1 hW hS hF hO hP (dkN_sub d252 rfl) (dkN_sub (dkN_lit (x := 1) (1) rfl) rfl) (show dkN [(1, 2)] (I705 340 7) from dkN_sub (by rw [hF711 340 7 rfl]; exact (by rw [eI705, dkU_n (by decide)]; exact f423_340_7)) rfl) (show dkN [(0, 90)] (I705 340 8) from dkN_sub (by rw [hF711 340 8 rfl]; exact (by rw [eI705, dkU_n (by decide)]; exact f423_340_8)) rfl) (show dkN [(0, 0), (3, 9)] (I705 347 0) from dkN_sub (by rw [hF711 347 0 rfl]; exact (by rw [eI705, dkU_sn (by decide)]; exact (by rw [hF423 347 0 rfl]; exact (by rw [eI422, dkU_ss]; exact dv356)))) rfl) (show dkN [(0, 0)] (I705 347 4) from dkN_sub (by rw [hF711 347 4 rfl]; exact (by rw [eI705, dkU_sn (by decide)]; exact (by rw [hF423 347 4 rfl]; exact (by rw [eI422, dkU_sn (by decide)]; exact (by rw [hF356 347 4 rfl]; exact (by rw [hF343 347 4 rfl]; exact (by rw [hF255 347 4 rfl]; exact (by rw [eI254, dkU_n (by decide)]; exact (by rw [eI253, dkU_n (by decide)]; exact (dkN_lit (0) (by rw [hz4]; rfl))))))))))) rfl) (show dkN [(0, 0)] (I705 347 5) from dkN_sub (by rw [hF711 347 5 rfl]; exact (by rw [eI705, dkU_sn (by decide)]; exact (by rw [hF423 347 5 rfl]; exact (by rw [eI422, dkU_sn (by decide)]; exact (by rw [hF356 347 5 rfl]; exact (by rw [hF343 347 5 rfl]; exact (by rw [hF255 347 5 rfl]; exact (by rw [eI254, dkU_n (by decide)]; exact (by rw [eI253, dkU_n (by decide)]; exact (dkN_lit (0) (by rw [hz5]; rfl))))))))))) rfl) ((funext fun j => hF711 345 j dkNin_nil).trans ((by rw [eI705, dkU_n (by decide)] : I705 345 = _).trans ((funext fun j => hF423 345 j (dkNin_k rfl dkNin_nil)).trans ((by rw [eI422, dkU_n (by decide)] : I422 345 = _).trans ((funext fun j => hF356 345 j (dkNin_k rfl dkNin_nil)).trans ((funext fun j => hF343 345 j (dkNin_k rfl dkNin_nil)).trans ((funext fun j => hF255 345 j (dkNin_k rfl dkNin_nil)).trans ((by rw [eI254, dkU_n (by decide)] : I254 345 = _).trans ((by rw [eI253, dkU_n (by decide)] : I253 345 = _).trans z2_0))))))))) ((hF711 340 17 rfl).trans ((by rw [eI705, dkU_n (by decide)] : I705 340 17 = _).trans ((hF423 340 17 rfl).trans ((by rw [eI422, dkU_n (by decide)] : I422 340 17 = _).trans ((hF356 340 17 rfl).trans ((hF343 340 17 rfl).trans ((hF255 340 17 rfl).trans ((by rw [eI254, dkU_sn (by decide)] : I254 340 17 = _).trans ((by rw [eI253, dkU_sn (by decide)] : I253 340 17 = _).trans zp2_0))))))))) ((hF711 340 6 rfl).trans ((by rw [eI705, dkU_n (by decide)] : I705 340 6 = _).trans ((hF423 340 6 rfl).trans ((by rw [eI422, dkU_n (by decide)] : I422 340 6 = _).trans ((hF356 340 6 rfl).trans ((hF343 340 6 rfl).trans ((hF255 340 6 rfl).trans ((by rw [eI254, dkU_sn (by decide)] : I254 340 6 = _).trans ((by rw [eI253, dkU_sn (by decide)] : I253 340 6 = _).trans zp2_1))))))))) ((hF711 346 0 rfl).trans ((by rw [eI705, dkU_n (by decide)] : I705 346 0 = _).trans ((hF423 346 0 rfl).trans ((by rw [eI422, dkU_n (by decide)] : I422 346 0 = _).trans ((hF356 346 0 rfl).trans ((hF343 346 0 rfl).trans ((hF255 346 0 rfl).trans ((by rw [eI254, dkU_n (by decide)] : I254 346 0 = _).trans ((by rw [eI253, dkU_n (by decide)] : I253 346 0 = _).trans zp2_3))))))))) ((hF711 346 4 rfl).trans ((by rw [eI705, dkU_n (by decide)] : I705 346 4 = _).trans ((hF423 346 4 rfl).trans ((by rw [eI422, dkU_n (by decide)] : I422 346 4 = _).trans ((hF356 346 4 rfl).trans ((hF343 346 4 rfl).trans ((hF255 346 4 rfl).trans ((by rw [eI254, dkU_n (by decide)] : I254 346 4 = _).trans ((by rw [eI253, dkU_n (by decide)] : I253 346 4 = _).trans zp2_4))))))))) ((hF711 346 5 rfl).trans ((by rw [eI705, dkU_n (by decide)] : I705 346 5 = _).trans ((hF423 346 5 rfl).trans ((by rw [eI422, dkU_n (by decide)] : I422 346 5 = _).trans ((hF356 346 5 rfl).trans ((hF343 346 5 rfl).trans ((hF255 346 5 rfl).trans ((by rw [eI254, dkU_n (by decide)] : I254 346 5 = _).trans ((by rw [eI253, dkU_n (by decide)] : I253 346 5 = _).trans zp2_5))))))))) ⟨(dkE_k e730 (by decide)), (((show I705 340 7 = 1 from ((hF711 340 7 rfl).trans ((by rw [eI705, dkU_n (by decide)] : I705 340 7 = _).trans y699)))).trans (dkP_1 e730).symm), (((show I705 340 8 = dkTe (I0 345) (I0 340 6) (dkTe (I0 345) (I0 340 6) (dkTe (I0 345) (I0 340 6) (0))) from ((hF711 340 8 rfl).trans ((by rw [eI705, dkU_n (by decide)] : I705 340 8 = _).trans y700)))).trans (dkP_2 e730).symm)⟩ (lv_sub hl [0, 1] rfl)
                ·
                  have q731 : (dkTk (I0 345) (I0 340 6) (dkTe (I0 345) (I0 340 6) (dkTe (I0 345) (I0 340 6) (dkTe (I0 345) (I0 340 6) (0))))).toInt = (4 : Int) := by first | (rw [← xv706]; exact (congrArg Int32.toInt c707)) | (subst xv706; exact (congrArg Int32.toInt c707))
                  have d732 : dkN [(4, 4)] v706 := dkN_eq1 dv706 (dkN_lit (x := 4) (4) rfl) (congrArg Int32.toInt c707) rfl
                  have f733 : dkN [(4, 4)] (I705 340 11) := by rw [← ev706]; exact d732
                  refine lv_iconst (v := 1) hx hb dX6_town_98 (by decide) ?_
                  refine lv_goto (tgt := 103) hx hb dX6_town_99 (by decide) ?_
                  refine lv_iconst (v := 1) hx hb dX6_town_103 (by decide) ?_
                  refine dk_Vi (As := [.int 1, .int 1]) (rest := []) ⟨hx, hb, hml, hown, hts⟩ (h_X6_takes_0 l g z I705 1 1 (show dkN [(0, 90)] (I705 340 8) from dkN_sub (by rw [eI705, dkU_n (by decide)]; exact f423_340_8) rfl) hO) (cwV 2 hts gX6_town_X6_takes rfl rfl rfl (by decide +kernel) ⟨Nat.le_of_ble_eq_true rfl, Nat.le_of_ble_eq_true rfl⟩) (dk_at340 hW) rfl hK hT hW hS rfl hl.1 rfl (Nat.le_of_ble_eq_true rfl) dX6_town_104 ⟨Nat.zero_le _, Nat.zero_le _⟩ (fun v734 I734 H734 L734 hp734 hW hS => ?_)
                  obtain ⟨hF734, hO, hc734⟩ := hp734
                  have hF := dkF_call hF hF734 rfl
                  have hP := dkPP_F hP hF734 rfl
                  have eI734 : I705 = I734 := (dkF_nil hF734).symm
                  subst eI734
                  obtain ⟨dv734, xr734, -⟩ := hc734
                  have xv734 : v734 = 0 := by have h := xr734; exact h
                  refine lv_pop hx hb dX6_town_107 rfl ?_
                  refine lv_aload_n hx hb dX6_town_108 rfl (lv_at hl 0 rfl) ?_
                  refine lv_aload_n hx hb dX6_town_109 rfl (lv_at hl 0 rfl) ?_
                  refine dk_get (k := 340) hx hb hts iX6_town_6 hown hK (dk_at340 hW) rfl 11 (by decide) (hts (.fieldLink RX6 98 "DogKingsModel" "token" "I") (List.mem_of_getElem? (i := 4) rfl)) rfl dX6_town_110 ?_
                  refine lv_topi (fun v735 ev735 => ?_)
                  have dv735 : dkN [(4, 4)] v735 := by rw [ev735]; exact (by rw [hF734 340 11 rfl]; exact f733)
                  have xv735 : v735 = dkTk (I0 345) (I0 340 6) (dkTe (I0 345) (I0 340 6) (dkTe (I0 345) (I0 340 6) (dkTe (I0 345) (I0 340 6) (0)))) := ev735.trans ((hF734 340 11 rfl).trans ((by rw [eI705, dkU_n (by decide)] : I705 340 11 = _).trans y703))
                  refine lv_iconst (v := 1) hx hb dX6_town_113 (by decide) ?_
                  refine lv_icmp_ne (tgt := 130) hx hb dX6_town_114 (by decide) (fun c736 => ?_) (fun c736 => ?_)
                  ·
                    have q737 : (dkTk (I0 345) (I0 340 6) (dkTe (I0 345) (I0 340 6) (dkTe (I0 345) (I0 340 6) (dkTe (I0 345) (I0 340 6) (0))))).toInt ≠ (1 : Int) := by first | (rw [← xv735]; exact (dk_ne c736)) | (subst xv735; exact (dk_ne c736))
                    refine lv_iconst (v := 0) hx hb dX6_town_130 (by decide) ?_
                    have i0 : (0 : Int32).toInt = 0 := rfl
                    have i1 : (1 : Int32).toInt = 1 := rfl
                    have i2 : (2 : Int32).toInt = 2 := rfl
                    have i3 : (3 : Int32).toInt = 3 := rfl
                    have i9 : (9 : Int32).toInt = 9 := rfl
                    have i30 : (30 : Int32).toInt = 30 := rfl
                    have i44 : (44 : Int32).toInt = 44 := rfl
                    have i59 : (59 : Int32).toInt = 59 := rfl
                    have i109 : (109 : Int32).toInt = 109 := rfl
                    have i116 : (116 : Int32).toInt = 116 := rfl
                    have e738 : dkTw (I0 345) (I0 340 6) = (1, dkTe (I0 345) (I0 340 6) (dkTe (I0 345) (I0 340 6) (dkTe (I0 345) (I0 340 6) (0)))) := dkTw_l ((dkTh_p (dkK_l (T := (I0 345)) (n := (I0 340 6)) (a := 0) (c := 116) q300 (by omega))).trans ((dkTh_p (dkK_0 (T := (I0 345)) (n := (I0 340 6)) (a := dkTe (I0 345) (I0 340 6) (0)) (lo := 3) (hi := 9) q408 (by omega) (by omega))).trans ((dkTh_p (dkK_c (T := (I0 345)) (n := (I0 340 6)) (a := dkTe (I0 345) (I0 340 6) (dkTe (I0 345) (I0 340 6) (0))) q693)).trans (dkTh_q (dkK_1 (T := (I0 345)) (n := (I0 340 6)) (a := dkTe (I0 345) (I0 340 6) (dkTe (I0 345) (I0 340 6) (dkTe (I0 345) (I0 340 6) (0)))) (lo := 1) (hi := 30) q698) (by decide))))) (by decide)
                    exact C131 I705 _ _ ls x2_1 0 hW hS hF hO hP (dkN_sub d252 rfl) (dkN_sub (dkN_lit (x := 0) (0) rfl) rfl) (show dkN [(1, 2)] (I705 340 7) from dkN_sub (by rw [hF734 340 7 rfl]; exact (by rw [eI705, dkU_n (by decide)]; exact f423_340_7)) rfl) (show dkN [(0, 90)] (I705 340 8) from dkN_sub (by rw [hF734 340 8 rfl]; exact (by rw [eI705, dkU_n (by decide)]; exact f423_340_8)) rfl) (show dkN [(0, 0), (3, 9)] (I705 347 0) from dkN_sub (by rw [hF734 347 0 rfl]; exact (by rw [eI705, dkU_sn (by decide)]; exact (by rw [hF423 347 0 rfl]; exact (by rw [eI422, dkU_ss]; exact dv356)))) rfl) (show dkN [(0, 0)] (I705 347 4) from dkN_sub (by rw [hF734 347 4 rfl]; exact (by rw [eI705, dkU_sn (by decide)]; exact (by rw [hF423 347 4 rfl]; exact (by rw [eI422, dkU_sn (by decide)]; exact (by rw [hF356 347 4 rfl]; exact (by rw [hF343 347 4 rfl]; exact (by rw [hF255 347 4 rfl]; exact (by rw [eI254, dkU_n (by decide)]; exact (by rw [eI253, dkU_n (by decide)]; exact (dkN_lit (0) (by rw [hz4]; rfl))))))))))) rfl) (show dkN [(0, 0)] (I705 347 5) from dkN_sub (by rw [hF734 347 5 rfl]; exact (by rw [eI705, dkU_sn (by decide)]; exact (by rw [hF423 347 5 rfl]; exact (by rw [eI422, dkU_sn (by decide)]; exact (by rw [hF356 347 5 rfl]; exact (by rw [hF343 347 5 rfl]; exact (by rw [hF255 347 5 rfl]; exact (by rw [eI254, dkU_n (by decide)]; exact (by rw [eI253, dkU_n (by decide)]; exact (dkN_lit (0) (by rw [hz5]; rfl))))))))))) rfl) ((funext fun j => hF734 345 j dkNin_nil).trans ((by rw [eI705, dkU_n (by decide)] : I705 345 = _).trans ((funext fun j => hF423 345 j (dkNin_k rfl dkNin_nil)).trans ((by rw [eI422, dkU_n (by decide)] : I422 345 = _).trans ((funext fun j => hF356 345 j (dkNin_k rfl dkNin_nil)).trans ((funext fun j => hF343 345 j (dkNin_k rfl dkNin_nil)).trans ((funext fun j => hF255 345 j (dkNin_k rfl dkNin_nil)).trans ((by rw [eI254, dkU_n (by decide)] : I254 345 = _).trans ((by rw [eI253, dkU_n (by decide)] : I253 345 = _).trans z2_0))))))))) ((hF734 340 17 rfl).trans ((by rw [eI705, dkU_n (by decide)] : I705 340 17 = _).trans ((hF423 340 17 rfl).trans ((by rw [eI422, dkU_n (by decide)] : I422 340 17 = _).trans ((hF356 340 17 rfl).trans ((hF343 340 17 rfl).trans ((hF255 340 17 rfl).trans ((by rw [eI254, dkU_sn (by decide)] : I254 340 17 = _).trans ((by rw [eI253, dkU_sn (by decide)] : I253 340 17 = _).trans zp2_0))))))))) ((hF734 340 6 rfl).trans ((by rw [eI705, dkU_n (by decide)] : I705 340 6 = _).trans ((hF423 340 6 rfl).trans ((by rw [eI422, dkU_n (by decide)] : I422 340 6 = _).trans ((hF356 340 6 rfl).trans ((hF343 340 6 rfl).trans ((hF255 340 6 rfl).trans ((by rw [eI254, dkU_sn (by decide)] : I254 340 6 = _).trans ((by rw [eI253, dkU_sn (by decide)] : I253 340 6 = _).trans zp2_1))))))))) ((hF734 346 0 rfl).trans ((by rw [eI705, dkU_n (by decide)] : I705 346 0 = _).trans ((hF423 346 0 rfl).trans ((by rw [eI422, dkU_n (by decide)] : I422 346 0 = _).trans ((hF356 346 0 rfl).trans ((hF343 346 0 rfl).trans ((hF255 346 0 rfl).trans ((by rw [eI254, dkU_n (by decide)] : I254 346 0 = _).trans ((by rw [eI253, dkU_n (by decide)] : I253 346 0 = _).trans zp2_3))))))))) ((hF734 346 4 rfl).trans ((by rw [eI705, dkU_n (by decide)] : I705 346 4 = _).trans ((hF423 346 4 rfl).trans ((by rw [eI422, dkU_n (by decide)] : I422 346 4 = _).trans ((hF356 346 4 rfl).trans ((hF343 346 4 rfl).trans ((hF255 346 4 rfl).trans ((by rw [eI254, dkU_n (by decide)] : I254 346 4 = _).trans ((by rw [eI253, dkU_n (by decide)] : I253 346 4 = _).trans zp2_4))))))))) ((hF734 346 5 rfl).trans ((by rw [eI705, dkU_n (by decide)] : I705 346 5 = _).trans ((hF423 346 5 rfl).trans ((by rw [eI422, dkU_n (by decide)] : I422 346 5 = _).trans ((hF356 346 5 rfl).trans ((hF343 346 5 rfl).trans ((hF255 346 5 rfl).trans ((by rw [eI254, dkU_n (by decide)] : I254 346 5 = _).trans ((by rw [eI253, dkU_n (by decide)] : I253 346 5 = _).trans zp2_5))))))))) ⟨(dkE_k e738 (by decide)), (((show I705 340 7 = 1 from ((hF734 340 7 rfl).trans ((by rw [eI705, dkU_n (by decide)] : I705 340 7 = _).trans y699)))).trans (dkP_1 e738).symm), (((show I705 340 8 = dkTe (I0 345) (I0 340 6) (dkTe (I0 345) (I0 340 6) (dkTe (I0 345) (I0 340 6) (0))) from ((hF734 340 8 rfl).trans ((by rw [eI705, dkU_n (by decide)] : I705 340 8 = _).trans y700)))).trans (dkP_2 e738).symm)⟩ (lv_sub hl [0, 1] rfl)
                  ·
                    exact (dkN_nil (show dkN [] v735 from dkN_eq1 dv735 (dkN_lit (x := 1) (1) rfl) (congrArg Int32.toInt c736) rfl)).elim
            ·
              obtain ⟨dv356, f356_340_11, f356_340_7, f356_340_8, x356_0, x356_1, xr356, xh356_0, xh356_1, xh356_2, xh356_3, xh356_4, xh356_5, -⟩ := hc356
              have w739 : I343 340 8 = (-1) := y347
              have w740 : I343 340 11 = dkTk (I0 345) (I0 340 6) (dkTe (I0 345) (I0 340 6) (0)) := y353
              have q741 : (dkTk (I0 345) (I0 340 6) (dkTe (I0 345) (I0 340 6) (0))).toInt ≠ (2 : Int) := by have h := x356_1; rw [w740] at h; exact h
              have y742 : I356 340 7 = 1 := by have h := xh356_0; exact h
              have w743 : I343 340 10 = dkTe (I0 345) (I0 340 6) (0) := y352
              have y744 : I356 340 8 = dkTe (I0 345) (I0 340 6) (0) := by have h := xh356_1; rw [w743] at h; exact h
              have w745 : I343 340 9 = dkTe (I0 345) (I0 340 6) (dkTe (I0 345) (I0 340 6) (0)) := y351
              have y746 : I356 340 9 = dkTe (I0 345) (I0 340 6) (dkTe (I0 345) (I0 340 6) (0)) := by have h := xh356_2; rw [w745] at h; exact h
              have y747 : I356 340 10 = dkTe (I0 345) (I0 340 6) (0) := by have h := xh356_3; rw [w743] at h; exact h
              have y748 : I356 340 11 = dkTk (I0 345) (I0 340 6) (dkTe (I0 345) (I0 340 6) (0)) := by have h := xh356_4; rw [w740] at h; exact h
              have w749 : I343 340 12 = dkTv (I0 345) (I0 340 6) (dkTe (I0 345) (I0 340 6) (0)) := y354
              have y750 : I356 340 12 = dkTv (I0 345) (I0 340 6) (dkTe (I0 345) (I0 340 6) (0)) := by have h := xh356_5; rw [w749] at h; exact h
              have xv356 : v356 = 0 := by have h := xr356; exact h
              refine dk_ist (k := 347) hx hb hK hW (fun _ => rfl) (by decide) hS (dkN_in (n := 54) (dkN_lit (x := 0) (0) rfl) rfl) dX6_town_75 (fun I751 H751 L751 eI751 hW hS => ?_)
              have eI751 : I751 = dkU I356 347 0 v356 := eI751
              have hO := dkO_set hO eI751 (dkN_sub dv356 rfl)
              have hF := dkF_set hF eI751 rfl
              have hP := dkPP_set hP eI751 rfl
              refine lv_aload_n hx hb dX6_town_76 rfl (lv_at hl 0 rfl) ?_
              refine dk_get (k := 340) hx hb hts iX6_town_6 hown hK (dk_at340 hW) rfl 14 (by decide) (hts (.fieldLink RX6 28 "DogKingsModel" "draft" "[I") (List.mem_of_getElem? (i := 1) rfl)) rfl dX6_town_77 ?_
              refine lv_iconst (v := 1) hx hb dX6_town_80 (by decide) ?_
              refine lv_aload_n hx hb dX6_town_81 rfl (lv_at hl 0 rfl) ?_
              refine lv_iconst (v := 1) hx hb dX6_town_82 (by decide) ?_
              refine lv_bipush (v := 30) hx hb dX6_town_83 (by decide) ?_
              refine dk_Vi (As := [.int 1, .int 30]) (rest := [.int 1, .ref (z + 347)]) ⟨hx, hb, hml, hown, hts⟩ (h_X6_follows_0 l g z I751 1 30 (show dkN [(0, 90)] (I751 340 8) from dkN_sub (by rw [eI751, dkU_n (by decide)]; exact f356_340_8) rfl) hO) (cwV 2 hts gX6_town_X6_follows rfl rfl rfl (by decide +kernel) ⟨Nat.le_of_ble_eq_true rfl, Nat.le_of_ble_eq_true rfl⟩) (dk_at340 hW) rfl hK hT hW hS rfl hl.1 rfl (Nat.le_of_ble_eq_true rfl) dX6_town_85 ⟨Nat.zero_le _, Nat.zero_le _⟩ (fun v752 I752 H752 L752 hp752 hW hS => ?_)
              obtain ⟨hF752, hO, hc752⟩ := hp752
              have hF := dkF_call hF hF752 rfl
              have hP := dkPP_F hP hF752 rfl
              have eI752 : I751 = I752 := (dkF_nil hF752).symm
              subst eI752
              obtain ⟨dv752, xr752, -⟩ := hc752
              have xv752 : v752 = 0 := by have h := xr752; exact h
              refine dk_ist (k := 347) hx hb hK hW (fun _ => rfl) (by decide) hS (dkN_in (n := 54) (dkN_lit (x := 1) (1) rfl) rfl) dX6_town_88 (fun I753 H753 L753 eI753 hW hS => ?_)
              have eI753 : I753 = dkU I751 347 1 v752 := eI753
              have hO := dkO_set hO eI753 (dkN_sub dv752 rfl)
              have hF := dkF_set hF eI753 rfl
              have hP := dkPP_set hP eI753 rfl
              refine lv_aload_n hx hb dX6_town_89 rfl (lv_at hl 0 rfl) ?_
              refine lv_aload_n hx hb dX6_town_90 rfl (lv_at hl 0 rfl) ?_
              refine dk_get (k := 340) hx hb hts iX6_town_6 hown hK (dk_at340 hW) rfl 11 (by decide) (hts (.fieldLink RX6 98 "DogKingsModel" "token" "I") (List.mem_of_getElem? (i := 4) rfl)) rfl dX6_town_91 ?_
              refine lv_topi (fun v754 ev754 => ?_)
              have dv754 : dkN [(-2147483648, 1), (3, 2147483647)] v754 := by rw [ev754]; exact (by rw [eI753, dkU_n (by decide)]; exact (by rw [hF752 340 11 rfl]; exact (by rw [eI751, dkU_n (by decide)]; exact f356_340_11)))
              have xv754 : v754 = dkTk (I0 345) (I0 340 6) (dkTe (I0 345) (I0 340 6) (0)) := ev754.trans ((by rw [eI753, dkU_n (by decide)] : I753 340 11 = _).trans ((hF752 340 11 rfl).trans ((by rw [eI751, dkU_n (by decide)] : I751 340 11 = _).trans y748)))
              refine lv_iconst (v := 4) hx hb dX6_town_94 (by decide) ?_
              refine lv_icmp_ne (tgt := 102) hx hb dX6_town_95 (by decide) (fun c755 => ?_) (fun c755 => ?_)
              ·
                have q756 : (dkTk (I0 345) (I0 340 6) (dkTe (I0 345) (I0 340 6) (0))).toInt ≠ (4 : Int) := by first | (rw [← xv754]; exact (dk_ne c755)) | (subst xv754; exact (dk_ne c755))
                have d757 : dkN [(-2147483648, 1), (3, 3), (5, 2147483647)] v754 := dkN_ne1 (4) dv754 (dkN_lit (x := 4) (4) rfl) (dk_ne c755) rfl
                have f758 : dkN [(-2147483648, 1), (3, 3), (5, 2147483647)] (I753 340 11) := by rw [← ev754]; exact d757
                refine lv_iconst (v := 0) hx hb dX6_town_102 (by decide) ?_
                refine lv_iconst (v := 1) hx hb dX6_town_103 (by decide) ?_
                refine dk_Vi (As := [.int 0, .int 1]) (rest := []) ⟨hx, hb, hml, hown, hts⟩ (h_X6_takes_0 l g z I753 0 1 (show dkN [(0, 90)] (I753 340 8) from dkN_sub (by rw [eI753, dkU_n (by decide)]; exact (by rw [hF752 340 8 rfl]; exact (by rw [eI751, dkU_n (by decide)]; exact f356_340_8))) rfl) hO) (cwV 2 hts gX6_town_X6_takes rfl rfl rfl (by decide +kernel) ⟨Nat.le_of_ble_eq_true rfl, Nat.le_of_ble_eq_true rfl⟩) (dk_at340 hW) rfl hK hT hW hS rfl hl.1 rfl (Nat.le_of_ble_eq_true rfl) dX6_town_104 ⟨Nat.zero_le _, Nat.zero_le _⟩ (fun v759 I759 H759 L759 hp759 hW hS => ?_)
                obtain ⟨hF759, hO, hc759⟩ := hp759
                have hF := dkF_call hF hF759 rfl
                have hP := dkPP_F hP hF759 rfl
                have eI759 : I753 = I759 := (dkF_nil hF759).symm
                subst eI759
                obtain ⟨dv759, xr759, -⟩ := hc759
                have xv759 : v759 = 0 := by have h := xr759; exact h
                refine lv_pop hx hb dX6_town_107 rfl ?_
                refine lv_aload_n hx hb dX6_town_108 rfl (lv_at hl 0 rfl) ?_
                refine lv_aload_n hx hb dX6_town_109 rfl (lv_at hl 0 rfl) ?_
                refine dk_get (k := 340) hx hb hts iX6_town_6 hown hK (dk_at340 hW) rfl 11 (by decide) (hts (.fieldLink RX6 98 "DogKingsModel" "token" "I") (List.mem_of_getElem? (i := 4) rfl)) rfl dX6_town_110 ?_
                refine lv_topi (fun v760 ev760 => ?_)
                have dv760 : dkN [(-2147483648, 1), (3, 3), (5, 2147483647)] v760 := by rw [ev760]; exact (by rw [hF759 340 11 rfl]; exact f758)
                have xv760 : v760 = dkTk (I0 345) (I0 340 6) (dkTe (I0 345) (I0 340 6) (0)) := ev760.trans ((hF759 340 11 rfl).trans ((by rw [eI753, dkU_n (by decide)] : I753 340 11 = _).trans ((hF752 340 11 rfl).trans ((by rw [eI751, dkU_n (by decide)] : I751 340 11 = _).trans y748))))
                refine lv_iconst (v := 1) hx hb dX6_town_113 (by decide) ?_
                refine lv_icmp_ne (tgt := 130) hx hb dX6_town_114 (by decide) (fun c761 => ?_) (fun c761 => ?_)
                ·
                  have q762 : (dkTk (I0 345) (I0 340 6) (dkTe (I0 345) (I0 340 6) (0))).toInt ≠ (1 : Int) := by first | (rw [← xv760]; exact (dk_ne c761)) | (subst xv760; exact (dk_ne c761))
                  have d763 : dkN [(-2147483648, 0), (3, 3), (5, 2147483647)] v760 := dkN_ne1 (1) dv760 (dkN_lit (x := 1) (1) rfl) (dk_ne c761) rfl
                  have f764 : dkN [(-2147483648, 0), (3, 3), (5, 2147483647)] (I753 340 11) := by rw [← ev760]; exact d763
                  refine lv_iconst (v := 0) hx hb dX6_town_130 (by decide) ?_
                  have i0 : (0 : Int32).toInt = 0 := rfl
                  have i1 : (1 : Int32).toInt = 1 := rfl
                  have i2 : (2 : Int32).toInt = 2 := rfl
                  have i3 : (3 : Int32).toInt = 3 := rfl
                  have i9 : (9 : Int32).toInt = 9 := rfl
                  have i30 : (30 : Int32).toInt = 30 := rfl
                  have i44 : (44 : Int32).toInt = 44 := rfl
                  have i59 : (59 : Int32).toInt = 59 := rfl
                  have i109 : (109 : Int32).toInt = 109 := rfl
                  have i116 : (116 : Int32).toInt = 116 := rfl
                  have e765 : dkTw (I0 345) (I0 340 6) = (1, dkTe (I0 345) (I0 340 6) (0)) := dkTw_l ((dkTh_p (dkK_l (T := (I0 345)) (n := (I0 340 6)) (a := 0) (c := 116) q300 (by omega))).trans (dkTh_q (dkK_1 (T := (I0 345)) (n := (I0 340 6)) (a := dkTe (I0 345) (I0 340 6) (0)) (lo := 3) (hi := 9) q741) (by decide))) (by decide)
                  exact C131 I753 _ _ ls x2_1 0 hW hS hF hO hP (dkN_sub d252 rfl) (dkN_sub (dkN_lit (x := 0) (0) rfl) rfl) (show dkN [(1, 2)] (I753 340 7) from dkN_sub (by rw [hF759 340 7 rfl]; exact (by rw [eI753, dkU_n (by decide)]; exact (by rw [hF752 340 7 rfl]; exact (by rw [eI751, dkU_n (by decide)]; exact f356_340_7)))) rfl) (show dkN [(0, 90)] (I753 340 8) from dkN_sub (by rw [hF759 340 8 rfl]; exact (by rw [eI753, dkU_n (by decide)]; exact (by rw [hF752 340 8 rfl]; exact (by rw [eI751, dkU_n (by decide)]; exact f356_340_8)))) rfl) (show dkN [(0, 0), (3, 9)] (I753 347 0) from dkN_sub (by rw [hF759 347 0 rfl]; exact (by rw [eI753, dkU_sn (by decide)]; exact (by rw [hF752 347 0 rfl]; exact (by rw [eI751, dkU_ss]; exact dv356)))) rfl) (show dkN [(0, 0)] (I753 347 4) from dkN_sub (by rw [hF759 347 4 rfl]; exact (by rw [eI753, dkU_sn (by decide)]; exact (by rw [hF752 347 4 rfl]; exact (by rw [eI751, dkU_sn (by decide)]; exact (by rw [hF356 347 4 rfl]; exact (by rw [hF343 347 4 rfl]; exact (by rw [hF255 347 4 rfl]; exact (by rw [eI254, dkU_n (by decide)]; exact (by rw [eI253, dkU_n (by decide)]; exact (dkN_lit (0) (by rw [hz4]; rfl))))))))))) rfl) (show dkN [(0, 0)] (I753 347 5) from dkN_sub (by rw [hF759 347 5 rfl]; exact (by rw [eI753, dkU_sn (by decide)]; exact (by rw [hF752 347 5 rfl]; exact (by rw [eI751, dkU_sn (by decide)]; exact (by rw [hF356 347 5 rfl]; exact (by rw [hF343 347 5 rfl]; exact (by rw [hF255 347 5 rfl]; exact (by rw [eI254, dkU_n (by decide)]; exact (by rw [eI253, dkU_n (by decide)]; exact (dkN_lit (0) (by rw [hz5]; rfl))))))))))) rfl) ((funext fun j => hF759 345 j dkNin_nil).trans ((by rw [eI753, dkU_n (by decide)] : I753 345 = _).trans ((funext fun j => hF752 345 j dkNin_nil).trans ((by rw [eI751, dkU_n (by decide)] : I751 345 = _).trans ((funext fun j => hF356 345 j (dkNin_k rfl dkNin_nil)).trans ((funext fun j => hF343 345 j (dkNin_k rfl dkNin_nil)).trans ((funext fun j => hF255 345 j (dkNin_k rfl dkNin_nil)).trans ((by rw [eI254, dkU_n (by decide)] : I254 345 = _).trans ((by rw [eI253, dkU_n (by decide)] : I253 345 = _).trans z2_0))))))))) ((hF759 340 17 rfl).trans ((by rw [eI753, dkU_n (by decide)] : I753 340 17 = _).trans ((hF752 340 17 rfl).trans ((by rw [eI751, dkU_n (by decide)] : I751 340 17 = _).trans ((hF356 340 17 rfl).trans ((hF343 340 17 rfl).trans ((hF255 340 17 rfl).trans ((by rw [eI254, dkU_sn (by decide)] : I254 340 17 = _).trans ((by rw [eI253, dkU_sn (by decide)] : I253 340 17 = _).trans zp2_0))))))))) ((hF759 340 6 rfl).trans ((by rw [eI753, dkU_n (by decide)] : I753 340 6 = _).trans ((hF752 340 6 rfl).trans ((by rw [eI751, dkU_n (by decide)] : I751 340 6 = _).trans ((hF356 340 6 rfl).trans ((hF343 340 6 rfl).trans ((hF255 340 6 rfl).trans ((by rw [eI254, dkU_sn (by decide)] : I254 340 6 = _).trans ((by rw [eI253, dkU_sn (by decide)] : I253 340 6 = _).trans zp2_1))))))))) ((hF759 346 0 rfl).trans ((by rw [eI753, dkU_n (by decide)] : I753 346 0 = _).trans ((hF752 346 0 rfl).trans ((by rw [eI751, dkU_n (by decide)] : I751 346 0 = _).trans ((hF356 346 0 rfl).trans ((hF343 346 0 rfl).trans ((hF255 346 0 rfl).trans ((by rw [eI254, dkU_n (by decide)] : I254 346 0 = _).trans ((by rw [eI253, dkU_n (by decide)] : I253 346 0 = _).trans zp2_3))))))))) ((hF759 346 4 rfl).trans ((by rw [eI753, dkU_n (by decide)] : I753 346 4 = _).trans ((hF752 346 4 rfl).trans ((by rw [eI751, dkU_n (by decide)] : I751 346 4 = _).trans ((hF356 346 4 rfl).trans ((hF343 346 4 rfl).trans ((hF255 346 4 rfl).trans ((by rw [eI254, dkU_n (by decide)] : I254 346 4 = _).trans ((by rw [eI253, dkU_n (by decide)] : I253 346 4 = _).trans zp2_4))))))))) ((hF759 346 5 rfl).trans ((by rw [eI753, dkU_n (by decide)] : I753 346 5 = _).trans ((hF752 346 5 rfl).trans ((by rw [eI751, dkU_n (by decide)] : I751 346 5 = _).trans ((hF356 346 5 rfl).trans ((hF343 346 5 rfl).trans ((hF255 346 5 rfl).trans ((by rw [eI254, dkU_n (by decide)] : I254 346 5 = _).trans ((by rw [eI253, dkU_n (by decide)] : I253 346 5 = _).trans zp2_5))))))))) ⟨(dkE_k e765 (by decide)), (((show I753 340 7 = 1 from ((hF759 340 7 rfl).trans ((by rw [eI753, dkU_n (by decide)] : I753 340 7 = _).trans ((hF752 340 7 rfl).trans ((by rw [eI751, dkU_n (by decide)] : I751 340 7 = _).trans y742)))))).trans (dkP_1 e765).symm), (((show I753 340 8 = dkTe (I0 345) (I0 340 6) (0) from ((hF759 340 8 rfl).trans ((by rw [eI753, dkU_n (by decide)] : I753 340 8 = _).trans ((hF752 340 8 rfl).trans ((by rw [eI751, dkU_n (by decide)] : I751 340 8 = _).trans y744)))))).trans (dkP_2 e765).symm)⟩ (lv_sub hl [0, 1] rfl)
                ·
                  have q766 : (dkTk (I0 345) (I0 340 6) (dkTe (I0 345) (I0 340 6) (0))).toInt = (1 : Int) := by first | (rw [← xv760]; exact (congrArg Int32.toInt c761)) | (subst xv760; exact (congrArg Int32.toInt c761))
                  have d767 : dkN [(1, 1)] v760 := dkN_eq1 dv760 (dkN_lit (x := 1) (1) rfl) (congrArg Int32.toInt c761) rfl
                  have f768 : dkN [(1, 1)] (I753 340 11) := by rw [← ev760]; exact d767
                  refine lv_aload_n hx hb dX6_town_117 rfl (lv_at hl 0 rfl) ?_
                  refine dk_get (k := 340) hx hb hts iX6_town_6 hown hK (dk_at340 hW) rfl 12 (by decide) (hts (.fieldLink RX6 95 "DogKingsModel" "value" "I") (List.mem_of_getElem? (i := 5) rfl)) rfl dX6_town_118 ?_
                  refine lv_topi (fun v769 ev769 => ?_)
                  have xv769 : v769 = dkTv (I0 345) (I0 340 6) (dkTe (I0 345) (I0 340 6) (0)) := ev769.trans ((hF759 340 12 rfl).trans ((by rw [eI753, dkU_n (by decide)] : I753 340 12 = _).trans ((hF752 340 12 rfl).trans ((by rw [eI751, dkU_n (by decide)] : I751 340 12 = _).trans y750))))
                  refine lv_bipush (v := 109) hx hb dX6_town_121 (by decide) ?_
                  refine lv_icmp_ne (tgt := 130) hx hb dX6_town_123 (by decide) (fun c770 => ?_) (fun c770 => ?_)
                  ·
                    have q771 : (dkTv (I0 345) (I0 340 6) (dkTe (I0 345) (I0 340 6) (0))).toInt ≠ (109 : Int) := by first | (rw [← xv769]; exact (dk_ne c770)) | (subst xv769; exact (dk_ne c770))
                    have d772 : dkN [(-2147483648, 108), (110, 2147483647)] v769 := dkN_ne1 (109) (dkN_top v769) (dkN_lit (x := 109) (109) rfl) (dk_ne c770) rfl
                    have f773 : dkN [(-2147483648, 108), (110, 2147483647)] (I753 340 12) := by rw [← ev769]; exact d772
                    refine lv_iconst (v := 0) hx hb dX6_town_130 (by decide) ?_
                    have i0 : (0 : Int32).toInt = 0 := rfl
                    have i1 : (1 : Int32).toInt = 1 := rfl
                    have i2 : (2 : Int32).toInt = 2 := rfl
                    have i3 : (3 : Int32).toInt = 3 := rfl
                    have i9 : (9 : Int32).toInt = 9 := rfl
                    have i30 : (30 : Int32).toInt = 30 := rfl
                    have i44 : (44 : Int32).toInt = 44 := rfl
                    have i59 : (59 : Int32).toInt = 59 := rfl
                    have i109 : (109 : Int32).toInt = 109 := rfl
                    have i116 : (116 : Int32).toInt = 116 := rfl
                    have e774 : dkTw (I0 345) (I0 340 6) = (1, dkTe (I0 345) (I0 340 6) (0)) := dkTw_l ((dkTh_p (dkK_l (T := (I0 345)) (n := (I0 340 6)) (a := 0) (c := 116) q300 (by omega))).trans (dkTh_q (dkK_1 (T := (I0 345)) (n := (I0 340 6)) (a := dkTe (I0 345) (I0 340 6) (0)) (lo := 3) (hi := 9) q741) (by decide))) (by decide)
                    exact C131 I753 _ _ ls x2_1 0 hW hS hF hO hP (dkN_sub d252 rfl) (dkN_sub (dkN_lit (x := 0) (0) rfl) rfl) (show dkN [(1, 2)] (I753 340 7) from dkN_sub (by rw [hF759 340 7 rfl]; exact (by rw [eI753, dkU_n (by decide)]; exact (by rw [hF752 340 7 rfl]; exact (by rw [eI751, dkU_n (by decide)]; exact f356_340_7)))) rfl) (show dkN [(0, 90)] (I753 340 8) from dkN_sub (by rw [hF759 340 8 rfl]; exact (by rw [eI753, dkU_n (by decide)]; exact (by rw [hF752 340 8 rfl]; exact (by rw [eI751, dkU_n (by decide)]; exact f356_340_8)))) rfl) (show dkN [(0, 0), (3, 9)] (I753 347 0) from dkN_sub (by rw [hF759 347 0 rfl]; exact (by rw [eI753, dkU_sn (by decide)]; exact (by rw [hF752 347 0 rfl]; exact (by rw [eI751, dkU_ss]; exact dv356)))) rfl) (show dkN [(0, 0)] (I753 347 4) from dkN_sub (by rw [hF759 347 4 rfl]; exact (by rw [eI753, dkU_sn (by decide)]; exact (by rw [hF752 347 4 rfl]; exact (by rw [eI751, dkU_sn (by decide)]; exact (by rw [hF356 347 4 rfl]; exact (by rw [hF343 347 4 rfl]; exact (by rw [hF255 347 4 rfl]; exact (by rw [eI254, dkU_n (by decide)]; exact (by rw [eI253, dkU_n (by decide)]; exact (dkN_lit (0) (by rw [hz4]; rfl))))))))))) rfl) (show dkN [(0, 0)] (I753 347 5) from dkN_sub (by rw [hF759 347 5 rfl]; exact (by rw [eI753, dkU_sn (by decide)]; exact (by rw [hF752 347 5 rfl]; exact (by rw [eI751, dkU_sn (by decide)]; exact (by rw [hF356 347 5 rfl]; exact (by rw [hF343 347 5 rfl]; exact (by rw [hF255 347 5 rfl]; exact (by rw [eI254, dkU_n (by decide)]; exact (by rw [eI253, dkU_n (by decide)]; exact (dkN_lit (0) (by rw [hz5]; rfl))))))))))) rfl) ((funext fun j => hF759 345 j dkNin_nil).trans ((by rw [eI753, dkU_n (by decide)] : I753 345 = _).trans ((funext fun j => hF752 345 j dkNin_nil).trans ((by rw [eI751, dkU_n (by decide)] : I751 345 = _).trans ((funext fun j => hF356 345 j (dkNin_k rfl dkNin_nil)).trans ((funext fun j => hF343 345 j (dkNin_k rfl dkNin_nil)).trans ((funext fun j => hF255 345 j (dkNin_k rfl dkNin_nil)).trans ((by rw [eI254, dkU_n (by decide)] : I254 345 = _).trans ((by rw [eI253, dkU_n (by decide)] : I253 345 = _).trans z2_0))))))))) ((hF759 340 17 rfl).trans ((by rw [eI753, dkU_n (by decide)] : I753 340 17 = _).trans ((hF752 340 17 rfl).trans ((by rw [eI751, dkU_n (by decide)] : I751 340 17 = _).trans ((hF356 340 17 rfl).trans ((hF343 340 17 rfl).trans ((hF255 340 17 rfl).trans ((by rw [eI254, dkU_sn (by decide)] : I254 340 17 = _).trans ((by rw [eI253, dkU_sn (by decide)] : I253 340 17 = _).trans zp2_0))))))))) ((hF759 340 6 rfl).trans ((by rw [eI753, dkU_n (by decide)] : I753 340 6 = _).trans ((hF752 340 6 rfl).trans ((by rw [eI751, dkU_n (by decide)] : I751 340 6 = _).trans ((hF356 340 6 rfl).trans ((hF343 340 6 rfl).trans ((hF255 340 6 rfl).trans ((by rw [eI254, dkU_sn (by decide)] : I254 340 6 = _).trans ((by rw [eI253, dkU_sn (by decide)] : I253 340 6 = _).trans zp2_1))))))))) ((hF759 346 0 rfl).trans ((by rw [eI753, dkU_n (by decide)] : I753 346 0 = _).trans ((hF752 346 0 rfl).trans ((by rw [eI751, dkU_n (by decide)] : I751 346 0 = _).trans ((hF356 346 0 rfl).trans ((hF343 346 0 rfl).trans ((hF255 346 0 rfl).trans ((by rw [eI254, dkU_n (by decide)] : I254 346 0 = _).trans ((by rw [eI253, dkU_n (by decide)] : I253 346 0 = _).trans zp2_3))))))))) ((hF759 346 4 rfl).trans ((by rw [eI753, dkU_n (by decide)] : I753 346 4 = _).trans ((hF752 346 4 rfl).trans ((by rw [eI751, dkU_n (by decide)] : I751 346 4 = _).trans ((hF356 346 4 rfl).trans ((hF343 346 4 rfl).trans ((hF255 346 4 rfl).trans ((by rw [eI254, dkU_n (by decide)] : I254 346 4 = _).trans ((by rw [eI253, dkU_n (by decide)] : I253 346 4 = _).trans zp2_4))))))))) ((hF759 346 5 rfl).trans ((by rw [eI753, dkU_n (by decide)] : I753 346 5 = _).trans ((hF752 346 5 rfl).trans ((by rw [eI751, dkU_n (by decide)] : I751 346 5 = _).trans ((hF356 346 5 rfl).trans ((hF343 346 5 rfl).trans ((hF255 346 5 rfl).trans ((by rw [eI254, dkU_n (by decide)] : I254 346 5 = _).trans ((by rw [eI253, dkU_n (by decide)] : I253 346 5 = _).trans zp2_5))))))))) ⟨(dkE_k e774 (by decide)), (((show I753 340 7 = 1 from ((hF759 340 7 rfl).trans ((by rw [eI753, dkU_n (by decide)] : I753 340 7 = _).trans ((hF752 340 7 rfl).trans ((by rw [eI751, dkU_n (by decide)] : I751 340 7 = _).trans y742)))))).trans (dkP_1 e774).symm), (((show I753 340 8 = dkTe (I0 345) (I0 340 6) (0) from ((hF759 340 8 rfl).trans ((by rw [eI753, dkU_n (by decide)] : I753 340 8 = _).trans ((hF752 340 8 rfl).trans ((by rw [eI751, dkU_n (by decide)] : I751 340 8 = _).trans y744)))))).trans (dkP_2 e774).symm)⟩ (lv_sub hl [0, 1] rfl)
                  ·
                    have q775 : (dkTv (I0 345) (I0 340 6) (dkTe (I0 345) (I0 340 6) (0))).toInt = (109 : Int) := by first | (rw [← xv769]; exact (congrArg Int32.toInt c770)) | (subst xv769; exact (congrArg Int32.toInt c770))
                    have d776 : dkN [(109, 109)] v769 := dkN_eq1 (dkN_top v769) (dkN_lit (x := 109) (109) rfl) (congrArg Int32.toInt c770) rfl
                    have f777 : dkN [(109, 109)] (I753 340 12) := by rw [← ev769]; exact d776
                    refine lv_iconst (v := 1) hx hb dX6_town_126 (by decide) ?_
                    refine lv_goto (tgt := 131) hx hb dX6_town_127 (by decide) ?_
                    have i0 : (0 : Int32).toInt = 0 := rfl
                    have i1 : (1 : Int32).toInt = 1 := rfl
                    have i2 : (2 : Int32).toInt = 2 := rfl
                    have i3 : (3 : Int32).toInt = 3 := rfl
                    have i9 : (9 : Int32).toInt = 9 := rfl
                    have i30 : (30 : Int32).toInt = 30 := rfl
                    have i44 : (44 : Int32).toInt = 44 := rfl
                    have i59 : (59 : Int32).toInt = 59 := rfl
                    have i109 : (109 : Int32).toInt = 109 := rfl
                    have i116 : (116 : Int32).toInt = 116 := rfl
                    have e778 : dkTw (I0 345) (I0 340 6) = (1, dkTe (I0 345) (I0 340 6) (0)) := dkTw_l ((dkTh_p (dkK_l (T := (I0 345)) (n := (I0 340 6)) (a := 0) (c := 116) q300 (by omega))).trans (dkTh_q (dkK_1 (T := (I0 345)) (n := (I0 340 6)) (a := dkTe (I0 345) (I0 340 6) (0)) (lo := 3) (hi := 9) q741) (by decide))) (by decide)
                    exact C131 I753 _ _ ls x2_1 1 hW hS hF hO hP (dkN_sub d252 rfl) (dkN_sub (dkN_lit (x := 1) (1) rfl) rfl) (show dkN [(1, 2)] (I753 340 7) from dkN_sub (by rw [hF759 340 7 rfl]; exact (by rw [eI753, dkU_n (by decide)]; exact (by rw [hF752 340 7 rfl]; exact (by rw [eI751, dkU_n (by decide)]; exact f356_340_7)))) rfl) (show dkN [(0, 90)] (I753 340 8) from dkN_sub (by rw [hF759 340 8 rfl]; exact (by rw [eI753, dkU_n (by decide)]; exact (by rw [hF752 340 8 rfl]; exact (by rw [eI751, dkU_n (by decide)]; exact f356_340_8)))) rfl) (show dkN [(0, 0), (3, 9)] (I753 347 0) from dkN_sub (by rw [hF759 347 0 rfl]; exact (by rw [eI753, dkU_sn (by decide)]; exact (by rw [hF752 347 0 rfl]; exact (by rw [eI751, dkU_ss]; exact dv356)))) rfl) (show dkN [(0, 0)] (I753 347 4) from dkN_sub (by rw [hF759 347 4 rfl]; exact (by rw [eI753, dkU_sn (by decide)]; exact (by rw [hF752 347 4 rfl]; exact (by rw [eI751, dkU_sn (by decide)]; exact (by rw [hF356 347 4 rfl]; exact (by rw [hF343 347 4 rfl]; exact (by rw [hF255 347 4 rfl]; exact (by rw [eI254, dkU_n (by decide)]; exact (by rw [eI253, dkU_n (by decide)]; exact (dkN_lit (0) (by rw [hz4]; rfl))))))))))) rfl) (show dkN [(0, 0)] (I753 347 5) from dkN_sub (by rw [hF759 347 5 rfl]; exact (by rw [eI753, dkU_sn (by decide)]; exact (by rw [hF752 347 5 rfl]; exact (by rw [eI751, dkU_sn (by decide)]; exact (by rw [hF356 347 5 rfl]; exact (by rw [hF343 347 5 rfl]; exact (by rw [hF255 347 5 rfl]; exact (by rw [eI254, dkU_n (by decide)]; exact (by rw [eI253, dkU_n (by decide)]; exact (dkN_lit (0) (by rw [hz5]; rfl))))))))))) rfl) ((funext fun j => hF759 345 j dkNin_nil).trans ((by rw [eI753, dkU_n (by decide)] : I753 345 = _).trans ((funext fun j => hF752 345 j dkNin_nil).trans ((by rw [eI751, dkU_n (by decide)] : I751 345 = _).trans ((funext fun j => hF356 345 j (dkNin_k rfl dkNin_nil)).trans ((funext fun j => hF343 345 j (dkNin_k rfl dkNin_nil)).trans ((funext fun j => hF255 345 j (dkNin_k rfl dkNin_nil)).trans ((by rw [eI254, dkU_n (by decide)] : I254 345 = _).trans ((by rw [eI253, dkU_n (by decide)] : I253 345 = _).trans z2_0))))))))) ((hF759 340 17 rfl).trans ((by rw [eI753, dkU_n (by decide)] : I753 340 17 = _).trans ((hF752 340 17 rfl).trans ((by rw [eI751, dkU_n (by decide)] : I751 340 17 = _).trans ((hF356 340 17 rfl).trans ((hF343 340 17 rfl).trans ((hF255 340 17 rfl).trans ((by rw [eI254, dkU_sn (by decide)] : I254 340 17 = _).trans ((by rw [eI253, dkU_sn (by decide)] : I253 340 17 = _).trans zp2_0))))))))) ((hF759 340 6 rfl).trans ((by rw [eI753, dkU_n (by decide)] : I753 340 6 = _).trans ((hF752 340 6 rfl).trans ((by rw [eI751, dkU_n (by decide)] : I751 340 6 = _).trans ((hF356 340 6 rfl).trans ((hF343 340 6 rfl).trans ((hF255 340 6 rfl).trans ((by rw [eI254, dkU_sn (by decide)] : I254 340 6 = _).trans ((by rw [eI253, dkU_sn (by decide)] : I253 340 6 = _).trans zp2_1))))))))) ((hF759 346 0 rfl).trans ((by rw [eI753, dkU_n (by decide)] : I753 346 0 = _).trans ((hF752 346 0 rfl).trans ((by rw [eI751, dkU_n (by decide)] : I751 346 0 = _).trans ((hF356 346 0 rfl).trans ((hF343 346 0 rfl).trans ((hF255 346 0 rfl).trans ((by rw [eI254, dkU_n (by decide)] : I254 346 0 = _).trans ((by rw [eI253, dkU_n (by decide)] : I253 346 0 = _).trans zp2_3))))))))) ((hF759 346 4 rfl).trans ((by rw [eI753, dkU_n (by decide)] : I753 346 4 = _).trans ((hF752 346 4 rfl).trans ((by rw [eI751, dkU_n (by decide)] : I751 346 4 = _).trans ((hF356 346 4 rfl).trans ((hF343 346 4 rfl).trans ((hF255 346 4 rfl).trans ((by rw [eI254, dkU_n (by decide)] : I254 346 4 = _).trans ((by rw [eI253, dkU_n (by decide)] : I253 346 4 = _).trans zp2_4))))))))) ((hF759 346 5 rfl).trans ((by rw [eI753, dkU_n (by decide)] : I753 346 5 = _).trans ((hF752 346 5 rfl).trans ((by rw [eI751, dkU_n (by decide)] : I751 346 5 = _).trans ((hF356 346 5 rfl).trans ((hF343 346 5 rfl).trans ((hF255 346 5 rfl).trans ((by rw [eI254, dkU_n (by decide)] : I254 346 5 = _).trans ((by rw [eI253, dkU_n (by decide)] : I253 346 5 = _).trans zp2_5))))))))) ⟨(dkE_k e778 (by decide)), (((show I753 340 7 = 1 from ((hF759 340 7 rfl).trans ((by rw [eI753, dkU_n (by decide)] : I753 340 7 = _).trans ((hF752 340 7 rfl).trans ((by rw [eI751, dkU_n (by decide)] : I751 340 7 = _).trans y742)))))).trans (dkP_1 e778).symm), (((show I753 340 8 = dkTe (I0 345) (I0 340 6) (0) from ((hF759 340 8 rfl).trans ((by rw [eI753, dkU_n (by decide)] : I753 340 8 = _).trans ((hF752 340 8 rfl).trans ((by rw [eI751, dkU_n (by decide)] : I751 340 8 = _).trans y744)))))).trans (dkP_2 e778).symm)⟩ (lv_sub hl [0, 1] rfl)
              ·
                have q779 : (dkTk (I0 345) (I0 340 6) (dkTe (I0 345) (I0 340 6) (0))).toInt = (4 : Int) := by first | (rw [← xv754]; exact (congrArg Int32.toInt c755)) | (subst xv754; exact (congrArg Int32.toInt c755))
                have d780 : dkN [(4, 4)] v754 := dkN_eq1 dv754 (dkN_lit (x := 4) (4) rfl) (congrArg Int32.toInt c755) rfl
                have f781 : dkN [(4, 4)] (I753 340 11) := by rw [← ev754]; exact d780
                refine lv_iconst (v := 1) hx hb dX6_town_98 (by decide) ?_
                refine lv_goto (tgt := 103) hx hb dX6_town_99 (by decide) ?_
                refine lv_iconst (v := 1) hx hb dX6_town_103 (by decide) ?_
                refine dk_Vi (As := [.int 1, .int 1]) (rest := []) ⟨hx, hb, hml, hown, hts⟩ (h_X6_takes_0 l g z I753 1 1 (show dkN [(0, 90)] (I753 340 8) from dkN_sub (by rw [eI753, dkU_n (by decide)]; exact (by rw [hF752 340 8 rfl]; exact (by rw [eI751, dkU_n (by decide)]; exact f356_340_8))) rfl) hO) (cwV 2 hts gX6_town_X6_takes rfl rfl rfl (by decide +kernel) ⟨Nat.le_of_ble_eq_true rfl, Nat.le_of_ble_eq_true rfl⟩) (dk_at340 hW) rfl hK hT hW hS rfl hl.1 rfl (Nat.le_of_ble_eq_true rfl) dX6_town_104 ⟨Nat.zero_le _, Nat.zero_le _⟩ (fun v782 I782 H782 L782 hp782 hW hS => ?_)
                obtain ⟨hF782, hO, hc782⟩ := hp782
                have hF := dkF_call hF hF782 rfl
                have hP := dkPP_F hP hF782 rfl
                have eI782 : I753 = I782 := (dkF_nil hF782).symm
                subst eI782
                obtain ⟨dv782, xr782, -⟩ := hc782
                have xv782 : v782 = 0 := by have h := xr782; exact h
                refine lv_pop hx hb dX6_town_107 rfl ?_
                refine lv_aload_n hx hb dX6_town_108 rfl (lv_at hl 0 rfl) ?_
                refine lv_aload_n hx hb dX6_town_109 rfl (lv_at hl 0 rfl) ?_
                refine dk_get (k := 340) hx hb hts iX6_town_6 hown hK (dk_at340 hW) rfl 11 (by decide) (hts (.fieldLink RX6 98 "DogKingsModel" "token" "I") (List.mem_of_getElem? (i := 4) rfl)) rfl dX6_town_110 ?_
                refine lv_topi (fun v783 ev783 => ?_)
                have dv783 : dkN [(4, 4)] v783 := by rw [ev783]; exact (by rw [hF782 340 11 rfl]; exact f781)
                have xv783 : v783 = dkTk (I0 345) (I0 340 6) (dkTe (I0 345) (I0 340 6) (0)) := ev783.trans ((hF782 340 11 rfl).trans ((by rw [eI753, dkU_n (by decide)] : I753 340 11 = _).trans ((hF752 340 11 rfl).trans ((by rw [eI751, dkU_n (by decide)] : I751 340 11 = _).trans y748))))
                refine lv_iconst (v := 1) hx hb dX6_town_113 (by decide) ?_
                refine lv_icmp_ne (tgt := 130) hx hb dX6_town_114 (by decide) (fun c784 => ?_) (fun c784 => ?_)
                ·
                  have q785 : (dkTk (I0 345) (I0 340 6) (dkTe (I0 345) (I0 340 6) (0))).toInt ≠ (1 : Int) := by first | (rw [← xv783]; exact (dk_ne c784)) | (subst xv783; exact (dk_ne c784))
                  refine lv_iconst (v := 0) hx hb dX6_town_130 (by decide) ?_
                  have i0 : (0 : Int32).toInt = 0 := rfl
                  have i1 : (1 : Int32).toInt = 1 := rfl
                  have i2 : (2 : Int32).toInt = 2 := rfl
                  have i3 : (3 : Int32).toInt = 3 := rfl
                  have i9 : (9 : Int32).toInt = 9 := rfl
                  have i30 : (30 : Int32).toInt = 30 := rfl
                  have i44 : (44 : Int32).toInt = 44 := rfl
                  have i59 : (59 : Int32).toInt = 59 := rfl
                  have i109 : (109 : Int32).toInt = 109 := rfl
                  have i116 : (116 : Int32).toInt = 116 := rfl
                  have e786 : dkTw (I0 345) (I0 340 6) = (1, dkTe (I0 345) (I0 340 6) (0)) := dkTw_l ((dkTh_p (dkK_l (T := (I0 345)) (n := (I0 340 6)) (a := 0) (c := 116) q300 (by omega))).trans (dkTh_q (dkK_1 (T := (I0 345)) (n := (I0 340 6)) (a := dkTe (I0 345) (I0 340 6) (0)) (lo := 3) (hi := 9) q741) (by decide))) (by decide)
                  exact C131 I753 _ _ ls x2_1 0 hW hS hF hO hP (dkN_sub d252 rfl) (dkN_sub (dkN_lit (x := 0) (0) rfl) rfl) (show dkN [(1, 2)] (I753 340 7) from dkN_sub (by rw [hF782 340 7 rfl]; exact (by rw [eI753, dkU_n (by decide)]; exact (by rw [hF752 340 7 rfl]; exact (by rw [eI751, dkU_n (by decide)]; exact f356_340_7)))) rfl) (show dkN [(0, 90)] (I753 340 8) from dkN_sub (by rw [hF782 340 8 rfl]; exact (by rw [eI753, dkU_n (by decide)]; exact (by rw [hF752 340 8 rfl]; exact (by rw [eI751, dkU_n (by decide)]; exact f356_340_8)))) rfl) (show dkN [(0, 0), (3, 9)] (I753 347 0) from dkN_sub (by rw [hF782 347 0 rfl]; exact (by rw [eI753, dkU_sn (by decide)]; exact (by rw [hF752 347 0 rfl]; exact (by rw [eI751, dkU_ss]; exact dv356)))) rfl) (show dkN [(0, 0)] (I753 347 4) from dkN_sub (by rw [hF782 347 4 rfl]; exact (by rw [eI753, dkU_sn (by decide)]; exact (by rw [hF752 347 4 rfl]; exact (by rw [eI751, dkU_sn (by decide)]; exact (by rw [hF356 347 4 rfl]; exact (by rw [hF343 347 4 rfl]; exact (by rw [hF255 347 4 rfl]; exact (by rw [eI254, dkU_n (by decide)]; exact (by rw [eI253, dkU_n (by decide)]; exact (dkN_lit (0) (by rw [hz4]; rfl))))))))))) rfl) (show dkN [(0, 0)] (I753 347 5) from dkN_sub (by rw [hF782 347 5 rfl]; exact (by rw [eI753, dkU_sn (by decide)]; exact (by rw [hF752 347 5 rfl]; exact (by rw [eI751, dkU_sn (by decide)]; exact (by rw [hF356 347 5 rfl]; exact (by rw [hF343 347 5 rfl]; exact (by rw [hF255 347 5 rfl]; exact (by rw [eI254, dkU_n (by decide)]; exact (by rw [eI253, dkU_n (by decide)]; exact (dkN_lit (0) (by rw [hz5]; rfl))))))))))) rfl) ((funext fun j => hF782 345 j dkNin_nil).trans ((by rw [eI753, dkU_n (by decide)] : I753 345 = _).trans ((funext fun j => hF752 345 j dkNin_nil).trans ((by rw [eI751, dkU_n (by decide)] : I751 345 = _).trans ((funext fun j => hF356 345 j (dkNin_k rfl dkNin_nil)).trans ((funext fun j => hF343 345 j (dkNin_k rfl dkNin_nil)).trans ((funext fun j => hF255 345 j (dkNin_k rfl dkNin_nil)).trans ((by rw [eI254, dkU_n (by decide)] : I254 345 = _).trans ((by rw [eI253, dkU_n (by decide)] : I253 345 = _).trans z2_0))))))))) ((hF782 340 17 rfl).trans ((by rw [eI753, dkU_n (by decide)] : I753 340 17 = _).trans ((hF752 340 17 rfl).trans ((by rw [eI751, dkU_n (by decide)] : I751 340 17 = _).trans ((hF356 340 17 rfl).trans ((hF343 340 17 rfl).trans ((hF255 340 17 rfl).trans ((by rw [eI254, dkU_sn (by decide)] : I254 340 17 = _).trans ((by rw [eI253, dkU_sn (by decide)] : I253 340 17 = _).trans zp2_0))))))))) ((hF782 340 6 rfl).trans ((by rw [eI753, dkU_n (by decide)] : I753 340 6 = _).trans ((hF752 340 6 rfl).trans ((by rw [eI751, dkU_n (by decide)] : I751 340 6 = _).trans ((hF356 340 6 rfl).trans ((hF343 340 6 rfl).trans ((hF255 340 6 rfl).trans ((by rw [eI254, dkU_sn (by decide)] : I254 340 6 = _).trans ((by rw [eI253, dkU_sn (by decide)] : I253 340 6 = _).trans zp2_1))))))))) ((hF782 346 0 rfl).trans ((by rw [eI753, dkU_n (by decide)] : I753 346 0 = _).trans ((hF752 346 0 rfl).trans ((by rw [eI751, dkU_n (by decide)] : I751 346 0 = _).trans ((hF356 346 0 rfl).trans ((hF343 346 0 rfl).trans ((hF255 346 0 rfl).trans ((by rw [eI254, dkU_n (by decide)] : I254 346 0 = _).trans ((by rw [eI253, dkU_n (by decide)] : I253 346 0 = _).trans zp2_3))))))))) ((hF782 346 4 rfl).trans ((by rw [eI753, dkU_n (by decide)] : I753 346 4 = _).trans ((hF752 346 4 rfl).trans ((by rw [eI751, dkU_n (by decide)] : I751 346 4 = _).trans ((hF356 346 4 rfl).trans ((hF343 346 4 rfl).trans ((hF255 346 4 rfl).trans ((by rw [eI254, dkU_n (by decide)] : I254 346 4 = _).trans ((by rw [eI253, dkU_n (by decide)] : I253 346 4 = _).trans zp2_4))))))))) ((hF782 346 5 rfl).trans ((by rw [eI753, dkU_n (by decide)] : I753 346 5 = _).trans ((hF752 346 5 rfl).trans ((by rw [eI751, dkU_n (by decide)] : I751 346 5 = _).trans ((hF356 346 5 rfl).trans ((hF343 346 5 rfl).trans ((hF255 346 5 rfl).trans ((by rw [eI254, dkU_n (by decide)] : I254 346 5 = _).trans ((by rw [eI253, dkU_n (by decide)] : I253 346 5 = _).trans zp2_5))))))))) ⟨(dkE_k e786 (by decide)), (((show I753 340 7 = 1 from ((hF782 340 7 rfl).trans ((by rw [eI753, dkU_n (by decide)] : I753 340 7 = _).trans ((hF752 340 7 rfl).trans ((by rw [eI751, dkU_n (by decide)] : I751 340 7 = _).trans y742)))))).trans (dkP_1 e786).symm), (((show I753 340 8 = dkTe (I0 345) (I0 340 6) (0) from ((hF782 340 8 rfl).trans ((by rw [eI753, dkU_n (by decide)] : I753 340 8 = _).trans ((hF752 340 8 rfl).trans ((by rw [eI751, dkU_n (by decide)] : I751 340 8 = _).trans y744)))))).trans (dkP_2 e786).symm)⟩ (lv_sub hl [0, 1] rfl)
                ·
                  exact (dkN_nil (show dkN [] v783 from dkN_eq1 dv783 (dkN_lit (x := 1) (1) rfl) (congrArg Int32.toInt c784) rfl)).elim
      ·
        have d787 : dkN [(0, 53)] x2_1 := dkN_le1 1 k2_0 (dkN_lit (x := 54) (54) rfl) (dkc_nle c251) rfl
        refine lv_aload_n hx hb dX6_town_8 rfl (lv_at hl 0 rfl) ?_
        refine dk_get (k := 340) hx hb hts iX6_town_6 hown hK (dk_at340 hW) rfl 14 (by decide) (hts (.fieldLink RX6 28 "DogKingsModel" "draft" "[I") (List.mem_of_getElem? (i := 1) rfl)) rfl dX6_town_9 ?_
        refine lv_iload_n hx hb dX6_town_12 rfl (lv_at hl 1 rfl) ?_
        refine lv_iconst (v := 0) hx hb dX6_town_13 (by decide) ?_
        refine dk_ist (k := 347) hx hb hK hW (fun _ => rfl) (by decide) hS (dkN_in (n := 54) d787 rfl) dX6_town_14 (fun I788 H788 L788 eI788 hW hS => ?_)
        have hO := dkO_set hO eI788 (dkB_zero (k := 347) (by decide) _)
        have hF := dkF_set hF eI788 (dkIn_v d787 rfl)
        have hP := dkPP_set hP eI788 (dkPPb_v d787 rfl)
        obtain ⟨v789, ev789⟩ : ∃ y : Int32, y = x2_1 + 1 := ⟨_, rfl⟩
        have dv789 : dkN [(1, 54)] v789 := by rw [ev789]; exact dkN_add d787 (dkN_lit (x := 1) (1) rfl) rfl
        refine lv_iinc (v := v789) (lv' := [(1, .int v789), (0, .ref (z + 340))]) hx hb dX6_town_15 hl (k := 1) rfl (by rw [ev789]; rfl) (by decide) rfl (fun ls hl => ?_)
        refine lv_goto (tgt := 2) hx hb dX6_town_18 (by decide) ?_
        exact ih2 I788 _ _ ls v789 (dk_near hn2 (by rw [ev789]; exact dk_inc d787 rfl) (dkN_lt d787 rfl)) hW hS hF hO hP (dkN_sub dv789 rfl) ((by rw [eI788, dkU_n (by decide)] : I788 345 = _).trans z2_0) ((by rw [eI788, dkU_n (by decide)] : I788 340 17 = _).trans zp2_0) ((by rw [eI788, dkU_n (by decide)] : I788 340 6 = _).trans zp2_1) ((by rw [eI788, dkU_n (by decide)] : I788 340 7 = _).trans zp2_2) ((by rw [eI788, dkU_n (by decide)] : I788 346 0 = _).trans zp2_3) ((by rw [eI788, dkU_n (by decide)] : I788 346 4 = _).trans zp2_4) ((by rw [eI788, dkU_n (by decide)] : I788 346 5 = _).trans zp2_5) (dkZ_s cx2 eI788 (by rw [ev789]; exact dk_inc d787 rfl) (dk_nlt (dkN_ge d787 rfl))) (lv_sub hl [1, 0] rfl)
  refine lv_iconst (v := 0) hx hb dX6_town_0 (by decide) ?_
  refine lv_istore_n (lv' := [(1, .int 0), (0, .ref (z + 340))]) hx hb dX6_town_1 rfl hl (by decide) rfl (fun ls hl => ?_)
  exact C2 _ I0 _ _ ls 0 (Nat.lt_succ_self _) hW hS hF hO hP (dkN_sub (dkN_lit (x := 0) (0) rfl) rfl) rfl rfl rfl rfl rfl rfl rfl (fun j hj => absurd hj (by show ¬ ((j : Int) < 0); omega)) (lv_sub hl [1, 0] rfl)
