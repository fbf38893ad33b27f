set_option maxHeartbeats 40000000 in
set_option maxRecDepth 100000 in
theorem fx_X6_town_1 (l : Launch) (g : dkG) (z : Nat) (I0 : dkI)  (hO : dkOk I0) (hP : dkPP I0) : Met l yX6_town wsX6_town (dkR 6) (dkPc g z [.ref (z + 340)] I0) (dkQi g z (fun r I1 => dkF [(340, 340, 6, 12), (340, 340, 17, 17), (346, 346, 0, 53), (347, 347, 0, 53)] I0 I1 ∧ dkOk I1 ∧ dkPP I1 ∧ ((dkN [(-1000190, -1000100)] r ∧ dkN [(0, 0)] (I1 340 6) ∧ dkN [(1, 3)] (I1 340 7) ∧ dkN [(0, 90)] (I1 340 8) ∧ dkN [(0, 0), (3, 9)] (I1 347 0) ∧ (dkTw (I0 345) (I0 340 6)).1 ≠ 0 ∧ r = (-1000100 : Int32) - (dkTw (I0 345) (I0 340 6)).2 ∧ I1 346 0 = I0 346 0 ∧ I1 346 4 = I0 346 4 ∧ I1 346 5 = I0 346 5 ∧ I1 340 6 = 0 ∧ I1 340 17 = I0 340 17 ∧ I1 340 7 = (dkTw (I0 345) (I0 340 6)).1 ∧ I1 346  = I0 346 ∧ True) ∨ (dkN [(0, 6)] r ∧ dkN [(0, 0)] (I1 340 11) ∧ dkN [(0, 0)] (I1 340 17) ∧ dkN [(0, 0)] (I1 340 6) ∧ dkN [(-1, -1)] (I1 340 8) ∧ dkN [(3, 9)] (I1 346 0) ∧ dkN [(1, 30)] (I1 346 1) ∧ dkN [(1, 5)] (I1 346 4) ∧ dkN [(3, 9)] (I1 347 0) ∧ dkN [(1, 30)] (I1 347 1) ∧ dkN [(1, 5)] (I1 347 4) ∧ (dkTw (I0 345) (I0 340 6)).1 = 0 ∧ r = dkTd (I0 345) (I0 340 6) ∧ I1 346 0 = dkHh (I0 345) (I0 340 6) ∧ I1 346 4 = dkTp (I0 345) (I0 340 6) ∧ I1 346 5 = dkTd (I0 345) (I0 340 6) ∧ I1 340 6 = 0 ∧ I1 340 17 = 0 ∧ I1 340 7 = I0 340 7 ∧ (∀ j : Nat, j < Int32.toNatClampNeg (dkTd (I0 345) (I0 340 6)) → I1 346 (36 + 3 * j) = dkSs (I0 345) (I0 340 6) j) ∧ True)))) 0 0 (dkA z) := by
  refine Met.ofW (cc := cX6_town) (maxL := 2) (ret := (some .int)) (by decide) rfl ?_
  intro p e s m args below meth c s₁ B hml hv
  obtain ⟨ha, hW, hK, hT⟩ := hv
  have hx := B.exec
  have hb := B.bytes
  have hr := B.returns
  have hts := atoms_spec (ws := wsX6_town) B.pre
  have hown : s.vm.findClass RX6 = some m.cls := findClass_of_methodNamed B.named
  have hlocks := B.notSynchronized
  have hS : va_S (dkA z) s.heap s.heap [] := va_S.rf
  have hF : dkF [(340, 340, 6, 12), (340, 340, 17, 17), (346, 346, 0, 53), (347, 347, 0, 53)] I0 I0 := dkF_rf _ _
  have hl := lv_entry ([.ref (z + 340)]) (n := 2) (Nat.le_of_ble_eq_true rfl)
  have hgo : entryFrame m args 2 = entryFrame m ([.ref (z + 340)] : List Value).toArray 2 := by rw [ha]
  rw [hgo, lg_entry_eq]
  generalize (lg_sl ([.ref (z + 340)]) ++ List.replicate (2 - (lg_sl ([.ref (z + 340)])).length) Slot.unset).toArray = ls at hl ⊢
  have hl : lv_has ls 2 [(0, .ref (z + 340))] := hl
  have C197 : ∀ (I : dkI) (H : Heap) (locs : List Loc) (ls : Array Slot) (x197_1 : Int32), dkW g z I H → va_S (dkA z) s.heap H locs → dkF [(340, 340, 6, 12), (340, 340, 17, 17), (346, 346, 0, 53), (347, 347, 0, 53)] I0 I → dkOk I → dkPP I → dkN [(54, 54)] x197_1 → dkN [(1, 3)] (I 340 7) → dkN [(0, 90)] (I 340 8) → dkN [(0, 0), (3, 9)] (I 347 0) → I 345 = I0 345 → I 346 = I0 346 → I 340 17 = I0 340 17 → I 340 6 = I0 340 6 → I 346 0 = I0 346 0 → I 346 4 = I0 346 4 → I 346 5 = I0 346 5 → ((dkTw (I0 345) (I0 340 6)).1 ≠ 0 ∧ I 340 7 = (dkTw (I0 345) (I0 340 6)).1 ∧ I 340 8 = (dkTw (I0 345) (I0 340 6)).2) → lv_has ls 2 [(0, .ref (z + 340)), (1, .int x197_1)] → W p l e (headSpec wsX6_town (dkR 6)).room s m args below meth c H locs 0 0 (MQ below (dkQi g z (fun r I1 => dkF [(340, 340, 6, 12), (340, 340, 17, 17), (346, 346, 0, 53), (347, 347, 0, 53)] I0 I1 ∧ dkOk I1 ∧ dkPP I1 ∧ ((dkN [(-1000190, -1000100)] r ∧ dkN [(0, 0)] (I1 340 6) ∧ dkN [(1, 3)] (I1 340 7) ∧ dkN [(0, 90)] (I1 340 8) ∧ dkN [(0, 0), (3, 9)] (I1 347 0) ∧ (dkTw (I0 345) (I0 340 6)).1 ≠ 0 ∧ r = (-1000100 : Int32) - (dkTw (I0 345) (I0 340 6)).2 ∧ I1 346 0 = I0 346 0 ∧ I1 346 4 = I0 346 4 ∧ I1 346 5 = I0 346 5 ∧ I1 340 6 = 0 ∧ I1 340 17 = I0 340 17 ∧ I1 340 7 = (dkTw (I0 345) (I0 340 6)).1 ∧ I1 346  = I0 346 ∧ True) ∨ (dkN [(0, 6)] r ∧ dkN [(0, 0)] (I1 340 11) ∧ dkN [(0, 0)] (I1 340 17) ∧ dkN [(0, 0)] (I1 340 6) ∧ dkN [(-1, -1)] (I1 340 8) ∧ dkN [(3, 9)] (I1 346 0) ∧ dkN [(1, 30)] (I1 346 1) ∧ dkN [(1, 5)] (I1 346 4) ∧ dkN [(3, 9)] (I1 347 0) ∧ dkN [(1, 30)] (I1 347 1) ∧ dkN [(1, 5)] (I1 347 4) ∧ (dkTw (I0 345) (I0 340 6)).1 = 0 ∧ r = dkTd (I0 345) (I0 340 6) ∧ I1 346 0 = dkHh (I0 345) (I0 340 6) ∧ I1 346 4 = dkTp (I0 345) (I0 340 6) ∧ I1 346 5 = dkTd (I0 345) (I0 340 6) ∧ I1 340 6 = 0 ∧ I1 340 17 = 0 ∧ I1 340 7 = I0 340 7 ∧ (∀ j : Nat, j < Int32.toNatClampNeg (dkTd (I0 345) (I0 340 6)) → I1 346 (36 + 3 * j) = dkSs (I0 345) (I0 340 6) j) ∧ True)))) args s 0 0 (dkA z)) (F0 m 197 ls []) := by
    intro I197_ H locs ls x197_1 hW hS hF_197 hO hP k197_0 f197_0 f197_1 f197_2 z197_0 z197_1 zp197_0 zp197_1 zp197_2 zp197_3 zp197_4 cx197 hl
    have hF := hF_197
    refine lv_aload_n hx hb dX6_town_197 rfl (lv_at hl 0 rfl) ?_
    refine lv_aload_n hx hb dX6_town_198 rfl (lv_at hl 0 rfl) ?_
    refine dk_get (k := 340) hx hb hts iX6_town_6 hown hK (dk_at340 hW) rfl 11 (by decide) (hts (.fieldLink RX6 98 "DogKingsModel" "token" "I") (List.mem_of_getElem? (i := 4) rfl)) rfl dX6_town_199 ?_
    refine lv_topi (fun v1 ev1 => ?_)
    have xv1 : v1 = I197_ 340 11 := ev1.trans rfl
    refine lv_if_ne (tgt := 209) hx hb dX6_town_202 (by decide) (fun c2 => ?_) (fun c2 => ?_)
    ·
      have q3 : (I197_ 340 11).toInt ≠ (0 : Int) := by first | (rw [← xv1]; exact (dk_ne c2)) | (subst xv1; exact (dk_ne c2))
      have d4 : dkN [(-2147483648, -1), (1, 2147483647)] v1 := dkN_ne1 (0) (dkN_top v1) (dkN_lit (x := 0) (0) rfl) (dk_ne c2) rfl
      have f5 : dkN [(-2147483648, -1), (1, 2147483647)] (I197_ 340 11) := by rw [← ev1]; exact d4
      refine lv_iconst (v := 0) hx hb dX6_town_209 (by decide) ?_
      refine dk_Vv (As := [.int 0]) (rest := []) ⟨hx, hb, hml, hown, hts⟩ (h_X6_must_0 l g z I197_ 0 (show dkN [(0, 90)] (I197_ 340 8) from dkN_sub f197_1 rfl) hO) (cwV 1 hts gX6_town_X6_must rfl rfl rfl (by decide +kernel) ⟨Nat.le_of_ble_eq_true rfl, Nat.le_of_ble_eq_true rfl⟩) (dk_at340 hW) rfl hK hT hW hS rfl hl.1 rfl (Nat.le_of_ble_eq_true rfl) dX6_town_210 ⟨Nat.zero_le _, Nat.zero_le _⟩ (fun I6 H6 L6 hp6 hW hS => ?_)
      obtain ⟨hF6, hO, hc6⟩ := hp6
      have hF := dkF_call hF hF6 rfl
      have hP := dkPP_F hP hF6 rfl
      have eI6 : I197_ = I6 := (dkF_nil hF6).symm
      subst eI6
      refine lv_aload_n hx hb dX6_town_213 rfl (lv_at hl 0 rfl) ?_
      refine lv_iconst (v := 0) hx hb dX6_town_214 (by decide) ?_
      refine dk_put (k := 340) hx hb hts iX6_town_6 tyX6 tyX6_ok nmX6 hown hK hW (dk_at340 hW) hS rfl 6 (by decide) (hts (.fieldLink RX6 82 "DogKingsModel" "taped" "I") (List.mem_of_getElem? (i := 6) rfl)) rfl rfl (Nat.le_of_ble_eq_true rfl) rfl dX6_town_215 (fun I7 H7 L7 eI7 hW hS => ?_)
      have eI7 : I7 = dkU I197_ 340 6 0 := eI7
      have hO := dkO_set hO eI7 (dkN_sub (dkN_lit (x := 0) (0) rfl) rfl)
      have hF := dkF_set hF eI7 rfl
      have hP := dkPP_set hP eI7 rfl
      refine lv_aload_n hx hb dX6_town_218 rfl (lv_at hl 0 rfl) ?_
      refine dk_Vi (As := []) (rest := []) ⟨hx, hb, hml, hown, hts⟩ (fx_X6_isWell_7 l g z I7 (show dkN [(0, 90)] (I7 340 8) from dkN_sub (by rw [eI7, dkU_sn (by decide)]; exact (by rw [hF6 340 8 rfl]; exact f197_1)) rfl) hO) (cwV 0 hts gX6_town_X6_isWell rfl rfl rfl (by decide +kernel) ⟨Nat.le_of_ble_eq_true rfl, Nat.le_of_ble_eq_true rfl⟩) (dk_at340 hW) rfl hK hT hW hS rfl hl.1 rfl (Nat.le_of_ble_eq_true rfl) dX6_town_219 ⟨Nat.zero_le _, Nat.zero_le _⟩ (fun v8 I8 H8 L8 hp8 hW hS => ?_)
      obtain ⟨hF8, hO, hc8⟩ := hp8
      have hF := dkF_call hF hF8 rfl
      have hP := dkPP_F hP hF8 rfl
      have eI8 : I7 = I8 := (dkF_nil hF8).symm
      subst eI8
      obtain ⟨dv8, f8_340_8, x8_0, xr8, -⟩ := hc8
      have w9 : I7 340 8 = I197_ 340 8 := ((by rw [eI7, dkU_sn (by decide)] : I7 340 8 = _).trans ((hF6 340 8 rfl).trans rfl))
      have q10 : (0 : Int) + 0 ≤ (I197_ 340 8).toInt := by have h := x8_0; rw [w9] at h; exact h
      have xv8 : v8 = 0 := by have h := xr8; exact h
      refine lv_if_ne (tgt := 233) hx hb dX6_town_222 (by decide) (fun c11 => ?_) (fun c11 => ?_)
      ·
        exact absurd ((xv8).trans (rfl).symm) c11
      ·
        refine lv_ldc (v := (-1000100)) hx hb hown (hts (.constant RX6 137 (-1000100)) (List.mem_of_getElem? (i := 7) rfl)) dX6_town_225 ?_
        refine lv_aload_n hx hb dX6_town_227 rfl (lv_at hl 0 rfl) ?_
        refine dk_get (k := 340) hx hb hts iX6_town_6 hown hK (dk_at340 hW) rfl 8 (by decide) (hts (.fieldLink RX6 101 "DogKingsModel" "faultPlace" "I") (List.mem_of_getElem? (i := 3) rfl)) rfl dX6_town_228 ?_
        refine lv_topi (fun v12 ev12 => ?_)
        have dv12 : dkN [(0, 90)] v12 := by rw [ev12]; exact f8_340_8
        have xv12 : v12 = I197_ 340 8 := ev12.trans ((hF8 340 8 rfl).trans ((by rw [eI7, dkU_sn (by decide)] : I7 340 8 = _).trans ((hF6 340 8 rfl).trans rfl)))
        refine lv_isub hx hb dX6_town_231 ?_
        refine lv_topi (fun v13 ev13 => ?_)
        have dv13 : dkN [(-1000190, -1000100)] v13 := by rw [ev13]; exact dkN_subt (dkN_lit (x := (-1000100)) (-1000100) rfl) dv12 rfl
        have xv13 : v13 = (-1000100 : Int32) - (I197_ 340 8) := by rw [ev13, xv12]
        have q14 : ((-1000100 : Int32) - (I197_ 340 8)).toInt = (-1000100 : Int) - (I197_ 340 8).toInt := by first | (rw [← xv13, ← xv12]; exact (by rw [ev13]; exact dk_subE (dkN_lit (x := (-1000100)) (-1000100) rfl) dv12 rfl)) | (subst xv13 xv12; exact (by rw [ev13]; exact dk_subE (dkN_lit (x := (-1000100)) (-1000100) rfl) dv12 rfl))
        exact W.iret (v := v13) hx hb hr (fun t ht hW9 => ⟨⟨v13, I7, rfl, ⟨hF, hO, hP, Or.inl ⟨dkN_sub dv13 rfl, (show dkN [(0, 0)] (I7 340 6) from dkN_sub (by rw [hF8 340 6 rfl]; exact (by rw [eI7, dkU_ss]; exact (dkN_lit (x := 0) (0) rfl))) rfl), (show dkN [(1, 3)] (I7 340 7) from dkN_sub (by rw [hF8 340 7 rfl]; exact (by rw [eI7, dkU_sn (by decide)]; exact (by rw [hF6 340 7 rfl]; exact f197_0))) rfl), (show dkN [(0, 90)] (I7 340 8) from dkN_sub f8_340_8 rfl), (show dkN [(0, 0), (3, 9)] (I7 347 0) from dkN_sub (by rw [hF8 347 0 rfl]; exact (by rw [eI7, dkU_n (by decide)]; exact (by rw [hF6 347 0 rfl]; exact f197_2))) rfl), cx197.1, ((xv13).trans (congrArg (fun y => (-1000100 : Int32) - y) cx197.2.2)), (show I7 346 0 = I0 346 0 from ((hF8 346 0 rfl).trans ((by rw [eI7, dkU_n (by decide)] : I7 346 0 = _).trans ((hF6 346 0 rfl).trans (by rw [z197_1]))))), (show I7 346 4 = I0 346 4 from ((hF8 346 4 rfl).trans ((by rw [eI7, dkU_n (by decide)] : I7 346 4 = _).trans ((hF6 346 4 rfl).trans (by rw [z197_1]))))), (show I7 346 5 = I0 346 5 from ((hF8 346 5 rfl).trans ((by rw [eI7, dkU_n (by decide)] : I7 346 5 = _).trans ((hF6 346 5 rfl).trans (by rw [z197_1]))))), (show I7 340 6 = 0 from ((hF8 340 6 rfl).trans (by rw [eI7, dkU_ss]))), (show I7 340 17 = I0 340 17 from ((hF8 340 17 rfl).trans ((by rw [eI7, dkU_sn (by decide)] : I7 340 17 = _).trans ((hF6 340 17 rfl).trans zp197_0)))), (((show I7 340 7 = I197_ 340 7 from ((hF8 340 7 rfl).trans ((by rw [eI7, dkU_sn (by decide)] : I7 340 7 = _).trans ((hF6 340 7 rfl).trans rfl))))).trans cx197.2.1), ((funext fun j => hF8 346 j dkNin_nil).trans ((by rw [eI7, dkU_n (by decide)] : I7 346 = _).trans ((funext fun j => hF6 346 j dkNin_nil).trans z197_1))), trivial⟩⟩, dkW_eq ht hW⟩, hS.F ht⟩) hS.2.2 dX6_town_232
    ·
      have q15 : (I197_ 340 11).toInt = (0 : Int) := by first | (rw [← xv1]; exact (congrArg Int32.toInt c2)) | (subst xv1; exact (congrArg Int32.toInt c2))
      have d16 : dkN [(0, 0)] v1 := dkN_eq1 (dkN_top v1) (dkN_lit (x := 0) (0) rfl) (congrArg Int32.toInt c2) rfl
      have f17 : dkN [(0, 0)] (I197_ 340 11) := by rw [← ev1]; exact d16
      refine lv_iconst (v := 1) hx hb dX6_town_205 (by decide) ?_
      refine lv_goto (tgt := 210) hx hb dX6_town_206 (by decide) ?_
      refine dk_Vv (As := [.int 1]) (rest := []) ⟨hx, hb, hml, hown, hts⟩ (h_X6_must_0 l g z I197_ 1 (show dkN [(0, 90)] (I197_ 340 8) from dkN_sub f197_1 rfl) hO) (cwV 1 hts gX6_town_X6_must rfl rfl rfl (by decide +kernel) ⟨Nat.le_of_ble_eq_true rfl, Nat.le_of_ble_eq_true rfl⟩) (dk_at340 hW) rfl hK hT hW hS rfl hl.1 rfl (Nat.le_of_ble_eq_true rfl) dX6_town_210 ⟨Nat.zero_le _, Nat.zero_le _⟩ (fun I18 H18 L18 hp18 hW hS => ?_)
      obtain ⟨hF18, hO, hc18⟩ := hp18
      have hF := dkF_call hF hF18 rfl
      have hP := dkPP_F hP hF18 rfl
      have eI18 : I197_ = I18 := (dkF_nil hF18).symm
      subst eI18
      refine lv_aload_n hx hb dX6_town_213 rfl (lv_at hl 0 rfl) ?_
      refine lv_iconst (v := 0) hx hb dX6_town_214 (by decide) ?_
      refine dk_put (k := 340) hx hb hts iX6_town_6 tyX6 tyX6_ok nmX6 hown hK hW (dk_at340 hW) hS rfl 6 (by decide) (hts (.fieldLink RX6 82 "DogKingsModel" "taped" "I") (List.mem_of_getElem? (i := 6) rfl)) rfl rfl (Nat.le_of_ble_eq_true rfl) rfl dX6_town_215 (fun I19 H19 L19 eI19 hW hS => ?_)
      have eI19 : I19 = dkU I197_ 340 6 0 := eI19
      have hO := dkO_set hO eI19 (dkN_sub (dkN_lit (x := 0) (0) rfl) rfl)
      have hF := dkF_set hF eI19 rfl
      have hP := dkPP_set hP eI19 rfl
      refine lv_aload_n hx hb dX6_town_218 rfl (lv_at hl 0 rfl) ?_
      refine dk_Vi (As := []) (rest := []) ⟨hx, hb, hml, hown, hts⟩ (fx_X6_isWell_7 l g z I19 (show dkN [(0, 90)] (I19 340 8) from dkN_sub (by rw [eI19, dkU_sn (by decide)]; exact (by rw [hF18 340 8 rfl]; exact f197_1)) rfl) hO) (cwV 0 hts gX6_town_X6_isWell rfl rfl rfl (by decide +kernel) ⟨Nat.le_of_ble_eq_true rfl, Nat.le_of_ble_eq_true rfl⟩) (dk_at340 hW) rfl hK hT hW hS rfl hl.1 rfl (Nat.le_of_ble_eq_true rfl) dX6_town_219 ⟨Nat.zero_le _, Nat.zero_le _⟩ (fun v20 I20 H20 L20 hp20 hW hS => ?_)
      obtain ⟨hF20, hO, hc20⟩ := hp20
      have hF := dkF_call hF hF20 rfl
      have hP := dkPP_F hP hF20 rfl
      have eI20 : I19 = I20 := (dkF_nil hF20).symm
      subst eI20
      obtain ⟨dv20, f20_340_8, x20_0, xr20, -⟩ := hc20
      have w21 : I19 340 8 = I197_ 340 8 := ((by rw [eI19, dkU_sn (by decide)] : I19 340 8 = _).trans ((hF18 340 8 rfl).trans rfl))
      have q22 : (0 : Int) + 0 ≤ (I197_ 340 8).toInt := by have h := x20_0; rw [w21] at h; exact h
      have xv20 : v20 = 0 := by have h := xr20; exact h
      refine lv_if_ne (tgt := 233) hx hb dX6_town_222 (by decide) (fun c23 => ?_) (fun c23 => ?_)
      ·
        exact absurd ((xv20).trans (rfl).symm) c23
      ·
        refine lv_ldc (v := (-1000100)) hx hb hown (hts (.constant RX6 137 (-1000100)) (List.mem_of_getElem? (i := 7) rfl)) dX6_town_225 ?_
        refine lv_aload_n hx hb dX6_town_227 rfl (lv_at hl 0 rfl) ?_
        refine dk_get (k := 340) hx hb hts iX6_town_6 hown hK (dk_at340 hW) rfl 8 (by decide) (hts (.fieldLink RX6 101 "DogKingsModel" "faultPlace" "I") (List.mem_of_getElem? (i := 3) rfl)) rfl dX6_town_228 ?_
        refine lv_topi (fun v24 ev24 => ?_)
        have dv24 : dkN [(0, 90)] v24 := by rw [ev24]; exact f20_340_8
        have xv24 : v24 = I197_ 340 8 := ev24.trans ((hF20 340 8 rfl).trans ((by rw [eI19, dkU_sn (by decide)] : I19 340 8 = _).trans ((hF18 340 8 rfl).trans rfl)))
        refine lv_isub hx hb dX6_town_231 ?_
        refine lv_topi (fun v25 ev25 => ?_)
        have dv25 : dkN [(-1000190, -1000100)] v25 := by rw [ev25]; exact dkN_subt (dkN_lit (x := (-1000100)) (-1000100) rfl) dv24 rfl
        have xv25 : v25 = (-1000100 : Int32) - (I197_ 340 8) := by rw [ev25, xv24]
        have q26 : ((-1000100 : Int32) - (I197_ 340 8)).toInt = (-1000100 : Int) - (I197_ 340 8).toInt := by first | (rw [← xv25, ← xv24]; exact (by rw [ev25]; exact dk_subE (dkN_lit (x := (-1000100)) (-1000100) rfl) dv24 rfl)) | (subst xv25 xv24; exact (by rw [ev25]; exact dk_subE (dkN_lit (x := (-1000100)) (-1000100) rfl) dv24 rfl))
        exact W.iret (v := v25) hx hb hr (fun t ht hW9 => ⟨⟨v25, I19, rfl, ⟨hF, hO, hP, Or.inl ⟨dkN_sub dv25 rfl, (show dkN [(0, 0)] (I19 340 6) from dkN_sub (by rw [hF20 340 6 rfl]; exact (by rw [eI19, dkU_ss]; exact (dkN_lit (x := 0) (0) rfl))) rfl), (show dkN [(1, 3)] (I19 340 7) from dkN_sub (by rw [hF20 340 7 rfl]; exact (by rw [eI19, dkU_sn (by decide)]; exact (by rw [hF18 340 7 rfl]; exact f197_0))) rfl), (show dkN [(0, 90)] (I19 340 8) from dkN_sub f20_340_8 rfl), (show dkN [(0, 0), (3, 9)] (I19 347 0) from dkN_sub (by rw [hF20 347 0 rfl]; exact (by rw [eI19, dkU_n (by decide)]; exact (by rw [hF18 347 0 rfl]; exact f197_2))) rfl), cx197.1, ((xv25).trans (congrArg (fun y => (-1000100 : Int32) - y) cx197.2.2)), (show I19 346 0 = I0 346 0 from ((hF20 346 0 rfl).trans ((by rw [eI19, dkU_n (by decide)] : I19 346 0 = _).trans ((hF18 346 0 rfl).trans (by rw [z197_1]))))), (show I19 346 4 = I0 346 4 from ((hF20 346 4 rfl).trans ((by rw [eI19, dkU_n (by decide)] : I19 346 4 = _).trans ((hF18 346 4 rfl).trans (by rw [z197_1]))))), (show I19 346 5 = I0 346 5 from ((hF20 346 5 rfl).trans ((by rw [eI19, dkU_n (by decide)] : I19 346 5 = _).trans ((hF18 346 5 rfl).trans (by rw [z197_1]))))), (show I19 340 6 = 0 from ((hF20 340 6 rfl).trans (by rw [eI19, dkU_ss]))), (show I19 340 17 = I0 340 17 from ((hF20 340 17 rfl).trans ((by rw [eI19, dkU_sn (by decide)] : I19 340 17 = _).trans ((hF18 340 17 rfl).trans zp197_0)))), (((show I19 340 7 = I197_ 340 7 from ((hF20 340 7 rfl).trans ((by rw [eI19, dkU_sn (by decide)] : I19 340 7 = _).trans ((hF18 340 7 rfl).trans rfl))))).trans cx197.2.1), ((funext fun j => hF20 346 j dkNin_nil).trans ((by rw [eI19, dkU_n (by decide)] : I19 346 = _).trans ((funext fun j => hF18 346 j dkNin_nil).trans z197_1))), trivial⟩⟩, dkW_eq ht hW⟩, hS.F ht⟩) hS.2.2 dX6_town_232
  have C165 : ∀ (n : Nat), ∀ (I : dkI) (H : Heap) (locs : List Loc) (ls : Array Slot) (x165_1 : Int32), (7 - (I 347 5).toInt).toNat < n → dkW g z I H → va_S (dkA z) s.heap H locs → dkF [(340, 340, 6, 12), (340, 340, 17, 17), (346, 346, 0, 53), (347, 347, 0, 53)] I0 I → dkOk I → dkPP I → dkN [(54, 54)] x165_1 → dkN [(0, 5)] (I 340 11) → dkN [(-1, -1)] (I 340 8) → dkN [(3, 9)] (I 347 0) → dkN [(1, 30)] (I 347 1) → dkN [(1, 5)] (I 347 4) → I 345 = I0 345 → I 346 = I0 346 → I 340 17 = I0 340 17 → I 340 6 = I0 340 6 → I 340 7 = I0 340 7 → I 346 0 = I0 346 0 → I 346 4 = I0 346 4 → I 346 5 = I0 346 5 → I 347 0 = dkTv (I0 345) (I0 340 6) (dkTe (I0 345) (I0 340 6) (0)) → (dkTk (I0 345) (I0 340 6) (0)).toInt = (1 : Int) → (dkTv (I0 345) (I0 340 6) (0)).toInt = (116 : Int) → (dkTk (I0 345) (I0 340 6) (dkTe (I0 345) (I0 340 6) (0))).toInt = (2 : Int) → (3 : Int) + 0 ≤ (dkTv (I0 345) (I0 340 6) (dkTe (I0 345) (I0 340 6) (0))).toInt → (dkTv (I0 345) (I0 340 6) (dkTe (I0 345) (I0 340 6) (0))).toInt + 0 ≤ (9 : Int) → (dkTk (I0 345) (I0 340 6) (dkTe (I0 345) (I0 340 6) (dkTe (I0 345) (I0 340 6) (0)))).toInt = (3 : Int) → (dkTk (I0 345) (I0 340 6) (dkTe (I0 345) (I0 340 6) (dkTe (I0 345) (I0 340 6) (dkTe (I0 345) (I0 340 6) (0))))).toInt = (2 : Int) → (1 : Int) + 0 ≤ (dkTv (I0 345) (I0 340 6) (dkTe (I0 345) (I0 340 6) (dkTe (I0 345) (I0 340 6) (dkTe (I0 345) (I0 340 6) (0))))).toInt → (dkTv (I0 345) (I0 340 6) (dkTe (I0 345) (I0 340 6) (dkTe (I0 345) (I0 340 6) (dkTe (I0 345) (I0 340 6) (0))))).toInt + 0 ≤ (30 : Int) → (dkTk (I0 345) (I0 340 6) (dkTe (I0 345) (I0 340 6) (dkTe (I0 345) (I0 340 6) (dkTe (I0 345) (I0 340 6) (dkTe (I0 345) (I0 340 6) (0)))))).toInt = (4 : Int) → (dkTk (I0 345) (I0 340 6) (dkTe (I0 345) (I0 340 6) (dkTe (I0 345) (I0 340 6) (dkTe (I0 345) (I0 340 6) (dkTe (I0 345) (I0 340 6) (dkTe (I0 345) (I0 340 6) (0))))))).toInt = (1 : Int) → (dkTv (I0 345) (I0 340 6) (dkTe (I0 345) (I0 340 6) (dkTe (I0 345) (I0 340 6) (dkTe (I0 345) (I0 340 6) (dkTe (I0 345) (I0 340 6) (dkTe (I0 345) (I0 340 6) (0))))))).toInt = (109 : Int) → (dkMb (I0 345) (I0 340 6) (dkTv (I0 345) (I0 340 6) (dkTe (I0 345) (I0 340 6) (0))) (dkTe (I0 345) (I0 340 6) (dkTe (I0 345) (I0 340 6) (dkTe (I0 345) (I0 340 6) (dkTe (I0 345) (I0 340 6) (dkTe (I0 345) (I0 340 6) (dkTe (I0 345) (I0 340 6) (0)))))))).1 = 0 → (dkSy (I0 345) (I0 340 6) I ∧ dkX5 (I0 345) (I0 340 6) (dkTv (I0 345) (I0 340 6) (dkTe (I0 345) (I0 340 6) (0))) (dkTe (I0 345) (I0 340 6) (dkTe (I0 345) (I0 340 6) (dkTe (I0 345) (I0 340 6) (dkTe (I0 345) (I0 340 6) (dkTe (I0 345) (I0 340 6) (0)))))) (I 347 4) (I 340 10) (I 347 5) (fun j => I 347 (36 + 3 * j))) → lv_has ls 2 [(0, .ref (z + 340)), (1, .int x165_1)] → W p l e (headSpec wsX6_town (dkR 6)).room s m args below meth c H locs 0 0 (MQ below (dkQi g z (fun r I1 => dkF [(340, 340, 6, 12), (340, 340, 17, 17), (346, 346, 0, 53), (347, 347, 0, 53)] I0 I1 ∧ dkOk I1 ∧ dkPP I1 ∧ ((dkN [(-1000190, -1000100)] r ∧ dkN [(0, 0)] (I1 340 6) ∧ dkN [(1, 3)] (I1 340 7) ∧ dkN [(0, 90)] (I1 340 8) ∧ dkN [(0, 0), (3, 9)] (I1 347 0) ∧ (dkTw (I0 345) (I0 340 6)).1 ≠ 0 ∧ r = (-1000100 : Int32) - (dkTw (I0 345) (I0 340 6)).2 ∧ I1 346 0 = I0 346 0 ∧ I1 346 4 = I0 346 4 ∧ I1 346 5 = I0 346 5 ∧ I1 340 6 = 0 ∧ I1 340 17 = I0 340 17 ∧ I1 340 7 = (dkTw (I0 345) (I0 340 6)).1 ∧ I1 346  = I0 346 ∧ True) ∨ (dkN [(0, 6)] r ∧ dkN [(0, 0)] (I1 340 11) ∧ dkN [(0, 0)] (I1 340 17) ∧ dkN [(0, 0)] (I1 340 6) ∧ dkN [(-1, -1)] (I1 340 8) ∧ dkN [(3, 9)] (I1 346 0) ∧ dkN [(1, 30)] (I1 346 1) ∧ dkN [(1, 5)] (I1 346 4) ∧ dkN [(3, 9)] (I1 347 0) ∧ dkN [(1, 30)] (I1 347 1) ∧ dkN [(1, 5)] (I1 347 4) ∧ (dkTw (I0 345) (I0 340 6)).1 = 0 ∧ r = dkTd (I0 345) (I0 340 6) ∧ I1 346 0 = dkHh (I0 345) (I0 340 6) ∧ I1 346 4 = dkTp (I0 345) (I0 340 6) ∧ I1 346 5 = dkTd (I0 345) (I0 340 6) ∧ I1 340 6 = 0 ∧ I1 340 17 = 0 ∧ I1 340 7 = I0 340 7 ∧ (∀ j : Nat, j < Int32.toNatClampNeg (dkTd (I0 345) (I0 340 6)) → I1 346 (36 + 3 * j) = dkSs (I0 345) (I0 340 6) j) ∧ True)))) args s 0 0 (dkA z)) (F0 m 165 ls []) := by
    intro n
    induction n with
    | zero => intro I H locs ls x165_1 hn; exact absurd hn (Nat.not_lt_zero _)
    | succ n ih165 =>
      intro I165_ H locs ls x165_1 hn165 hW hS hF_165 hO hP k165_0 f165_0 f165_1 f165_2 f165_3 f165_4 z165_0 z165_1 zp165_0 zp165_1 zp165_2 zp165_3 zp165_4 zp165_5 zp165_6 y165_0 y165_1 y165_2 y165_3 y165_4 y165_5 y165_6 y165_7 y165_8 y165_9 y165_10 y165_11 y165_12 cx165 hl
      have hF := hF_165
      refine lv_aload_n hx hb dX6_town_165 rfl (lv_at hl 0 rfl) ?_
      refine dk_Vi (As := []) (rest := []) ⟨hx, hb, hml, hown, hts⟩ (fx_X6_isWell_6 l g z I165_ (show dkN [(-1, -1)] (I165_ 340 8) from dkN_sub f165_1 rfl) hO) (cwV 0 hts gX6_town_X6_isWell rfl rfl rfl (by decide +kernel) ⟨Nat.le_of_ble_eq_true rfl, Nat.le_of_ble_eq_true rfl⟩) (dk_at340 hW) rfl hK hT hW hS rfl hl.1 rfl (Nat.le_of_ble_eq_true rfl) dX6_town_166 ⟨Nat.zero_le _, Nat.zero_le _⟩ (fun v27 I27 H27 L27 hp27 hW hS => ?_)
      obtain ⟨hF27, hO, hc27⟩ := hp27
      have hF := dkF_call hF hF27 rfl
      have hP := dkPP_F hP hF27 rfl
      have eI27 : I165_ = I27 := (dkF_nil hF27).symm
      subst eI27
      obtain ⟨dv27, f27_340_8, x27_0, xr27, -⟩ := hc27
      have w28 : I165_ 340 8 = I165_ 340 8 := rfl
      have q29 : (I165_ 340 8).toInt + 1 ≤ (0 : Int) := by have h := x27_0; rw [w28] at h; exact h
      have xv27 : v27 = 1 := by have h := xr27; exact h
      refine lv_if_eq (tgt := 197) hx hb dX6_town_169 (by decide) (fun c30 => ?_) (fun c30 => ?_)
      ·
        exact (dkN_nil (show dkN [] v27 from dkN_eq1 dv27 (dkN_lit (x := 0) (0) rfl) (congrArg Int32.toInt c30) rfl)).elim
      ·
        refine lv_aload_n hx hb dX6_town_172 rfl (lv_at hl 0 rfl) ?_
        refine dk_get (k := 340) hx hb hts iX6_town_6 hown hK (dk_at340 hW) rfl 11 (by decide) (hts (.fieldLink RX6 98 "DogKingsModel" "token" "I") (List.mem_of_getElem? (i := 4) rfl)) rfl dX6_town_173 ?_
        refine lv_topi (fun v31 ev31 => ?_)
        have dv31 : dkN [(0, 5)] v31 := by rw [ev31]; exact (by rw [hF27 340 11 rfl]; exact f165_0)
        have xv31 : v31 = dkTk (I0 345) (I0 340 6) (I165_ 340 10) := ev31.trans ((hF27 340 11 rfl).trans cx165.1.1)
        refine lv_iconst (v := 1) hx hb dX6_town_176 (by decide) ?_
        refine lv_icmp_ne (tgt := 197) hx hb dX6_town_177 (by decide) (fun c32 => ?_) (fun c32 => ?_)
        ·
          have q33 : (dkTk (I0 345) (I0 340 6) (I165_ 340 10)).toInt ≠ (1 : Int) := by first | (rw [← xv31]; exact (dk_ne c32)) | (subst xv31; exact (dk_ne c32))
          have d34 : dkN [(0, 0), (2, 5)] v31 := dkN_ne1 (1) dv31 (dkN_lit (x := 1) (1) rfl) (dk_ne c32) rfl
          have f35 : dkN [(0, 0), (2, 5)] (I165_ 340 11) := by rw [← ev31]; exact d34
          refine lv_aload_n hx hb dX6_town_197 rfl (lv_at hl 0 rfl) ?_
          refine lv_aload_n hx hb dX6_town_198 rfl (lv_at hl 0 rfl) ?_
          refine dk_get (k := 340) hx hb hts iX6_town_6 hown hK (dk_at340 hW) rfl 11 (by decide) (hts (.fieldLink RX6 98 "DogKingsModel" "token" "I") (List.mem_of_getElem? (i := 4) rfl)) rfl dX6_town_199 ?_
          refine lv_topi (fun v36 ev36 => ?_)
          have dv36 : dkN [(0, 0), (2, 5)] v36 := by rw [ev36]; exact f35
          have xv36 : v36 = dkTk (I0 345) (I0 340 6) (I165_ 340 10) := ev36.trans ((hF27 340 11 rfl).trans cx165.1.1)
          refine lv_if_ne (tgt := 209) hx hb dX6_town_202 (by decide) (fun c37 => ?_) (fun c37 => ?_)
          ·
            have q38 : (dkTk (I0 345) (I0 340 6) (I165_ 340 10)).toInt ≠ (0 : Int) := by first | (rw [← xv36]; exact (dk_ne c37)) | (subst xv36; exact (dk_ne c37))
            have d39 : dkN [(2, 5)] v36 := dkN_ne1 (0) dv36 (dkN_lit (x := 0) (0) rfl) (dk_ne c37) rfl
            have f40 : dkN [(2, 5)] (I165_ 340 11) := by rw [← ev36]; exact d39
            refine lv_iconst (v := 0) hx hb dX6_town_209 (by decide) ?_
            refine dk_Vv (As := [.int 0]) (rest := []) ⟨hx, hb, hml, hown, hts⟩ (fx_X6_must_8 l g z I165_ 0 (dkN_lit (x := 0) (0) rfl) (show dkN [(-1, -1)] (I165_ 340 8) from dkN_sub f27_340_8 rfl) hO) (cwV 1 hts gX6_town_X6_must rfl rfl rfl (by decide +kernel) ⟨Nat.le_of_ble_eq_true rfl, Nat.le_of_ble_eq_true rfl⟩) (dk_at340 hW) rfl hK hT hW hS rfl hl.1 rfl (Nat.le_of_ble_eq_true rfl) dX6_town_210 ⟨Nat.zero_le _, Nat.zero_le _⟩ (fun I41 H41 L41 hp41 hW hS => ?_)
            obtain ⟨hF41, hO, hc41⟩ := hp41
            have hF := dkF_call hF hF41 rfl
            have hP := dkPP_F hP hF41 rfl
            obtain ⟨f41_340_7, f41_340_8, x41_0, x41_1, xh41_0, xh41_1, xh41_2, xh41_3, xh41_4, xh41_5, -⟩ := hc41
            have w42 : I165_ 340 8 = I165_ 340 8 := ((hF27 340 8 rfl).trans rfl)
            have y43 : I41 340 7 = 1 := by have h := xh41_0; exact h
            have w44 : I165_ 340 10 = I165_ 340 10 := ((hF27 340 10 rfl).trans rfl)
            have y45 : I41 340 8 = I165_ 340 10 := by have h := xh41_1; rw [w44] at h; exact h
            have w46 : I165_ 340 9 = dkTe (I0 345) (I0 340 6) (I165_ 340 10) := ((hF27 340 9 rfl).trans cx165.1.2.2)
            have y47 : I41 340 9 = dkTe (I0 345) (I0 340 6) (I165_ 340 10) := by have h := xh41_2; rw [w46] at h; exact h
            have y48 : I41 340 10 = I165_ 340 10 := by have h := xh41_3; rw [w44] at h; exact h
            have w49 : I165_ 340 11 = dkTk (I0 345) (I0 340 6) (I165_ 340 10) := ((hF27 340 11 rfl).trans cx165.1.1)
            have y50 : I41 340 11 = dkTk (I0 345) (I0 340 6) (I165_ 340 10) := by have h := xh41_4; rw [w49] at h; exact h
            have w51 : I165_ 340 12 = dkTv (I0 345) (I0 340 6) (I165_ 340 10) := ((hF27 340 12 rfl).trans cx165.1.2.1)
            have y52 : I41 340 12 = dkTv (I0 345) (I0 340 6) (I165_ 340 10) := by have h := xh41_5; rw [w51] at h; exact h
            refine lv_aload_n hx hb dX6_town_213 rfl (lv_at hl 0 rfl) ?_
            refine lv_iconst (v := 0) hx hb dX6_town_214 (by decide) ?_
            refine dk_put (k := 340) hx hb hts iX6_town_6 tyX6 tyX6_ok nmX6 hown hK hW (dk_at340 hW) hS rfl 6 (by decide) (hts (.fieldLink RX6 82 "DogKingsModel" "taped" "I") (List.mem_of_getElem? (i := 6) rfl)) rfl rfl (Nat.le_of_ble_eq_true rfl) rfl dX6_town_215 (fun I53 H53 L53 eI53 hW hS => ?_)
            have eI53 : I53 = dkU I41 340 6 0 := eI53
            have hO := dkO_set hO eI53 (dkN_sub (dkN_lit (x := 0) (0) rfl) rfl)
            have hF := dkF_set hF eI53 rfl
            have hP := dkPP_set hP eI53 rfl
            refine lv_aload_n hx hb dX6_town_218 rfl (lv_at hl 0 rfl) ?_
            refine dk_Vi (As := []) (rest := []) ⟨hx, hb, hml, hown, hts⟩ (fx_X6_isWell_7 l g z I53 (show dkN [(0, 90)] (I53 340 8) from dkN_sub (by rw [eI53, dkU_sn (by decide)]; exact f41_340_8) rfl) hO) (cwV 0 hts gX6_town_X6_isWell rfl rfl rfl (by decide +kernel) ⟨Nat.le_of_ble_eq_true rfl, Nat.le_of_ble_eq_true rfl⟩) (dk_at340 hW) rfl hK hT hW hS rfl hl.1 rfl (Nat.le_of_ble_eq_true rfl) dX6_town_219 ⟨Nat.zero_le _, Nat.zero_le _⟩ (fun v54 I54 H54 L54 hp54 hW hS => ?_)
            obtain ⟨hF54, hO, hc54⟩ := hp54
            have hF := dkF_call hF hF54 rfl
            have hP := dkPP_F hP hF54 rfl
            have eI54 : I53 = I54 := (dkF_nil hF54).symm
            subst eI54
            obtain ⟨dv54, f54_340_8, x54_0, xr54, -⟩ := hc54
            have w55 : I53 340 8 = I165_ 340 10 := ((by rw [eI53, dkU_sn (by decide)] : I53 340 8 = _).trans y45)
            have q56 : (0 : Int) + 0 ≤ (I165_ 340 10).toInt := by have h := x54_0; rw [w55] at h; exact h
            have xv54 : v54 = 0 := by have h := xr54; exact h
            refine lv_if_ne (tgt := 233) hx hb dX6_town_222 (by decide) (fun c57 => ?_) (fun c57 => ?_)
            ·
              exact absurd ((xv54).trans (rfl).symm) c57
            ·
              refine lv_ldc (v := (-1000100)) hx hb hown (hts (.constant RX6 137 (-1000100)) (List.mem_of_getElem? (i := 7) rfl)) dX6_town_225 ?_
              refine lv_aload_n hx hb dX6_town_227 rfl (lv_at hl 0 rfl) ?_
              refine dk_get (k := 340) hx hb hts iX6_town_6 hown hK (dk_at340 hW) rfl 8 (by decide) (hts (.fieldLink RX6 101 "DogKingsModel" "faultPlace" "I") (List.mem_of_getElem? (i := 3) rfl)) rfl dX6_town_228 ?_
              refine lv_topi (fun v58 ev58 => ?_)
              have dv58 : dkN [(0, 90)] v58 := by rw [ev58]; exact f54_340_8
              have xv58 : v58 = I165_ 340 10 := ev58.trans ((hF54 340 8 rfl).trans ((by rw [eI53, dkU_sn (by decide)] : I53 340 8 = _).trans y45))
              refine lv_isub hx hb dX6_town_231 ?_
              refine lv_topi (fun v59 ev59 => ?_)
              have dv59 : dkN [(-1000190, -1000100)] v59 := by rw [ev59]; exact dkN_subt (dkN_lit (x := (-1000100)) (-1000100) rfl) dv58 rfl
              have xv59 : v59 = (-1000100 : Int32) - (I165_ 340 10) := by rw [ev59, xv58]
              have q60 : ((-1000100 : Int32) - (I165_ 340 10)).toInt = (-1000100 : Int) - (I165_ 340 10).toInt := by first | (rw [← xv59, ← xv58]; exact (by rw [ev59]; exact dk_subE (dkN_lit (x := (-1000100)) (-1000100) rfl) dv58 rfl)) | (subst xv59 xv58; exact (by rw [ev59]; exact dk_subE (dkN_lit (x := (-1000100)) (-1000100) rfl) dv58 rfl))
              have i0 : (0 : Int32).toInt = 0 := rfl
              have i1 : (1 : Int32).toInt = 1 := rfl
              have i2 : (2 : Int32).toInt = 2 := rfl
              have i3 : (3 : Int32).toInt = 3 := rfl
              have i9 : (9 : Int32).toInt = 9 := rfl
              have i30 : (30 : Int32).toInt = 30 := rfl
              have i44 : (44 : Int32).toInt = 44 := rfl
              have i59 : (59 : Int32).toInt = 59 := rfl
              have i109 : (109 : Int32).toInt = 109 := rfl
              have i116 : (116 : Int32).toInt = 116 := rfl
              have hlw : dkLw (I0 345) (I0 340 6) 0 = (0, dkTe (I0 345) (I0 340 6) (dkTe (I0 345) (I0 340 6) (dkTe (I0 345) (I0 340 6) (dkTe (I0 345) (I0 340 6) (dkTe (I0 345) (I0 340 6) (0)))))) := ((dkTh_p (dkK_l (T := (I0 345)) (n := (I0 340 6)) (a := 0) (c := 116) y165_0 (by omega))).trans ((dkTh_p (dkK_0 (T := (I0 345)) (n := (I0 340 6)) (a := dkTe (I0 345) (I0 340 6) (0)) (lo := 3) (hi := 9) y165_2 (by omega) (by omega))).trans ((dkTh_p (dkK_c (T := (I0 345)) (n := (I0 340 6)) (a := dkTe (I0 345) (I0 340 6) (dkTe (I0 345) (I0 340 6) (0))) y165_5)).trans ((dkTh_p (dkK_0 (T := (I0 345)) (n := (I0 340 6)) (a := dkTe (I0 345) (I0 340 6) (dkTe (I0 345) (I0 340 6) (dkTe (I0 345) (I0 340 6) (0)))) (lo := 1) (hi := 30) y165_6 (by omega) (by omega))).trans (dkK_s (T := (I0 345)) (n := (I0 340 6)) (a := dkTe (I0 345) (I0 340 6) (dkTe (I0 345) (I0 340 6) (dkTe (I0 345) (I0 340 6) (dkTe (I0 345) (I0 340 6) (0))))) y165_9)))))
              have hhh : dkHh (I0 345) (I0 340 6) = (dkTv (I0 345) (I0 340 6) (dkTe (I0 345) (I0 340 6) (0))) := (by unfold dkHh; rw [show dkSg (I0 345) (I0 340 6) 116 0 = (0, dkTe (I0 345) (I0 340 6) (0)) from dkK_l (T := (I0 345)) (n := (I0 340 6)) (a := 0) (c := 116) y165_0 (by omega)]; exact (dkK_v (T := (I0 345)) (n := (I0 340 6)) (a := dkTe (I0 345) (I0 340 6) (0)) (by omega)).symm)
              have hps : dkPs (I0 345) (I0 340 6) (dkTv (I0 345) (I0 340 6) (dkTe (I0 345) (I0 340 6) (0))) (dkTe (I0 345) (I0 340 6) (dkTe (I0 345) (I0 340 6) (dkTe (I0 345) (I0 340 6) (dkTe (I0 345) (I0 340 6) (dkTe (I0 345) (I0 340 6) (0)))))) = dkPw (I0 345) (I0 340 6) (dkTv (I0 345) (I0 340 6) (dkTe (I0 345) (I0 340 6) (0))) 5 (dkTe (I0 345) (I0 340 6) (dkTe (I0 345) (I0 340 6) (dkTe (I0 345) (I0 340 6) (dkTe (I0 345) (I0 340 6) (dkTe (I0 345) (I0 340 6) (0)))))) := dkPs_w (dkK_l (T := (I0 345)) (n := (I0 340 6)) (a := dkTe (I0 345) (I0 340 6) (dkTe (I0 345) (I0 340 6) (dkTe (I0 345) (I0 340 6) (dkTe (I0 345) (I0 340 6) (dkTe (I0 345) (I0 340 6) (0)))))) (c := 109) y165_10 (by omega))
              obtain ⟨c9, g1, g2, g3⟩ := cx165.2
              have hp2 := hps.trans g1
              have e61 : dkTw (I0 345) (I0 340 6) = (1, I165_ 340 10) := (dkTw_d hlw hhh hp2).trans (dkX2_u g3.1 (by omega) (Or.inl (by omega)))
              exact W.iret (v := v59) hx hb hr (fun t ht hW9 => ⟨⟨v59, I53, rfl, ⟨hF, hO, hP, Or.inl ⟨dkN_sub dv59 rfl, (show dkN [(0, 0)] (I53 340 6) from dkN_sub (by rw [hF54 340 6 rfl]; exact (by rw [eI53, dkU_ss]; exact (dkN_lit (x := 0) (0) rfl))) rfl), (show dkN [(1, 3)] (I53 340 7) from dkN_sub (by rw [hF54 340 7 rfl]; exact (by rw [eI53, dkU_sn (by decide)]; exact f41_340_7)) rfl), (show dkN [(0, 90)] (I53 340 8) from dkN_sub f54_340_8 rfl), (show dkN [(0, 0), (3, 9)] (I53 347 0) from dkN_sub (by rw [hF54 347 0 rfl]; exact (by rw [eI53, dkU_n (by decide)]; exact (by rw [hF41 347 0 rfl]; exact (by rw [hF27 347 0 rfl]; exact f165_2)))) rfl), (dkE_k e61 (by decide)), ((xv59).trans (congrArg (fun y => (-1000100 : Int32) - y) (dkP_2 e61).symm)), (show I53 346 0 = I0 346 0 from ((hF54 346 0 rfl).trans ((by rw [eI53, dkU_n (by decide)] : I53 346 0 = _).trans ((hF41 346 0 rfl).trans ((hF27 346 0 rfl).trans (by rw [z165_1])))))), (show I53 346 4 = I0 346 4 from ((hF54 346 4 rfl).trans ((by rw [eI53, dkU_n (by decide)] : I53 346 4 = _).trans ((hF41 346 4 rfl).trans ((hF27 346 4 rfl).trans (by rw [z165_1])))))), (show I53 346 5 = I0 346 5 from ((hF54 346 5 rfl).trans ((by rw [eI53, dkU_n (by decide)] : I53 346 5 = _).trans ((hF41 346 5 rfl).trans ((hF27 346 5 rfl).trans (by rw [z165_1])))))), (show I53 340 6 = 0 from ((hF54 340 6 rfl).trans (by rw [eI53, dkU_ss]))), (show I53 340 17 = I0 340 17 from ((hF54 340 17 rfl).trans ((by rw [eI53, dkU_sn (by decide)] : I53 340 17 = _).trans ((hF41 340 17 rfl).trans ((hF27 340 17 rfl).trans zp165_0))))), (((show I53 340 7 = 1 from ((hF54 340 7 rfl).trans ((by rw [eI53, dkU_sn (by decide)] : I53 340 7 = _).trans y43)))).trans (dkP_1 e61).symm), ((funext fun j => hF54 346 j dkNin_nil).trans ((by rw [eI53, dkU_n (by decide)] : I53 346 = _).trans ((funext fun j => hF41 346 j (dkNin_k rfl dkNin_nil)).trans ((funext fun j => hF27 346 j dkNin_nil).trans z165_1)))), trivial⟩⟩, dkW_eq ht hW⟩, hS.F ht⟩) hS.2.2 dX6_town_232
          ·
            have q62 : (dkTk (I0 345) (I0 340 6) (I165_ 340 10)).toInt = (0 : Int) := by first | (rw [← xv36]; exact (congrArg Int32.toInt c37)) | (subst xv36; exact (congrArg Int32.toInt c37))
            have d63 : dkN [(0, 0)] v36 := dkN_eq1 dv36 (dkN_lit (x := 0) (0) rfl) (congrArg Int32.toInt c37) rfl
            have f64 : dkN [(0, 0)] (I165_ 340 11) := by rw [← ev36]; exact d63
            refine lv_iconst (v := 1) hx hb dX6_town_205 (by decide) ?_
            refine lv_goto (tgt := 210) hx hb dX6_town_206 (by decide) ?_
            refine dk_Vv (As := [.int 1]) (rest := []) ⟨hx, hb, hml, hown, hts⟩ (fx_X6_must_9 l g z I165_ 1 (dkN_lit (x := 1) (1) rfl) (show dkN [(-1, -1)] (I165_ 340 8) from dkN_sub f27_340_8 rfl) hO) (cwV 1 hts gX6_town_X6_must rfl rfl rfl (by decide +kernel) ⟨Nat.le_of_ble_eq_true rfl, Nat.le_of_ble_eq_true rfl⟩) (dk_at340 hW) rfl hK hT hW hS rfl hl.1 rfl (Nat.le_of_ble_eq_true rfl) dX6_town_210 ⟨Nat.zero_le _, Nat.zero_le _⟩ (fun I65 H65 L65 hp65 hW hS => ?_)
            obtain ⟨hF65, hO, hc65⟩ := hp65
            have hF := dkF_call hF hF65 rfl
            have hP := dkPP_F hP hF65 rfl
            have eI65 : I165_ = I65 := (dkF_nil hF65).symm
            subst eI65
            obtain ⟨f65_340_8, x65_0, x65_1, xh65_0, xh65_1, xh65_2, xh65_3, xh65_4, xh65_5, -⟩ := hc65
            have w66 : I165_ 340 8 = I165_ 340 8 := ((hF27 340 8 rfl).trans rfl)
            refine lv_aload_n hx hb dX6_town_213 rfl (lv_at hl 0 rfl) ?_
            refine lv_iconst (v := 0) hx hb dX6_town_214 (by decide) ?_
            refine dk_put (k := 340) hx hb hts iX6_town_6 tyX6 tyX6_ok nmX6 hown hK hW (dk_at340 hW) hS rfl 6 (by decide) (hts (.fieldLink RX6 82 "DogKingsModel" "taped" "I") (List.mem_of_getElem? (i := 6) rfl)) rfl rfl (Nat.le_of_ble_eq_true rfl) rfl dX6_town_215 (fun I67 H67 L67 eI67 hW hS => ?_)
            have eI67 : I67 = dkU I165_ 340 6 0 := eI67
            have hO := dkO_set hO eI67 (dkN_sub (dkN_lit (x := 0) (0) rfl) rfl)
            have hF := dkF_set hF eI67 rfl
            have hP := dkPP_set hP eI67 rfl
            refine lv_aload_n hx hb dX6_town_218 rfl (lv_at hl 0 rfl) ?_
            refine dk_Vi (As := []) (rest := []) ⟨hx, hb, hml, hown, hts⟩ (fx_X6_isWell_6 l g z I67 (show dkN [(-1, -1)] (I67 340 8) from dkN_sub (by rw [eI67, dkU_sn (by decide)]; exact f65_340_8) rfl) hO) (cwV 0 hts gX6_town_X6_isWell rfl rfl rfl (by decide +kernel) ⟨Nat.le_of_ble_eq_true rfl, Nat.le_of_ble_eq_true rfl⟩) (dk_at340 hW) rfl hK hT hW hS rfl hl.1 rfl (Nat.le_of_ble_eq_true rfl) dX6_town_219 ⟨Nat.zero_le _, Nat.zero_le _⟩ (fun v68 I68 H68 L68 hp68 hW hS => ?_)
            obtain ⟨hF68, hO, hc68⟩ := hp68
            have hF := dkF_call hF hF68 rfl
            have hP := dkPP_F hP hF68 rfl
            have eI68 : I67 = I68 := (dkF_nil hF68).symm
            subst eI68
            obtain ⟨dv68, f68_340_8, x68_0, xr68, -⟩ := hc68
            have w69 : I67 340 8 = I165_ 340 8 := ((by rw [eI67, dkU_sn (by decide)] : I67 340 8 = _).trans ((hF65 340 8 rfl).trans ((hF27 340 8 rfl).trans rfl)))
            have xv68 : v68 = 1 := by have h := xr68; exact h
            refine lv_if_ne (tgt := 233) hx hb dX6_town_222 (by decide) (fun c70 => ?_) (fun c70 => ?_)
            ·
              refine lv_aload_n hx hb dX6_town_233 rfl (lv_at hl 0 rfl) ?_
              refine dk_get (k := 340) hx hb hts iX6_town_6 hown hK (dk_at340 hW) rfl 14 (by decide) (hts (.fieldLink RX6 28 "DogKingsModel" "draft" "[I") (List.mem_of_getElem? (i := 1) rfl)) rfl dX6_town_234 ?_
              refine lv_iconst (v := 0) hx hb dX6_town_237 (by decide) ?_
              refine lv_aload_n hx hb dX6_town_238 rfl (lv_at hl 0 rfl) ?_
              refine dk_get (k := 340) hx hb hts iX6_town_6 hown hK (dk_at340 hW) rfl 13 (by decide) (hts (.fieldLink RX6 25 "DogKingsModel" "now" "[I") (List.mem_of_getElem? (i := 8) rfl)) rfl dX6_town_239 ?_
              refine lv_iconst (v := 0) hx hb dX6_town_242 (by decide) ?_
              refine dk_Sv (As := [.ref (z + 347), .int 0, .ref (z + 346), .int 0]) (rest := []) ⟨hx, hb, hml, hown, hts⟩ (c_X6_copies l g z I67 (kf := 347) (kt := 346) (nf := 54) (nt := 54) 0 0 (A := 0) (B := 0) rfl rfl (by decide) (by decide) (by decide) (by decide) (by decide) (by decide) (fun _ => rfl) (fun _ => rfl)) (va_cwS 4 hts gX6_town_X6_copies rfl rfl rfl (by decide +kernel) ⟨Nat.le_of_ble_eq_true rfl, Nat.le_of_ble_eq_true rfl⟩) hK hT hW hS rfl hl.1 rfl (Nat.le_of_ble_eq_true rfl) dX6_town_243 ⟨Nat.zero_le _, Nat.zero_le _⟩ (fun I71 H71 L71 eI71 hW hS => ?_)
              have eI71 : I71 = dkCp I67 347 346 0 0 := eI71
              have hO := dkO_cp hO eI71 (by decide) (by decide) (by decide) (by decide)
              have hF := dkF_cp (lo := 0) (hi := 0) hF eI71 ⟨by decide, by decide⟩ rfl
              refine lv_aload_n hx hb dX6_town_246 rfl (lv_at hl 0 rfl) ?_
              refine lv_iconst (v := 0) hx hb dX6_town_247 (by decide) ?_
              refine dk_put (k := 340) hx hb hts iX6_town_6 tyX6 tyX6_ok nmX6 hown hK hW (dk_at340 hW) hS rfl 17 (by decide) (hts (.fieldLink RX6 142 "DogKingsModel" "acts" "I") (List.mem_of_getElem? (i := 9) rfl)) rfl rfl (Nat.le_of_ble_eq_true rfl) rfl dX6_town_248 (fun I72 H72 L72 eI72 hW hS => ?_)
              have eI72 : I72 = dkU I71 340 17 0 := eI72
              have hO := dkO_set hO eI72 (dkN_sub (dkN_lit (x := 0) (0) rfl) rfl)
              have hF := dkF_set hF eI72 rfl
              have hP := dkPP_town hP eI71 eI72 (dkN_sub (by rw [hF68 347 4 rfl]; exact (by rw [eI67, dkU_n (by decide)]; exact (by rw [hF65 347 4 rfl]; exact (by rw [hF27 347 4 rfl]; exact f165_4)))) rfl)
              refine lv_aload_n hx hb dX6_town_251 rfl (lv_at hl 0 rfl) ?_
              refine dk_get (k := 340) hx hb hts iX6_town_6 hown hK (dk_at340 hW) rfl 13 (by decide) (hts (.fieldLink RX6 25 "DogKingsModel" "now" "[I") (List.mem_of_getElem? (i := 8) rfl)) rfl dX6_town_252 ?_
              refine lv_iconst (v := 5) hx hb dX6_town_255 (by decide) ?_
              refine dk_ild (k := 346) hx hb hK (dk_at346 hW) (dkN_in (n := 54) (dkN_lit (x := 5) (5) rfl) rfl) dX6_town_256 ?_
              refine lv_topi (fun v73 ev73 => ?_)
              have ev73 : v73 = I72 346 5 := ev73
              have dv73 : dkN [(0, 6)] v73 := by rw [ev73]; exact (show dkN [(0, 6)] (I72 346 5) from (hO 346 5))
              have xv73 : v73 = I165_ 347 5 := ev73.trans ((by rw [eI72, dkU_n (by decide)] : I72 346 5 = _).trans ((dkCp_in eI71 (by decide)).trans ((hF68 347 5 rfl).trans ((by rw [eI67, dkU_n (by decide)] : I67 347 5 = _).trans ((hF65 347 5 rfl).trans ((hF27 347 5 rfl).trans rfl))))))
              have i0 : (0 : Int32).toInt = 0 := rfl
              have i1 : (1 : Int32).toInt = 1 := rfl
              have i2 : (2 : Int32).toInt = 2 := rfl
              have i3 : (3 : Int32).toInt = 3 := rfl
              have i9 : (9 : Int32).toInt = 9 := rfl
              have i30 : (30 : Int32).toInt = 30 := rfl
              have i44 : (44 : Int32).toInt = 44 := rfl
              have i59 : (59 : Int32).toInt = 59 := rfl
              have i109 : (109 : Int32).toInt = 109 := rfl
              have i116 : (116 : Int32).toInt = 116 := rfl
              have hlw : dkLw (I0 345) (I0 340 6) 0 = (0, dkTe (I0 345) (I0 340 6) (dkTe (I0 345) (I0 340 6) (dkTe (I0 345) (I0 340 6) (dkTe (I0 345) (I0 340 6) (dkTe (I0 345) (I0 340 6) (0)))))) := ((dkTh_p (dkK_l (T := (I0 345)) (n := (I0 340 6)) (a := 0) (c := 116) y165_0 (by omega))).trans ((dkTh_p (dkK_0 (T := (I0 345)) (n := (I0 340 6)) (a := dkTe (I0 345) (I0 340 6) (0)) (lo := 3) (hi := 9) y165_2 (by omega) (by omega))).trans ((dkTh_p (dkK_c (T := (I0 345)) (n := (I0 340 6)) (a := dkTe (I0 345) (I0 340 6) (dkTe (I0 345) (I0 340 6) (0))) y165_5)).trans ((dkTh_p (dkK_0 (T := (I0 345)) (n := (I0 340 6)) (a := dkTe (I0 345) (I0 340 6) (dkTe (I0 345) (I0 340 6) (dkTe (I0 345) (I0 340 6) (0)))) (lo := 1) (hi := 30) y165_6 (by omega) (by omega))).trans (dkK_s (T := (I0 345)) (n := (I0 340 6)) (a := dkTe (I0 345) (I0 340 6) (dkTe (I0 345) (I0 340 6) (dkTe (I0 345) (I0 340 6) (dkTe (I0 345) (I0 340 6) (0))))) y165_9)))))
              have hhh : dkHh (I0 345) (I0 340 6) = (dkTv (I0 345) (I0 340 6) (dkTe (I0 345) (I0 340 6) (0))) := (by unfold dkHh; rw [show dkSg (I0 345) (I0 340 6) 116 0 = (0, dkTe (I0 345) (I0 340 6) (0)) from dkK_l (T := (I0 345)) (n := (I0 340 6)) (a := 0) (c := 116) y165_0 (by omega)]; exact (dkK_v (T := (I0 345)) (n := (I0 340 6)) (a := dkTe (I0 345) (I0 340 6) (0)) (by omega)).symm)
              have hps : dkPs (I0 345) (I0 340 6) (dkTv (I0 345) (I0 340 6) (dkTe (I0 345) (I0 340 6) (0))) (dkTe (I0 345) (I0 340 6) (dkTe (I0 345) (I0 340 6) (dkTe (I0 345) (I0 340 6) (dkTe (I0 345) (I0 340 6) (dkTe (I0 345) (I0 340 6) (0)))))) = dkPw (I0 345) (I0 340 6) (dkTv (I0 345) (I0 340 6) (dkTe (I0 345) (I0 340 6) (0))) 5 (dkTe (I0 345) (I0 340 6) (dkTe (I0 345) (I0 340 6) (dkTe (I0 345) (I0 340 6) (dkTe (I0 345) (I0 340 6) (dkTe (I0 345) (I0 340 6) (0)))))) := dkPs_w (dkK_l (T := (I0 345)) (n := (I0 340 6)) (a := dkTe (I0 345) (I0 340 6) (dkTe (I0 345) (I0 340 6) (dkTe (I0 345) (I0 340 6) (dkTe (I0 345) (I0 340 6) (dkTe (I0 345) (I0 340 6) (0)))))) (c := 109) y165_10 (by omega))
              obtain ⟨c9, g1, g2, g3⟩ := cx165.2
              have hp2 := hps.trans g1
              have hd9 := dkX2_e g3.1 (by omega)
              have e74 : dkTw (I0 345) (I0 340 6) = (0, _) := (dkTw_d hlw hhh hp2).trans hd9.1
              exact W.iret (v := v73) hx hb hr (fun t ht hW9 => ⟨⟨v73, I72, rfl, ⟨hF, hO, hP, Or.inr (⟨dkN_sub dv73 rfl, (show dkN [(0, 0)] (I72 340 11) from dkN_sub (by rw [eI72, dkU_sn (by decide)]; exact (by rw [(dkCp_n eI71 (by decide))]; exact (by rw [hF68 340 11 rfl]; exact (by rw [eI67, dkU_sn (by decide)]; exact (by rw [hF65 340 11 rfl]; exact f64))))) rfl), (show dkN [(0, 0)] (I72 340 17) from dkN_sub (by rw [eI72, dkU_ss]; exact (dkN_lit (x := 0) (0) rfl)) rfl), (show dkN [(0, 0)] (I72 340 6) from dkN_sub (by rw [eI72, dkU_sn (by decide)]; exact (by rw [(dkCp_n eI71 (by decide))]; exact (by rw [hF68 340 6 rfl]; exact (by rw [eI67, dkU_ss]; exact (dkN_lit (x := 0) (0) rfl))))) rfl), (show dkN [(-1, -1)] (I72 340 8) from dkN_sub (by rw [eI72, dkU_sn (by decide)]; exact (by rw [(dkCp_n eI71 (by decide))]; exact f68_340_8)) rfl), (show dkN [(3, 9)] (I72 346 0) from dkN_sub (by rw [eI72, dkU_n (by decide)]; exact (by rw [dkCp_in eI71 (by decide)]; exact (by rw [hF68 347 0 rfl]; exact (by rw [eI67, dkU_n (by decide)]; exact (by rw [hF65 347 0 rfl]; exact (by rw [hF27 347 0 rfl]; exact f165_2)))))) rfl), (show dkN [(1, 30)] (I72 346 1) from dkN_sub (by rw [eI72, dkU_n (by decide)]; exact (by rw [dkCp_in eI71 (by decide)]; exact (by rw [hF68 347 1 rfl]; exact (by rw [eI67, dkU_n (by decide)]; exact (by rw [hF65 347 1 rfl]; exact (by rw [hF27 347 1 rfl]; exact f165_3)))))) rfl), (show dkN [(1, 5)] (I72 346 4) from dkN_sub (by rw [eI72, dkU_n (by decide)]; exact (by rw [dkCp_in eI71 (by decide)]; exact (by rw [hF68 347 4 rfl]; exact (by rw [eI67, dkU_n (by decide)]; exact (by rw [hF65 347 4 rfl]; exact (by rw [hF27 347 4 rfl]; exact f165_4)))))) rfl), (show dkN [(3, 9)] (I72 347 0) from dkN_sub (by rw [eI72, dkU_n (by decide)]; exact (by rw [(dkCp_n eI71 (by decide))]; exact (by rw [hF68 347 0 rfl]; exact (by rw [eI67, dkU_n (by decide)]; exact (by rw [hF65 347 0 rfl]; exact (by rw [hF27 347 0 rfl]; exact f165_2)))))) rfl), (show dkN [(1, 30)] (I72 347 1) from dkN_sub (by rw [eI72, dkU_n (by decide)]; exact (by rw [(dkCp_n eI71 (by decide))]; exact (by rw [hF68 347 1 rfl]; exact (by rw [eI67, dkU_n (by decide)]; exact (by rw [hF65 347 1 rfl]; exact (by rw [hF27 347 1 rfl]; exact f165_3)))))) rfl), (show dkN [(1, 5)] (I72 347 4) from dkN_sub (by rw [eI72, dkU_n (by decide)]; exact (by rw [(dkCp_n eI71 (by decide))]; exact (by rw [hF68 347 4 rfl]; exact (by rw [eI67, dkU_n (by decide)]; exact (by rw [hF65 347 4 rfl]; exact (by rw [hF27 347 4 rfl]; exact f165_4)))))) rfl), (dkP_1 e74), ((xv73).trans (dkTd_d hlw hhh hp2 hd9.2)), (((show I72 346 0 = dkTv (I0 345) (I0 340 6) (dkTe (I0 345) (I0 340 6) (0)) from ((by rw [eI72, dkU_n (by decide)] : I72 346 0 = _).trans ((dkCp_in eI71 (by decide)).trans ((hF68 347 0 rfl).trans ((by rw [eI67, dkU_n (by decide)] : I67 347 0 = _).trans ((hF65 347 0 rfl).trans ((hF27 347 0 rfl).trans zp165_6)))))))).trans hhh.symm), (((show I72 346 4 = I165_ 347 4 from ((by rw [eI72, dkU_n (by decide)] : I72 346 4 = _).trans ((dkCp_in eI71 (by decide)).trans ((hF68 347 4 rfl).trans ((by rw [eI67, dkU_n (by decide)] : I67 347 4 = _).trans ((hF65 347 4 rfl).trans ((hF27 347 4 rfl).trans rfl)))))))).trans (dkTp_d hlw hhh g2)), (((show I72 346 5 = I165_ 347 5 from ((by rw [eI72, dkU_n (by decide)] : I72 346 5 = _).trans ((dkCp_in eI71 (by decide)).trans ((hF68 347 5 rfl).trans ((by rw [eI67, dkU_n (by decide)] : I67 347 5 = _).trans ((hF65 347 5 rfl).trans ((hF27 347 5 rfl).trans rfl)))))))).trans (dkTd_d hlw hhh hp2 hd9.2)), (show I72 340 6 = 0 from ((by rw [eI72, dkU_sn (by decide)] : I72 340 6 = _).trans ((dkCp_n eI71 (by decide)).trans ((hF68 340 6 rfl).trans (by rw [eI67, dkU_ss]))))), (show I72 340 17 = 0 from (by rw [eI72, dkU_ss])), (show I72 340 7 = I0 340 7 from ((by rw [eI72, dkU_sn (by decide)] : I72 340 7 = _).trans ((dkCp_n eI71 (by decide)).trans ((hF68 340 7 rfl).trans ((by rw [eI67, dkU_sn (by decide)] : I67 340 7 = _).trans ((hF65 340 7 rfl).trans ((hF27 340 7 rfl).trans zp165_2))))))), (fun j hj => by have h6 := dkN_hi (b := 6) (show dkN [(0, 6)] (I165_ 347 5) from ‹dkOk I165_› 347 5) rfl; rw [← (dkTd_d hlw hhh hp2 hd9.2)] at hj; have h7 : Int32.toNatClampNeg (I165_ 347 5) = (I165_ 347 5).toInt.toNat := rfl; rw [congrFun ((by rw [eI72, dkU_n (by decide)] : I72 346 = _).trans rfl) _, dkCp_in eI71 ⟨Nat.zero_le _, by omega⟩, show 0 + (36 + 3 * j - 0) = 36 + 3 * j by omega, congrFun ((funext fun j => hF68 347 j dkNin_nil).trans ((by rw [eI67, dkU_n (by decide)] : I67 347 = _).trans rfl)) _]; exact (g3.2.2 j hj).1.trans (dkSs_d hlw hhh hp2)), trivial⟩)⟩, dkW_eq ht hW⟩, hS.F ht⟩) hS.2.2 dX6_town_257
            ·
              exact (dkN_nil (show dkN [] v68 from dkN_eq1 dv68 (dkN_lit (x := 0) (0) rfl) (congrArg Int32.toInt c70) rfl)).elim
        ·
          have q75 : (dkTk (I0 345) (I0 340 6) (I165_ 340 10)).toInt = (1 : Int) := by first | (rw [← xv31]; exact (congrArg Int32.toInt c32)) | (subst xv31; exact (congrArg Int32.toInt c32))
          have d76 : dkN [(1, 1)] v31 := dkN_eq1 dv31 (dkN_lit (x := 1) (1) rfl) (congrArg Int32.toInt c32) rfl
          have f77 : dkN [(1, 1)] (I165_ 340 11) := by rw [← ev31]; exact d76
          refine lv_aload_n hx hb dX6_town_180 rfl (lv_at hl 0 rfl) ?_
          refine dk_get (k := 340) hx hb hts iX6_town_6 hown hK (dk_at340 hW) rfl 12 (by decide) (hts (.fieldLink RX6 95 "DogKingsModel" "value" "I") (List.mem_of_getElem? (i := 5) rfl)) rfl dX6_town_181 ?_
          refine lv_topi (fun v78 ev78 => ?_)
          have xv78 : v78 = dkTv (I0 345) (I0 340 6) (I165_ 340 10) := ev78.trans ((hF27 340 12 rfl).trans cx165.1.2.1)
          refine dk_Si (As := [.int v78]) (rest := []) ⟨hx, hb, hml, hown, hts⟩ (h_X6_kindOf_0 l g z I165_ v78 hO) (va_cwS 1 hts gX6_town_X6_kindOf rfl rfl rfl (by decide +kernel) ⟨Nat.le_of_ble_eq_true rfl, Nat.le_of_ble_eq_true rfl⟩) hK hT hW hS rfl hl.1 rfl (Nat.le_of_ble_eq_true rfl) dX6_town_184 ⟨Nat.zero_le _, Nat.zero_le _⟩ (fun v79 I79 H79 L79 hp79 hW hS => ?_)
          obtain ⟨hF79, hO, hc79⟩ := hp79
          have hF := dkF_call hF hF79 rfl
          have hP := dkPP_F hP hF79 rfl
          have eI79 : I165_ = I79 := (dkF_nil hF79).symm
          subst eI79
          rcases hc79 with ⟨dv79, x79_0, xr79, -⟩ | hc79
          ·
            have q80 : dkSo (dkTv (I0 345) (I0 340 6) (I165_ 340 10)).toInt ≠ -1000000 := by have h := x79_0; rw [xv78] at h; exact h
            have xv79 : v79 = dkSo (dkTv (I0 345) (I0 340 6) (I165_ 340 10)).toInt := by have h := xr79; rw [xv78] at h; exact h
            refine lv_if_le (tgt := 197) hx hb dX6_town_187 (by decide) (fun c81 => ?_) (fun c81 => ?_)
            ·
              exact (dkN_nil (show dkN [] v79 from dkN_le1 0 dv79 (dkN_lit (x := 0) (0) rfl) (dkc_le c81) rfl)).elim
            ·
              have q82 : (0 : Int) + 1 ≤ (dkSo (dkTv (I0 345) (I0 340 6) (I165_ 340 10)).toInt).toInt := by first | (rw [← xv79]; exact (dkc_nle c81)) | (subst xv79; exact (dkc_nle c81))
              refine lv_aload_n hx hb dX6_town_190 rfl (lv_at hl 0 rfl) ?_
              refine dk_Vv (As := []) (rest := []) ⟨hx, hb, hml, hown, hts⟩ (fx_X6_readsDog_1 l g z I165_ (show dkN [(-1, -1)] (I165_ 340 8) from dkN_sub (by rw [hF79 340 8 rfl]; exact f27_340_8) rfl) (show dkN [(3, 9)] (I165_ 347 0) from dkN_sub (by rw [hF79 347 0 rfl]; exact (by rw [hF27 347 0 rfl]; exact f165_2)) rfl) hO) (cwV 0 hts gX6_town_X6_readsDog rfl rfl rfl (by decide +kernel) ⟨Nat.le_of_ble_eq_true rfl, Nat.le_of_ble_eq_true rfl⟩) (dk_at340 hW) rfl hK hT hW hS rfl hl.1 rfl (Nat.le_of_ble_eq_true rfl) dX6_town_191 ⟨Nat.zero_le _, Nat.zero_le _⟩ (fun I83 H83 L83 hp83 hW hS => ?_)
              obtain ⟨hF83, hO, hc83⟩ := hp83
              have hF := dkF_call hF hF83 rfl
              have hP := dkPP_F hP hF83 rfl
              rcases hc83 with ⟨f83_340_7, f83_340_8, f83_347_0, f83_347_5, x83_0, xh83_0, xh83_1, xh83_2, xh83_3, xh83_4, -⟩ | hc83
              ·
                have w84 : I165_ 347 5 = I165_ 347 5 := ((hF79 347 5 rfl).trans ((hF27 347 5 rfl).trans rfl))
                have q85 : (6 : Int) + 0 ≤ (I165_ 347 5).toInt := by have h := x83_0; rw [w84] at h; exact h
                have y86 : I83 340 7 = 3 := by have h := xh83_0; exact h
                have w87 : I165_ 340 10 = I165_ 340 10 := ((hF79 340 10 rfl).trans ((hF27 340 10 rfl).trans rfl))
                have y88 : I83 340 8 = I165_ 340 10 := by have h := xh83_1; rw [w87] at h; exact h
                have w89 : I165_ 347 0 = dkTv (I0 345) (I0 340 6) (dkTe (I0 345) (I0 340 6) (0)) := ((hF79 347 0 rfl).trans ((hF27 347 0 rfl).trans zp165_6))
                have y90 : I83 347 0 = dkTv (I0 345) (I0 340 6) (dkTe (I0 345) (I0 340 6) (0)) := by have h := xh83_2; rw [w89] at h; exact h
                have w91 : I165_ 347 4 = I165_ 347 4 := ((hF79 347 4 rfl).trans ((hF27 347 4 rfl).trans rfl))
                have y92 : I83 347 4 = I165_ 347 4 := by have h := xh83_3; rw [w91] at h; exact h
                have y93 : I83 347 5 = I165_ 347 5 := by have h := xh83_4; rw [w84] at h; exact h
                refine lv_goto (tgt := 165) hx hb dX6_town_194 (by decide) ?_
                refine lv_aload_n hx hb dX6_town_165 rfl (lv_at hl 0 rfl) ?_
                refine dk_Vi (As := []) (rest := []) ⟨hx, hb, hml, hown, hts⟩ (fx_X6_isWell_7 l g z I83 (show dkN [(0, 90)] (I83 340 8) from dkN_sub f83_340_8 rfl) hO) (cwV 0 hts gX6_town_X6_isWell rfl rfl rfl (by decide +kernel) ⟨Nat.le_of_ble_eq_true rfl, Nat.le_of_ble_eq_true rfl⟩) (dk_at340 hW) rfl hK hT hW hS rfl hl.1 rfl (Nat.le_of_ble_eq_true rfl) dX6_town_166 ⟨Nat.zero_le _, Nat.zero_le _⟩ (fun v94 I94 H94 L94 hp94 hW hS => ?_)
                obtain ⟨hF94, hO, hc94⟩ := hp94
                have hF := dkF_call hF hF94 rfl
                have hP := dkPP_F hP hF94 rfl
                have eI94 : I83 = I94 := (dkF_nil hF94).symm
                subst eI94
                obtain ⟨dv94, f94_340_8, x94_0, xr94, -⟩ := hc94
                have w95 : I83 340 8 = I165_ 340 10 := y88
                have q96 : (0 : Int) + 0 ≤ (I165_ 340 10).toInt := by have h := x94_0; rw [w95] at h; exact h
                have xv94 : v94 = 0 := by have h := xr94; exact h
                refine lv_if_eq (tgt := 197) hx hb dX6_town_169 (by decide) (fun c97 => ?_) (fun c97 => ?_)
                ·
                  have i0 : (0 : Int32).toInt = 0 := rfl
                  have i1 : (1 : Int32).toInt = 1 := rfl
                  have i2 : (2 : Int32).toInt = 2 := rfl
                  have i3 : (3 : Int32).toInt = 3 := rfl
                  have i9 : (9 : Int32).toInt = 9 := rfl
                  have i30 : (30 : Int32).toInt = 30 := rfl
                  have i44 : (44 : Int32).toInt = 44 := rfl
                  have i59 : (59 : Int32).toInt = 59 := rfl
                  have i109 : (109 : Int32).toInt = 109 := rfl
                  have i116 : (116 : Int32).toInt = 116 := rfl
                  have hlw : dkLw (I0 345) (I0 340 6) 0 = (0, dkTe (I0 345) (I0 340 6) (dkTe (I0 345) (I0 340 6) (dkTe (I0 345) (I0 340 6) (dkTe (I0 345) (I0 340 6) (dkTe (I0 345) (I0 340 6) (0)))))) := ((dkTh_p (dkK_l (T := (I0 345)) (n := (I0 340 6)) (a := 0) (c := 116) y165_0 (by omega))).trans ((dkTh_p (dkK_0 (T := (I0 345)) (n := (I0 340 6)) (a := dkTe (I0 345) (I0 340 6) (0)) (lo := 3) (hi := 9) y165_2 (by omega) (by omega))).trans ((dkTh_p (dkK_c (T := (I0 345)) (n := (I0 340 6)) (a := dkTe (I0 345) (I0 340 6) (dkTe (I0 345) (I0 340 6) (0))) y165_5)).trans ((dkTh_p (dkK_0 (T := (I0 345)) (n := (I0 340 6)) (a := dkTe (I0 345) (I0 340 6) (dkTe (I0 345) (I0 340 6) (dkTe (I0 345) (I0 340 6) (0)))) (lo := 1) (hi := 30) y165_6 (by omega) (by omega))).trans (dkK_s (T := (I0 345)) (n := (I0 340 6)) (a := dkTe (I0 345) (I0 340 6) (dkTe (I0 345) (I0 340 6) (dkTe (I0 345) (I0 340 6) (dkTe (I0 345) (I0 340 6) (0))))) y165_9)))))
                  have hhh : dkHh (I0 345) (I0 340 6) = (dkTv (I0 345) (I0 340 6) (dkTe (I0 345) (I0 340 6) (0))) := (by unfold dkHh; rw [show dkSg (I0 345) (I0 340 6) 116 0 = (0, dkTe (I0 345) (I0 340 6) (0)) from dkK_l (T := (I0 345)) (n := (I0 340 6)) (a := 0) (c := 116) y165_0 (by omega)]; exact (dkK_v (T := (I0 345)) (n := (I0 340 6)) (a := dkTe (I0 345) (I0 340 6) (0)) (by omega)).symm)
                  have hps : dkPs (I0 345) (I0 340 6) (dkTv (I0 345) (I0 340 6) (dkTe (I0 345) (I0 340 6) (0))) (dkTe (I0 345) (I0 340 6) (dkTe (I0 345) (I0 340 6) (dkTe (I0 345) (I0 340 6) (dkTe (I0 345) (I0 340 6) (dkTe (I0 345) (I0 340 6) (0)))))) = dkPw (I0 345) (I0 340 6) (dkTv (I0 345) (I0 340 6) (dkTe (I0 345) (I0 340 6) (0))) 5 (dkTe (I0 345) (I0 340 6) (dkTe (I0 345) (I0 340 6) (dkTe (I0 345) (I0 340 6) (dkTe (I0 345) (I0 340 6) (dkTe (I0 345) (I0 340 6) (0)))))) := dkPs_w (dkK_l (T := (I0 345)) (n := (I0 340 6)) (a := dkTe (I0 345) (I0 340 6) (dkTe (I0 345) (I0 340 6) (dkTe (I0 345) (I0 340 6) (dkTe (I0 345) (I0 340 6) (dkTe (I0 345) (I0 340 6) (0)))))) (c := 109) y165_10 (by omega))
                  obtain ⟨c9, g1, g2, g3⟩ := cx165.2
                  have hp2 := hps.trans g1
                  have e98 : dkTw (I0 345) (I0 340 6) = (3, I165_ 340 10) := (dkTw_d hlw hhh hp2).trans (dkX2_o g3.1 (by omega) q80 (by omega))
                  exact C197 I83 _ _ ls x165_1 hW hS hF hO hP (dkN_sub k165_0 rfl) (show dkN [(1, 3)] (I83 340 7) from dkN_sub (by rw [hF94 340 7 rfl]; exact f83_340_7) rfl) (show dkN [(0, 90)] (I83 340 8) from dkN_sub f94_340_8 rfl) (show dkN [(0, 0), (3, 9)] (I83 347 0) from dkN_sub (by rw [hF94 347 0 rfl]; exact f83_347_0) rfl) ((funext fun j => hF94 345 j dkNin_nil).trans ((funext fun j => hF83 345 j (dkNin_k rfl (dkNin_k rfl (dkNin_k rfl dkNin_nil)))).trans ((funext fun j => hF79 345 j dkNin_nil).trans ((funext fun j => hF27 345 j dkNin_nil).trans z165_0)))) ((funext fun j => hF94 346 j dkNin_nil).trans ((funext fun j => hF83 346 j (dkNin_k rfl (dkNin_k rfl (dkNin_k rfl dkNin_nil)))).trans ((funext fun j => hF79 346 j dkNin_nil).trans ((funext fun j => hF27 346 j dkNin_nil).trans z165_1)))) ((hF94 340 17 rfl).trans ((hF83 340 17 rfl).trans ((hF79 340 17 rfl).trans ((hF27 340 17 rfl).trans zp165_0)))) ((hF94 340 6 rfl).trans ((hF83 340 6 rfl).trans ((hF79 340 6 rfl).trans ((hF27 340 6 rfl).trans zp165_1)))) ((hF94 346 0 rfl).trans ((hF83 346 0 rfl).trans ((hF79 346 0 rfl).trans ((hF27 346 0 rfl).trans (by rw [z165_1]))))) ((hF94 346 4 rfl).trans ((hF83 346 4 rfl).trans ((hF79 346 4 rfl).trans ((hF27 346 4 rfl).trans (by rw [z165_1]))))) ((hF94 346 5 rfl).trans ((hF83 346 5 rfl).trans ((hF79 346 5 rfl).trans ((hF27 346 5 rfl).trans (by rw [z165_1]))))) ⟨(dkE_k e98 (by decide)), (((show I83 340 7 = 3 from ((hF94 340 7 rfl).trans y86))).trans (dkP_1 e98).symm), (((show I83 340 8 = I165_ 340 10 from ((hF94 340 8 rfl).trans y88))).trans (dkP_2 e98).symm)⟩ (lv_sub hl [0, 1] rfl)
                ·
                  exact absurd ((xv94).trans (rfl).symm) c97
              rcases hc83 with ⟨f83_340_7, f83_340_8, f83_347_0, f83_347_5, x83_0, x83_1, xh83_0, xh83_1, xh83_2, xh83_3, xh83_4, -⟩ | hc83
              ·
                have w99 : I165_ 347 5 = I165_ 347 5 := ((hF79 347 5 rfl).trans ((hF27 347 5 rfl).trans rfl))
                have q100 : (I165_ 347 5).toInt + 1 ≤ (6 : Int) := by have h := x83_0; rw [w99] at h; exact h
                have w101 : I165_ 345 = I0 345 := ((funext fun j => hF79 345 j dkNin_nil).trans ((funext fun j => hF27 345 j dkNin_nil).trans z165_0))
                have w102 : I165_ 340 6 = I0 340 6 := ((hF79 340 6 rfl).trans ((hF27 340 6 rfl).trans zp165_1))
                have w103 : I165_ 347 0 = dkTv (I0 345) (I0 340 6) (dkTe (I0 345) (I0 340 6) (0)) := ((hF79 347 0 rfl).trans ((hF27 347 0 rfl).trans zp165_6))
                have w104 : I165_ 340 9 = dkTe (I0 345) (I0 340 6) (I165_ 340 10) := ((hF79 340 9 rfl).trans ((hF27 340 9 rfl).trans cx165.1.2.2))
                have q105 : (dkDo (I0 345) (I0 340 6) (dkTv (I0 345) (I0 340 6) (dkTe (I0 345) (I0 340 6) (0))) (dkTe (I0 345) (I0 340 6) (I165_ 340 10))).1 ≠ 0 := by have h := x83_1; rw [w101, w102, w103, w104] at h; exact h
                have y106 : I83 340 7 = (dkDo (I0 345) (I0 340 6) (dkTv (I0 345) (I0 340 6) (dkTe (I0 345) (I0 340 6) (0))) (dkTe (I0 345) (I0 340 6) (I165_ 340 10))).1 := by have h := xh83_0; rw [w101, w102, w103, w104] at h; exact h
                have y107 : I83 340 8 = (dkDo (I0 345) (I0 340 6) (dkTv (I0 345) (I0 340 6) (dkTe (I0 345) (I0 340 6) (0))) (dkTe (I0 345) (I0 340 6) (I165_ 340 10))).2 := by have h := xh83_1; rw [w101, w102, w103, w104] at h; exact h
                have y108 : I83 347 0 = dkTv (I0 345) (I0 340 6) (dkTe (I0 345) (I0 340 6) (0)) := by have h := xh83_2; rw [w103] at h; exact h
                have w109 : I165_ 347 4 = I165_ 347 4 := ((hF79 347 4 rfl).trans ((hF27 347 4 rfl).trans rfl))
                have y110 : I83 347 4 = I165_ 347 4 := by have h := xh83_3; rw [w109] at h; exact h
                have y111 : I83 347 5 = I165_ 347 5 := by have h := xh83_4; rw [w99] at h; exact h
                refine lv_goto (tgt := 165) hx hb dX6_town_194 (by decide) ?_
                refine lv_aload_n hx hb dX6_town_165 rfl (lv_at hl 0 rfl) ?_
                refine dk_Vi (As := []) (rest := []) ⟨hx, hb, hml, hown, hts⟩ (fx_X6_isWell_7 l g z I83 (show dkN [(0, 90)] (I83 340 8) from dkN_sub f83_340_8 rfl) hO) (cwV 0 hts gX6_town_X6_isWell rfl rfl rfl (by decide +kernel) ⟨Nat.le_of_ble_eq_true rfl, Nat.le_of_ble_eq_true rfl⟩) (dk_at340 hW) rfl hK hT hW hS rfl hl.1 rfl (Nat.le_of_ble_eq_true rfl) dX6_town_166 ⟨Nat.zero_le _, Nat.zero_le _⟩ (fun v112 I112 H112 L112 hp112 hW hS => ?_)
                obtain ⟨hF112, hO, hc112⟩ := hp112
                have hF := dkF_call hF hF112 rfl
                have hP := dkPP_F hP hF112 rfl
                have eI112 : I83 = I112 := (dkF_nil hF112).symm
                subst eI112
                obtain ⟨dv112, f112_340_8, x112_0, xr112, -⟩ := hc112
                have w113 : I83 340 8 = (dkDo (I0 345) (I0 340 6) (dkTv (I0 345) (I0 340 6) (dkTe (I0 345) (I0 340 6) (0))) (dkTe (I0 345) (I0 340 6) (I165_ 340 10))).2 := y107
                have q114 : (0 : Int) + 0 ≤ ((dkDo (I0 345) (I0 340 6) (dkTv (I0 345) (I0 340 6) (dkTe (I0 345) (I0 340 6) (0))) (dkTe (I0 345) (I0 340 6) (I165_ 340 10))).2).toInt := by have h := x112_0; rw [w113] at h; exact h
                have xv112 : v112 = 0 := by have h := xr112; exact h
                refine lv_if_eq (tgt := 197) hx hb dX6_town_169 (by decide) (fun c115 => ?_) (fun c115 => ?_)
                ·
                  have i0 : (0 : Int32).toInt = 0 := rfl
                  have i1 : (1 : Int32).toInt = 1 := rfl
                  have i2 : (2 : Int32).toInt = 2 := rfl
                  have i3 : (3 : Int32).toInt = 3 := rfl
                  have i9 : (9 : Int32).toInt = 9 := rfl
                  have i30 : (30 : Int32).toInt = 30 := rfl
                  have i44 : (44 : Int32).toInt = 44 := rfl
                  have i59 : (59 : Int32).toInt = 59 := rfl
                  have i109 : (109 : Int32).toInt = 109 := rfl
                  have i116 : (116 : Int32).toInt = 116 := rfl
                  have hlw : dkLw (I0 345) (I0 340 6) 0 = (0, dkTe (I0 345) (I0 340 6) (dkTe (I0 345) (I0 340 6) (dkTe (I0 345) (I0 340 6) (dkTe (I0 345) (I0 340 6) (dkTe (I0 345) (I0 340 6) (0)))))) := ((dkTh_p (dkK_l (T := (I0 345)) (n := (I0 340 6)) (a := 0) (c := 116) y165_0 (by omega))).trans ((dkTh_p (dkK_0 (T := (I0 345)) (n := (I0 340 6)) (a := dkTe (I0 345) (I0 340 6) (0)) (lo := 3) (hi := 9) y165_2 (by omega) (by omega))).trans ((dkTh_p (dkK_c (T := (I0 345)) (n := (I0 340 6)) (a := dkTe (I0 345) (I0 340 6) (dkTe (I0 345) (I0 340 6) (0))) y165_5)).trans ((dkTh_p (dkK_0 (T := (I0 345)) (n := (I0 340 6)) (a := dkTe (I0 345) (I0 340 6) (dkTe (I0 345) (I0 340 6) (dkTe (I0 345) (I0 340 6) (0)))) (lo := 1) (hi := 30) y165_6 (by omega) (by omega))).trans (dkK_s (T := (I0 345)) (n := (I0 340 6)) (a := dkTe (I0 345) (I0 340 6) (dkTe (I0 345) (I0 340 6) (dkTe (I0 345) (I0 340 6) (dkTe (I0 345) (I0 340 6) (0))))) y165_9)))))
                  have hhh : dkHh (I0 345) (I0 340 6) = (dkTv (I0 345) (I0 340 6) (dkTe (I0 345) (I0 340 6) (0))) := (by unfold dkHh; rw [show dkSg (I0 345) (I0 340 6) 116 0 = (0, dkTe (I0 345) (I0 340 6) (0)) from dkK_l (T := (I0 345)) (n := (I0 340 6)) (a := 0) (c := 116) y165_0 (by omega)]; exact (dkK_v (T := (I0 345)) (n := (I0 340 6)) (a := dkTe (I0 345) (I0 340 6) (0)) (by omega)).symm)
                  have hps : dkPs (I0 345) (I0 340 6) (dkTv (I0 345) (I0 340 6) (dkTe (I0 345) (I0 340 6) (0))) (dkTe (I0 345) (I0 340 6) (dkTe (I0 345) (I0 340 6) (dkTe (I0 345) (I0 340 6) (dkTe (I0 345) (I0 340 6) (dkTe (I0 345) (I0 340 6) (0)))))) = dkPw (I0 345) (I0 340 6) (dkTv (I0 345) (I0 340 6) (dkTe (I0 345) (I0 340 6) (0))) 5 (dkTe (I0 345) (I0 340 6) (dkTe (I0 345) (I0 340 6) (dkTe (I0 345) (I0 340 6) (dkTe (I0 345) (I0 340 6) (dkTe (I0 345) (I0 340 6) (0)))))) := dkPs_w (dkK_l (T := (I0 345)) (n := (I0 340 6)) (a := dkTe (I0 345) (I0 340 6) (dkTe (I0 345) (I0 340 6) (dkTe (I0 345) (I0 340 6) (dkTe (I0 345) (I0 340 6) (dkTe (I0 345) (I0 340 6) (0)))))) (c := 109) y165_10 (by omega))
                  obtain ⟨c9, g1, g2, g3⟩ := cx165.2
                  have hp2 := hps.trans g1
                  have e116 : dkTw (I0 345) (I0 340 6) = ((dkDo (I0 345) (I0 340 6) (dkTv (I0 345) (I0 340 6) (dkTe (I0 345) (I0 340 6) (0))) (dkTe (I0 345) (I0 340 6) (I165_ 340 10))).1, (dkDo (I0 345) (I0 340 6) (dkTv (I0 345) (I0 340 6) (dkTe (I0 345) (I0 340 6) (0))) (dkTe (I0 345) (I0 340 6) (I165_ 340 10))).2) := (dkTw_d hlw hhh hp2).trans (dkX2_f g3.1 (by omega) q80 (by omega) q105)
                  exact C197 I83 _ _ ls x165_1 hW hS hF hO hP (dkN_sub k165_0 rfl) (show dkN [(1, 3)] (I83 340 7) from dkN_sub (by rw [hF112 340 7 rfl]; exact f83_340_7) rfl) (show dkN [(0, 90)] (I83 340 8) from dkN_sub f112_340_8 rfl) (show dkN [(0, 0), (3, 9)] (I83 347 0) from dkN_sub (by rw [hF112 347 0 rfl]; exact f83_347_0) rfl) ((funext fun j => hF112 345 j dkNin_nil).trans ((funext fun j => hF83 345 j (dkNin_k rfl (dkNin_k rfl (dkNin_k rfl dkNin_nil)))).trans ((funext fun j => hF79 345 j dkNin_nil).trans ((funext fun j => hF27 345 j dkNin_nil).trans z165_0)))) ((funext fun j => hF112 346 j dkNin_nil).trans ((funext fun j => hF83 346 j (dkNin_k rfl (dkNin_k rfl (dkNin_k rfl dkNin_nil)))).trans ((funext fun j => hF79 346 j dkNin_nil).trans ((funext fun j => hF27 346 j dkNin_nil).trans z165_1)))) ((hF112 340 17 rfl).trans ((hF83 340 17 rfl).trans ((hF79 340 17 rfl).trans ((hF27 340 17 rfl).trans zp165_0)))) ((hF112 340 6 rfl).trans ((hF83 340 6 rfl).trans ((hF79 340 6 rfl).trans ((hF27 340 6 rfl).trans zp165_1)))) ((hF112 346 0 rfl).trans ((hF83 346 0 rfl).trans ((hF79 346 0 rfl).trans ((hF27 346 0 rfl).trans (by rw [z165_1]))))) ((hF112 346 4 rfl).trans ((hF83 346 4 rfl).trans ((hF79 346 4 rfl).trans ((hF27 346 4 rfl).trans (by rw [z165_1]))))) ((hF112 346 5 rfl).trans ((hF83 346 5 rfl).trans ((hF79 346 5 rfl).trans ((hF27 346 5 rfl).trans (by rw [z165_1]))))) ⟨(fun q => q105 ((dkP_1 e116).symm.trans q)), (((show I83 340 7 = (dkDo (I0 345) (I0 340 6) (dkTv (I0 345) (I0 340 6) (dkTe (I0 345) (I0 340 6) (0))) (dkTe (I0 345) (I0 340 6) (I165_ 340 10))).1 from ((hF112 340 7 rfl).trans y106))).trans (dkP_1 e116).symm), (((show I83 340 8 = (dkDo (I0 345) (I0 340 6) (dkTv (I0 345) (I0 340 6) (dkTe (I0 345) (I0 340 6) (0))) (dkTe (I0 345) (I0 340 6) (I165_ 340 10))).2 from ((hF112 340 8 rfl).trans y107))).trans (dkP_2 e116).symm)⟩ (lv_sub hl [0, 1] rfl)
                ·
                  exact absurd ((xv112).trans (rfl).symm) c115
              ·
                obtain ⟨f83_340_11, f83_340_8, f83_347_0, f83_347_5, x83_0, x83_1, xh83_0, xh83_1, xh83_2, xh83_3, xh83_4, xh83_5, xh83_6, xh83_7, xh83_8, xp83_0, xp83_1, ci83_0, -⟩ := hc83
                have w117 : I165_ 347 5 = I165_ 347 5 := ((hF79 347 5 rfl).trans ((hF27 347 5 rfl).trans rfl))
                have q118 : (I165_ 347 5).toInt + 1 ≤ (6 : Int) := by have h := x83_0; rw [w117] at h; exact h
                have w119 : I165_ 345 = I0 345 := ((funext fun j => hF79 345 j dkNin_nil).trans ((funext fun j => hF27 345 j dkNin_nil).trans z165_0))
                have w120 : I165_ 340 6 = I0 340 6 := ((hF79 340 6 rfl).trans ((hF27 340 6 rfl).trans zp165_1))
                have w121 : I165_ 347 0 = dkTv (I0 345) (I0 340 6) (dkTe (I0 345) (I0 340 6) (0)) := ((hF79 347 0 rfl).trans ((hF27 347 0 rfl).trans zp165_6))
                have w122 : I165_ 340 9 = dkTe (I0 345) (I0 340 6) (I165_ 340 10) := ((hF79 340 9 rfl).trans ((hF27 340 9 rfl).trans cx165.1.2.2))
                have q123 : (dkDo (I0 345) (I0 340 6) (dkTv (I0 345) (I0 340 6) (dkTe (I0 345) (I0 340 6) (0))) (dkTe (I0 345) (I0 340 6) (I165_ 340 10))).1 = 0 := by have h := x83_1; rw [w119, w120, w121, w122] at h; exact h
                have w124 : I165_ 340 7 = I0 340 7 := ((hF79 340 7 rfl).trans ((hF27 340 7 rfl).trans zp165_2))
                have y125 : I83 340 7 = I0 340 7 := by have h := xh83_0; rw [w124] at h; exact h
                have w126 : I165_ 340 8 = I165_ 340 8 := ((hF79 340 8 rfl).trans ((hF27 340 8 rfl).trans rfl))
                have y127 : I83 340 8 = I165_ 340 8 := by have h := xh83_1; rw [w126] at h; exact h
                have y128 : I83 340 9 = dkTe (I0 345) (I0 340 6) (dkDo (I0 345) (I0 340 6) (dkTv (I0 345) (I0 340 6) (dkTe (I0 345) (I0 340 6) (0))) (dkTe (I0 345) (I0 340 6) (I165_ 340 10))).2 := by have h := xh83_2; rw [w119, w120, w121, w122] at h; exact h
                have y129 : I83 340 10 = (dkDo (I0 345) (I0 340 6) (dkTv (I0 345) (I0 340 6) (dkTe (I0 345) (I0 340 6) (0))) (dkTe (I0 345) (I0 340 6) (I165_ 340 10))).2 := by have h := xh83_3; rw [w119, w120, w121, w122] at h; exact h
                have y130 : I83 340 11 = dkTk (I0 345) (I0 340 6) (dkDo (I0 345) (I0 340 6) (dkTv (I0 345) (I0 340 6) (dkTe (I0 345) (I0 340 6) (0))) (dkTe (I0 345) (I0 340 6) (I165_ 340 10))).2 := by have h := xh83_4; rw [w119, w120, w121, w122] at h; exact h
                have y131 : I83 340 12 = dkTv (I0 345) (I0 340 6) (dkDo (I0 345) (I0 340 6) (dkTv (I0 345) (I0 340 6) (dkTe (I0 345) (I0 340 6) (0))) (dkTe (I0 345) (I0 340 6) (I165_ 340 10))).2 := by have h := xh83_5; rw [w119, w120, w121, w122] at h; exact h
                have y132 : I83 347 0 = dkTv (I0 345) (I0 340 6) (dkTe (I0 345) (I0 340 6) (0)) := by have h := xh83_6; rw [w121] at h; exact h
                have w133 : I165_ 347 4 = I165_ 347 4 := ((hF79 347 4 rfl).trans ((hF27 347 4 rfl).trans rfl))
                have y134 : I83 347 4 = I165_ 347 4 := by have h := xh83_7; rw [w133] at h; exact h
                have y135 : I83 347 5 = (I165_ 347 5) + 1 := by have h := xh83_8; rw [w117] at h; exact h
                have w136 : I165_ 340 12 = dkTv (I0 345) (I0 340 6) (I165_ 340 10) := ((hF79 340 12 rfl).trans ((hF27 340 12 rfl).trans cx165.1.2.1))
                have yp137 : (dkSo (dkTv (I0 345) (I0 340 6) (I165_ 340 10)).toInt ≠ -1000000 → I83 347 (36 + 3 * Int32.toNatClampNeg (I165_ 347 5)) = dkSo (dkTv (I0 345) (I0 340 6) (I165_ 340 10)).toInt) := by have h := xp83_0; rw [w136, w117] at h; exact h
                have w138 : I165_ 347 = I165_ 347 := ((funext fun j => hF79 347 j dkNin_nil).trans ((funext fun j => hF27 347 j dkNin_nil).trans rfl))
                have yp139 : (∀ j : Nat, j < Int32.toNatClampNeg (I165_ 347 5) → I83 347 (36 + 3 * j) = (I165_ 347) (36 + 3 * j)) := by have h := xp83_1; rw [w117, w138] at h; exact h
                refine lv_goto (tgt := 165) hx hb dX6_town_194 (by decide) ?_
                exact ih165 I83 _ _ ls x165_1 (dk_nearH hn165 ci83_0 rfl (‹dkOk I165_› 347 5) rfl rfl) hW hS hF hO hP (dkN_sub k165_0 rfl) (show dkN [(0, 5)] (I83 340 11) from dkN_sub f83_340_11 rfl) (show dkN [(-1, -1)] (I83 340 8) from dkN_sub f83_340_8 rfl) (show dkN [(3, 9)] (I83 347 0) from dkN_sub f83_347_0 rfl) (show dkN [(1, 30)] (I83 347 1) from dkN_sub (by rw [hF83 347 1 rfl]; exact (by rw [hF79 347 1 rfl]; exact (by rw [hF27 347 1 rfl]; exact f165_3))) rfl) (show dkN [(1, 5)] (I83 347 4) from dkN_sub (by rw [hF83 347 4 rfl]; exact (by rw [hF79 347 4 rfl]; exact (by rw [hF27 347 4 rfl]; exact f165_4))) rfl) ((funext fun j => hF83 345 j (dkNin_k rfl (dkNin_k rfl (dkNin_k rfl dkNin_nil)))).trans ((funext fun j => hF79 345 j dkNin_nil).trans ((funext fun j => hF27 345 j dkNin_nil).trans z165_0))) ((funext fun j => hF83 346 j (dkNin_k rfl (dkNin_k rfl (dkNin_k rfl dkNin_nil)))).trans ((funext fun j => hF79 346 j dkNin_nil).trans ((funext fun j => hF27 346 j dkNin_nil).trans z165_1))) ((hF83 340 17 rfl).trans ((hF79 340 17 rfl).trans ((hF27 340 17 rfl).trans zp165_0))) ((hF83 340 6 rfl).trans ((hF79 340 6 rfl).trans ((hF27 340 6 rfl).trans zp165_1))) y125 ((hF83 346 0 rfl).trans ((hF79 346 0 rfl).trans ((hF27 346 0 rfl).trans (by rw [z165_1])))) ((hF83 346 4 rfl).trans ((hF79 346 4 rfl).trans ((hF27 346 4 rfl).trans (by rw [z165_1])))) ((hF83 346 5 rfl).trans ((hF79 346 5 rfl).trans ((hF27 346 5 rfl).trans (by rw [z165_1])))) y132 y165_0 y165_1 y165_2 y165_3 y165_4 y165_5 y165_6 y165_7 y165_8 y165_9 y165_10 y165_11 y165_12 ⟨⟨(((show I83 340 11 = dkTk (I0 345) (I0 340 6) (dkDo (I0 345) (I0 340 6) (dkTv (I0 345) (I0 340 6) (dkTe (I0 345) (I0 340 6) (0))) (dkTe (I0 345) (I0 340 6) (I165_ 340 10))).2 from y130)).trans (congrArg (dkTk (I0 345) (I0 340 6)) ((show I83 340 10 = (dkDo (I0 345) (I0 340 6) (dkTv (I0 345) (I0 340 6) (dkTe (I0 345) (I0 340 6) (0))) (dkTe (I0 345) (I0 340 6) (I165_ 340 10))).2 from y129)).symm)), (((show I83 340 12 = dkTv (I0 345) (I0 340 6) (dkDo (I0 345) (I0 340 6) (dkTv (I0 345) (I0 340 6) (dkTe (I0 345) (I0 340 6) (0))) (dkTe (I0 345) (I0 340 6) (I165_ 340 10))).2 from y131)).trans (congrArg (dkTv (I0 345) (I0 340 6)) ((show I83 340 10 = (dkDo (I0 345) (I0 340 6) (dkTv (I0 345) (I0 340 6) (dkTe (I0 345) (I0 340 6) (0))) (dkTe (I0 345) (I0 340 6) (I165_ 340 10))).2 from y129)).symm)), (((show I83 340 9 = dkTe (I0 345) (I0 340 6) (dkDo (I0 345) (I0 340 6) (dkTv (I0 345) (I0 340 6) (dkTe (I0 345) (I0 340 6) (0))) (dkTe (I0 345) (I0 340 6) (I165_ 340 10))).2 from y128)).trans (congrArg (dkTe (I0 345) (I0 340 6)) ((show I83 340 10 = (dkDo (I0 345) (I0 340 6) (dkTv (I0 345) (I0 340 6) (dkTe (I0 345) (I0 340 6) (0))) (dkTe (I0 345) (I0 340 6) (I165_ 340 10))).2 from y129)).symm))⟩, (by obtain ⟨c9, g1, g2, g3⟩ := cx165.2; exact ⟨c9, g1, (by rw [show I83 347 4 = I165_ 347 4 from y134]; exact g2), (by rw [show I83 340 10 = (dkDo (I0 345) (I0 340 6) (dkTv (I0 345) (I0 340 6) (dkTe (I0 345) (I0 340 6) (0))) (dkTe (I0 345) (I0 340 6) (I165_ 340 10))).2 from y129, show I83 347 5 = (I165_ 347 5) + 1 from y135]; exact dkX4_s g3 (by omega) q80 (by omega) (dk_nlt (dkN_ge (show dkN [(0, 6)] (I165_ 347 5) from ‹dkOk I165_› 347 5) rfl)) q123 (yp137 q80) (fun j hj => yp139 j hj))⟩)⟩ (lv_sub hl [0, 1] rfl)
          ·
            obtain ⟨dv79, x79_0, xr79, -⟩ := hc79
            have q141 : dkSo (dkTv (I0 345) (I0 340 6) (I165_ 340 10)).toInt = -1000000 := by have h := x79_0; rw [xv78] at h; exact h
            have xv79 : v79 = 0 := by have h := xr79; exact h
            refine lv_if_le (tgt := 197) hx hb dX6_town_187 (by decide) (fun c142 => ?_) (fun c142 => ?_)
            ·
              refine lv_aload_n hx hb dX6_town_197 rfl (lv_at hl 0 rfl) ?_
              refine lv_aload_n hx hb dX6_town_198 rfl (lv_at hl 0 rfl) ?_
              refine dk_get (k := 340) hx hb hts iX6_town_6 hown hK (dk_at340 hW) rfl 11 (by decide) (hts (.fieldLink RX6 98 "DogKingsModel" "token" "I") (List.mem_of_getElem? (i := 4) rfl)) rfl dX6_town_199 ?_
              refine lv_topi (fun v143 ev143 => ?_)
              have dv143 : dkN [(1, 1)] v143 := by rw [ev143]; exact (by rw [hF79 340 11 rfl]; exact f77)
              have xv143 : v143 = dkTk (I0 345) (I0 340 6) (I165_ 340 10) := ev143.trans ((hF79 340 11 rfl).trans ((hF27 340 11 rfl).trans cx165.1.1))
              refine lv_if_ne (tgt := 209) hx hb dX6_town_202 (by decide) (fun c144 => ?_) (fun c144 => ?_)
              ·
                have q145 : (dkTk (I0 345) (I0 340 6) (I165_ 340 10)).toInt ≠ (0 : Int) := by first | (rw [← xv143]; exact (dk_ne c144)) | (subst xv143; exact (dk_ne c144))
                refine lv_iconst (v := 0) hx hb dX6_town_209 (by decide) ?_
                refine dk_Vv (As := [.int 0]) (rest := []) ⟨hx, hb, hml, hown, hts⟩ (fx_X6_must_8 l g z I165_ 0 (dkN_lit (x := 0) (0) rfl) (show dkN [(-1, -1)] (I165_ 340 8) from dkN_sub (by rw [hF79 340 8 rfl]; exact f27_340_8) rfl) hO) (cwV 1 hts gX6_town_X6_must rfl rfl rfl (by decide +kernel) ⟨Nat.le_of_ble_eq_true rfl, Nat.le_of_ble_eq_true rfl⟩) (dk_at340 hW) rfl hK hT hW hS rfl hl.1 rfl (Nat.le_of_ble_eq_true rfl) dX6_town_210 ⟨Nat.zero_le _, Nat.zero_le _⟩ (fun I146 H146 L146 hp146 hW hS => ?_)
                obtain ⟨hF146, hO, hc146⟩ := hp146
                have hF := dkF_call hF hF146 rfl
                have hP := dkPP_F hP hF146 rfl
                obtain ⟨f146_340_7, f146_340_8, x146_0, x146_1, xh146_0, xh146_1, xh146_2, xh146_3, xh146_4, xh146_5, -⟩ := hc146
                have w147 : I165_ 340 8 = I165_ 340 8 := ((hF79 340 8 rfl).trans ((hF27 340 8 rfl).trans rfl))
                have y148 : I146 340 7 = 1 := by have h := xh146_0; exact h
                have w149 : I165_ 340 10 = I165_ 340 10 := ((hF79 340 10 rfl).trans ((hF27 340 10 rfl).trans rfl))
                have y150 : I146 340 8 = I165_ 340 10 := by have h := xh146_1; rw [w149] at h; exact h
                have w151 : I165_ 340 9 = dkTe (I0 345) (I0 340 6) (I165_ 340 10) := ((hF79 340 9 rfl).trans ((hF27 340 9 rfl).trans cx165.1.2.2))
                have y152 : I146 340 9 = dkTe (I0 345) (I0 340 6) (I165_ 340 10) := by have h := xh146_2; rw [w151] at h; exact h
                have y153 : I146 340 10 = I165_ 340 10 := by have h := xh146_3; rw [w149] at h; exact h
                have w154 : I165_ 340 11 = dkTk (I0 345) (I0 340 6) (I165_ 340 10) := ((hF79 340 11 rfl).trans ((hF27 340 11 rfl).trans cx165.1.1))
                have y155 : I146 340 11 = dkTk (I0 345) (I0 340 6) (I165_ 340 10) := by have h := xh146_4; rw [w154] at h; exact h
                have w156 : I165_ 340 12 = dkTv (I0 345) (I0 340 6) (I165_ 340 10) := ((hF79 340 12 rfl).trans ((hF27 340 12 rfl).trans cx165.1.2.1))
                have y157 : I146 340 12 = dkTv (I0 345) (I0 340 6) (I165_ 340 10) := by have h := xh146_5; rw [w156] at h; exact h
                refine lv_aload_n hx hb dX6_town_213 rfl (lv_at hl 0 rfl) ?_
                refine lv_iconst (v := 0) hx hb dX6_town_214 (by decide) ?_
                refine dk_put (k := 340) hx hb hts iX6_town_6 tyX6 tyX6_ok nmX6 hown hK hW (dk_at340 hW) hS rfl 6 (by decide) (hts (.fieldLink RX6 82 "DogKingsModel" "taped" "I") (List.mem_of_getElem? (i := 6) rfl)) rfl rfl (Nat.le_of_ble_eq_true rfl) rfl dX6_town_215 (fun I158 H158 L158 eI158 hW hS => ?_)
                have eI158 : I158 = dkU I146 340 6 0 := eI158
                have hO := dkO_set hO eI158 (dkN_sub (dkN_lit (x := 0) (0) rfl) rfl)
                have hF := dkF_set hF eI158 rfl
                have hP := dkPP_set hP eI158 rfl
                refine lv_aload_n hx hb dX6_town_218 rfl (lv_at hl 0 rfl) ?_
                refine dk_Vi (As := []) (rest := []) ⟨hx, hb, hml, hown, hts⟩ (fx_X6_isWell_7 l g z I158 (show dkN [(0, 90)] (I158 340 8) from dkN_sub (by rw [eI158, dkU_sn (by decide)]; exact f146_340_8) rfl) hO) (cwV 0 hts gX6_town_X6_isWell rfl rfl rfl (by decide +kernel) ⟨Nat.le_of_ble_eq_true rfl, Nat.le_of_ble_eq_true rfl⟩) (dk_at340 hW) rfl hK hT hW hS rfl hl.1 rfl (Nat.le_of_ble_eq_true rfl) dX6_town_219 ⟨Nat.zero_le _, Nat.zero_le _⟩ (fun v159 I159 H159 L159 hp159 hW hS => ?_)
                obtain ⟨hF159, hO, hc159⟩ := hp159
                have hF := dkF_call hF hF159 rfl
                have hP := dkPP_F hP hF159 rfl
                have eI159 : I158 = I159 := (dkF_nil hF159).symm
                subst eI159
                obtain ⟨dv159, f159_340_8, x159_0, xr159, -⟩ := hc159
                have w160 : I158 340 8 = I165_ 340 10 := ((by rw [eI158, dkU_sn (by decide)] : I158 340 8 = _).trans y150)
                have q161 : (0 : Int) + 0 ≤ (I165_ 340 10).toInt := by have h := x159_0; rw [w160] at h; exact h
                have xv159 : v159 = 0 := by have h := xr159; exact h
                refine lv_if_ne (tgt := 233) hx hb dX6_town_222 (by decide) (fun c162 => ?_) (fun c162 => ?_)
                ·
                  exact absurd ((xv159).trans (rfl).symm) c162
                ·
                  refine lv_ldc (v := (-1000100)) hx hb hown (hts (.constant RX6 137 (-1000100)) (List.mem_of_getElem? (i := 7) rfl)) dX6_town_225 ?_
                  refine lv_aload_n hx hb dX6_town_227 rfl (lv_at hl 0 rfl) ?_
                  refine dk_get (k := 340) hx hb hts iX6_town_6 hown hK (dk_at340 hW) rfl 8 (by decide) (hts (.fieldLink RX6 101 "DogKingsModel" "faultPlace" "I") (List.mem_of_getElem? (i := 3) rfl)) rfl dX6_town_228 ?_
                  refine lv_topi (fun v163 ev163 => ?_)
                  have dv163 : dkN [(0, 90)] v163 := by rw [ev163]; exact f159_340_8
                  have xv163 : v163 = I165_ 340 10 := ev163.trans ((hF159 340 8 rfl).trans ((by rw [eI158, dkU_sn (by decide)] : I158 340 8 = _).trans y150))
                  refine lv_isub hx hb dX6_town_231 ?_
                  refine lv_topi (fun v164 ev164 => ?_)
                  have dv164 : dkN [(-1000190, -1000100)] v164 := by rw [ev164]; exact dkN_subt (dkN_lit (x := (-1000100)) (-1000100) rfl) dv163 rfl
                  have xv164 : v164 = (-1000100 : Int32) - (I165_ 340 10) := by rw [ev164, xv163]
                  have q165 : ((-1000100 : Int32) - (I165_ 340 10)).toInt = (-1000100 : Int) - (I165_ 340 10).toInt := by first | (rw [← xv164, ← xv163]; exact (by rw [ev164]; exact dk_subE (dkN_lit (x := (-1000100)) (-1000100) rfl) dv163 rfl)) | (subst xv164 xv163; exact (by rw [ev164]; exact dk_subE (dkN_lit (x := (-1000100)) (-1000100) rfl) dv163 rfl))
                  have i0 : (0 : Int32).toInt = 0 := rfl
                  have i1 : (1 : Int32).toInt = 1 := rfl
                  have i2 : (2 : Int32).toInt = 2 := rfl
                  have i3 : (3 : Int32).toInt = 3 := rfl
                  have i9 : (9 : Int32).toInt = 9 := rfl
                  have i30 : (30 : Int32).toInt = 30 := rfl
                  have i44 : (44 : Int32).toInt = 44 := rfl
                  have i59 : (59 : Int32).toInt = 59 := rfl
                  have i109 : (109 : Int32).toInt = 109 := rfl
                  have i116 : (116 : Int32).toInt = 116 := rfl
                  have hlw : dkLw (I0 345) (I0 340 6) 0 = (0, dkTe (I0 345) (I0 340 6) (dkTe (I0 345) (I0 340 6) (dkTe (I0 345) (I0 340 6) (dkTe (I0 345) (I0 340 6) (dkTe (I0 345) (I0 340 6) (0)))))) := ((dkTh_p (dkK_l (T := (I0 345)) (n := (I0 340 6)) (a := 0) (c := 116) y165_0 (by omega))).trans ((dkTh_p (dkK_0 (T := (I0 345)) (n := (I0 340 6)) (a := dkTe (I0 345) (I0 340 6) (0)) (lo := 3) (hi := 9) y165_2 (by omega) (by omega))).trans ((dkTh_p (dkK_c (T := (I0 345)) (n := (I0 340 6)) (a := dkTe (I0 345) (I0 340 6) (dkTe (I0 345) (I0 340 6) (0))) y165_5)).trans ((dkTh_p (dkK_0 (T := (I0 345)) (n := (I0 340 6)) (a := dkTe (I0 345) (I0 340 6) (dkTe (I0 345) (I0 340 6) (dkTe (I0 345) (I0 340 6) (0)))) (lo := 1) (hi := 30) y165_6 (by omega) (by omega))).trans (dkK_s (T := (I0 345)) (n := (I0 340 6)) (a := dkTe (I0 345) (I0 340 6) (dkTe (I0 345) (I0 340 6) (dkTe (I0 345) (I0 340 6) (dkTe (I0 345) (I0 340 6) (0))))) y165_9)))))
                  have hhh : dkHh (I0 345) (I0 340 6) = (dkTv (I0 345) (I0 340 6) (dkTe (I0 345) (I0 340 6) (0))) := (by unfold dkHh; rw [show dkSg (I0 345) (I0 340 6) 116 0 = (0, dkTe (I0 345) (I0 340 6) (0)) from dkK_l (T := (I0 345)) (n := (I0 340 6)) (a := 0) (c := 116) y165_0 (by omega)]; exact (dkK_v (T := (I0 345)) (n := (I0 340 6)) (a := dkTe (I0 345) (I0 340 6) (0)) (by omega)).symm)
                  have hps : dkPs (I0 345) (I0 340 6) (dkTv (I0 345) (I0 340 6) (dkTe (I0 345) (I0 340 6) (0))) (dkTe (I0 345) (I0 340 6) (dkTe (I0 345) (I0 340 6) (dkTe (I0 345) (I0 340 6) (dkTe (I0 345) (I0 340 6) (dkTe (I0 345) (I0 340 6) (0)))))) = dkPw (I0 345) (I0 340 6) (dkTv (I0 345) (I0 340 6) (dkTe (I0 345) (I0 340 6) (0))) 5 (dkTe (I0 345) (I0 340 6) (dkTe (I0 345) (I0 340 6) (dkTe (I0 345) (I0 340 6) (dkTe (I0 345) (I0 340 6) (dkTe (I0 345) (I0 340 6) (0)))))) := dkPs_w (dkK_l (T := (I0 345)) (n := (I0 340 6)) (a := dkTe (I0 345) (I0 340 6) (dkTe (I0 345) (I0 340 6) (dkTe (I0 345) (I0 340 6) (dkTe (I0 345) (I0 340 6) (dkTe (I0 345) (I0 340 6) (0)))))) (c := 109) y165_10 (by omega))
                  obtain ⟨c9, g1, g2, g3⟩ := cx165.2
                  have hp2 := hps.trans g1
                  have e166 : dkTw (I0 345) (I0 340 6) = (1, I165_ 340 10) := (dkTw_d hlw hhh hp2).trans (dkX2_u g3.1 (by omega) (Or.inr q141))
                  exact W.iret (v := v164) hx hb hr (fun t ht hW9 => ⟨⟨v164, I158, rfl, ⟨hF, hO, hP, Or.inl ⟨dkN_sub dv164 rfl, (show dkN [(0, 0)] (I158 340 6) from dkN_sub (by rw [hF159 340 6 rfl]; exact (by rw [eI158, dkU_ss]; exact (dkN_lit (x := 0) (0) rfl))) rfl), (show dkN [(1, 3)] (I158 340 7) from dkN_sub (by rw [hF159 340 7 rfl]; exact (by rw [eI158, dkU_sn (by decide)]; exact f146_340_7)) rfl), (show dkN [(0, 90)] (I158 340 8) from dkN_sub f159_340_8 rfl), (show dkN [(0, 0), (3, 9)] (I158 347 0) from dkN_sub (by rw [hF159 347 0 rfl]; exact (by rw [eI158, dkU_n (by decide)]; exact (by rw [hF146 347 0 rfl]; exact (by rw [hF79 347 0 rfl]; exact (by rw [hF27 347 0 rfl]; exact f165_2))))) rfl), (dkE_k e166 (by decide)), ((xv164).trans (congrArg (fun y => (-1000100 : Int32) - y) (dkP_2 e166).symm)), (show I158 346 0 = I0 346 0 from ((hF159 346 0 rfl).trans ((by rw [eI158, dkU_n (by decide)] : I158 346 0 = _).trans ((hF146 346 0 rfl).trans ((hF79 346 0 rfl).trans ((hF27 346 0 rfl).trans (by rw [z165_1]))))))), (show I158 346 4 = I0 346 4 from ((hF159 346 4 rfl).trans ((by rw [eI158, dkU_n (by decide)] : I158 346 4 = _).trans ((hF146 346 4 rfl).trans ((hF79 346 4 rfl).trans ((hF27 346 4 rfl).trans (by rw [z165_1]))))))), (show I158 346 5 = I0 346 5 from ((hF159 346 5 rfl).trans ((by rw [eI158, dkU_n (by decide)] : I158 346 5 = _).trans ((hF146 346 5 rfl).trans ((hF79 346 5 rfl).trans ((hF27 346 5 rfl).trans (by rw [z165_1]))))))), (show I158 340 6 = 0 from ((hF159 340 6 rfl).trans (by rw [eI158, dkU_ss]))), (show I158 340 17 = I0 340 17 from ((hF159 340 17 rfl).trans ((by rw [eI158, dkU_sn (by decide)] : I158 340 17 = _).trans ((hF146 340 17 rfl).trans ((hF79 340 17 rfl).trans ((hF27 340 17 rfl).trans zp165_0)))))), (((show I158 340 7 = 1 from ((hF159 340 7 rfl).trans ((by rw [eI158, dkU_sn (by decide)] : I158 340 7 = _).trans y148)))).trans (dkP_1 e166).symm), ((funext fun j => hF159 346 j dkNin_nil).trans ((by rw [eI158, dkU_n (by decide)] : I158 346 = _).trans ((funext fun j => hF146 346 j (dkNin_k rfl dkNin_nil)).trans ((funext fun j => hF79 346 j dkNin_nil).trans ((funext fun j => hF27 346 j dkNin_nil).trans z165_1))))), trivial⟩⟩, dkW_eq ht hW⟩, hS.F ht⟩) hS.2.2 dX6_town_232
              ·
                exact (dkN_nil (show dkN [] v143 from dkN_eq1 dv143 (dkN_lit (x := 0) (0) rfl) (congrArg Int32.toInt c144) rfl)).elim
            ·
              exact (dkN_nil (show dkN [] v79 from dkN_le2 1 (dkN_lit (x := 0) (0) rfl) dv79 (dkc_nle c142) rfl)).elim
  have C134 : ∀ (n : Nat), ∀ (I : dkI) (H : Heap) (locs : List Loc) (ls : Array Slot) (x134_1 : Int32), (6 - (I 347 4).toInt).toNat < n → dkW g z I H → va_S (dkA z) s.heap H locs → dkF [(340, 340, 6, 12), (340, 340, 17, 17), (346, 346, 0, 53), (347, 347, 0, 53)] I0 I → dkOk I → dkPP I → dkN [(54, 54)] x134_1 → dkN [(0, 5)] (I 340 11) → dkN [(-1, -1)] (I 340 8) → dkN [(3, 9)] (I 347 0) → dkN [(1, 30)] (I 347 1) → dkN [(1, 5)] (I 347 4) → dkN [(0, 0)] (I 347 5) → I 345 = I0 345 → I 346 = I0 346 → I 340 17 = I0 340 17 → I 340 6 = I0 340 6 → I 340 7 = I0 340 7 → I 346 0 = I0 346 0 → I 346 4 = I0 346 4 → I 346 5 = I0 346 5 → I 347 0 = dkTv (I0 345) (I0 340 6) (dkTe (I0 345) (I0 340 6) (0)) → (dkTk (I0 345) (I0 340 6) (0)).toInt = (1 : Int) → (dkTv (I0 345) (I0 340 6) (0)).toInt = (116 : Int) → (dkTk (I0 345) (I0 340 6) (dkTe (I0 345) (I0 340 6) (0))).toInt = (2 : Int) → (3 : Int) + 0 ≤ (dkTv (I0 345) (I0 340 6) (dkTe (I0 345) (I0 340 6) (0))).toInt → (dkTv (I0 345) (I0 340 6) (dkTe (I0 345) (I0 340 6) (0))).toInt + 0 ≤ (9 : Int) → (dkTk (I0 345) (I0 340 6) (dkTe (I0 345) (I0 340 6) (dkTe (I0 345) (I0 340 6) (0)))).toInt = (3 : Int) → (dkTk (I0 345) (I0 340 6) (dkTe (I0 345) (I0 340 6) (dkTe (I0 345) (I0 340 6) (dkTe (I0 345) (I0 340 6) (0))))).toInt = (2 : Int) → (1 : Int) + 0 ≤ (dkTv (I0 345) (I0 340 6) (dkTe (I0 345) (I0 340 6) (dkTe (I0 345) (I0 340 6) (dkTe (I0 345) (I0 340 6) (0))))).toInt → (dkTv (I0 345) (I0 340 6) (dkTe (I0 345) (I0 340 6) (dkTe (I0 345) (I0 340 6) (dkTe (I0 345) (I0 340 6) (0))))).toInt + 0 ≤ (30 : Int) → (dkTk (I0 345) (I0 340 6) (dkTe (I0 345) (I0 340 6) (dkTe (I0 345) (I0 340 6) (dkTe (I0 345) (I0 340 6) (dkTe (I0 345) (I0 340 6) (0)))))).toInt = (4 : Int) → (dkTk (I0 345) (I0 340 6) (dkTe (I0 345) (I0 340 6) (dkTe (I0 345) (I0 340 6) (dkTe (I0 345) (I0 340 6) (dkTe (I0 345) (I0 340 6) (dkTe (I0 345) (I0 340 6) (0))))))).toInt = (1 : Int) → (dkTv (I0 345) (I0 340 6) (dkTe (I0 345) (I0 340 6) (dkTe (I0 345) (I0 340 6) (dkTe (I0 345) (I0 340 6) (dkTe (I0 345) (I0 340 6) (dkTe (I0 345) (I0 340 6) (0))))))).toInt = (109 : Int) → (dkMb (I0 345) (I0 340 6) (dkTv (I0 345) (I0 340 6) (dkTe (I0 345) (I0 340 6) (0))) (dkTe (I0 345) (I0 340 6) (dkTe (I0 345) (I0 340 6) (dkTe (I0 345) (I0 340 6) (dkTe (I0 345) (I0 340 6) (dkTe (I0 345) (I0 340 6) (dkTe (I0 345) (I0 340 6) (0)))))))).1 = 0 → (dkSy (I0 345) (I0 340 6) I ∧ dkX1 (I0 345) (I0 340 6) (dkTv (I0 345) (I0 340 6) (dkTe (I0 345) (I0 340 6) (0))) (dkTe (I0 345) (I0 340 6) (dkTe (I0 345) (I0 340 6) (dkTe (I0 345) (I0 340 6) (dkTe (I0 345) (I0 340 6) (dkTe (I0 345) (I0 340 6) (0)))))) (I 340 10) (I 347 4) ∧ I 347 5 = 0) → lv_has ls 2 [(0, .ref (z + 340)), (1, .int x134_1)] → W p l e (headSpec wsX6_town (dkR 6)).room s m args below meth c H locs 0 0 (MQ below (dkQi g z (fun r I1 => dkF [(340, 340, 6, 12), (340, 340, 17, 17), (346, 346, 0, 53), (347, 347, 0, 53)] I0 I1 ∧ dkOk I1 ∧ dkPP I1 ∧ ((dkN [(-1000190, -1000100)] r ∧ dkN [(0, 0)] (I1 340 6) ∧ dkN [(1, 3)] (I1 340 7) ∧ dkN [(0, 90)] (I1 340 8) ∧ dkN [(0, 0), (3, 9)] (I1 347 0) ∧ (dkTw (I0 345) (I0 340 6)).1 ≠ 0 ∧ r = (-1000100 : Int32) - (dkTw (I0 345) (I0 340 6)).2 ∧ I1 346 0 = I0 346 0 ∧ I1 346 4 = I0 346 4 ∧ I1 346 5 = I0 346 5 ∧ I1 340 6 = 0 ∧ I1 340 17 = I0 340 17 ∧ I1 340 7 = (dkTw (I0 345) (I0 340 6)).1 ∧ I1 346  = I0 346 ∧ True) ∨ (dkN [(0, 6)] r ∧ dkN [(0, 0)] (I1 340 11) ∧ dkN [(0, 0)] (I1 340 17) ∧ dkN [(0, 0)] (I1 340 6) ∧ dkN [(-1, -1)] (I1 340 8) ∧ dkN [(3, 9)] (I1 346 0) ∧ dkN [(1, 30)] (I1 346 1) ∧ dkN [(1, 5)] (I1 346 4) ∧ dkN [(3, 9)] (I1 347 0) ∧ dkN [(1, 30)] (I1 347 1) ∧ dkN [(1, 5)] (I1 347 4) ∧ (dkTw (I0 345) (I0 340 6)).1 = 0 ∧ r = dkTd (I0 345) (I0 340 6) ∧ I1 346 0 = dkHh (I0 345) (I0 340 6) ∧ I1 346 4 = dkTp (I0 345) (I0 340 6) ∧ I1 346 5 = dkTd (I0 345) (I0 340 6) ∧ I1 340 6 = 0 ∧ I1 340 17 = 0 ∧ I1 340 7 = I0 340 7 ∧ (∀ j : Nat, j < Int32.toNatClampNeg (dkTd (I0 345) (I0 340 6)) → I1 346 (36 + 3 * j) = dkSs (I0 345) (I0 340 6) j) ∧ True)))) args s 0 0 (dkA z)) (F0 m 134 ls []) := by
    intro n
    induction n with
    | zero => intro I H locs ls x134_1 hn; exact absurd hn (Nat.not_lt_zero _)
    | succ n ih134 =>
      intro I134_ H locs ls x134_1 hn134 hW hS hF_134 hO hP k134_0 f134_0 f134_1 f134_2 f134_3 f134_4 f134_5 z134_0 z134_1 zp134_0 zp134_1 zp134_2 zp134_3 zp134_4 zp134_5 zp134_6 y134_0 y134_1 y134_2 y134_3 y134_4 y134_5 y134_6 y134_7 y134_8 y134_9 y134_10 y134_11 y134_12 cx134 hl
      have hF := hF_134
      refine lv_aload_n hx hb dX6_town_134 rfl (lv_at hl 0 rfl) ?_
      refine dk_Vi (As := []) (rest := []) ⟨hx, hb, hml, hown, hts⟩ (fx_X6_isWell_6 l g z I134_ (show dkN [(-1, -1)] (I134_ 340 8) from dkN_sub f134_1 rfl) hO) (cwV 0 hts gX6_town_X6_isWell rfl rfl rfl (by decide +kernel) ⟨Nat.le_of_ble_eq_true rfl, Nat.le_of_ble_eq_true rfl⟩) (dk_at340 hW) rfl hK hT hW hS rfl hl.1 rfl (Nat.le_of_ble_eq_true rfl) dX6_town_135 ⟨Nat.zero_le _, Nat.zero_le _⟩ (fun v167 I167 H167 L167 hp167 hW hS => ?_)
      obtain ⟨hF167, hO, hc167⟩ := hp167
      have hF := dkF_call hF hF167 rfl
      have hP := dkPP_F hP hF167 rfl
      have eI167 : I134_ = I167 := (dkF_nil hF167).symm
      subst eI167
      obtain ⟨dv167, f167_340_8, x167_0, xr167, -⟩ := hc167
      have w168 : I134_ 340 8 = I134_ 340 8 := rfl
      have q169 : (I134_ 340 8).toInt + 1 ≤ (0 : Int) := by have h := x167_0; rw [w168] at h; exact h
      have xv167 : v167 = 1 := by have h := xr167; exact h
      refine lv_if_eq (tgt := 165) hx hb dX6_town_138 (by decide) (fun c170 => ?_) (fun c170 => ?_)
      ·
        exact (dkN_nil (show dkN [] v167 from dkN_eq1 dv167 (dkN_lit (x := 0) (0) rfl) (congrArg Int32.toInt c170) rfl)).elim
      ·
        refine lv_aload_n hx hb dX6_town_141 rfl (lv_at hl 0 rfl) ?_
        refine dk_get (k := 340) hx hb hts iX6_town_6 hown hK (dk_at340 hW) rfl 11 (by decide) (hts (.fieldLink RX6 98 "DogKingsModel" "token" "I") (List.mem_of_getElem? (i := 4) rfl)) rfl dX6_town_142 ?_
        refine lv_topi (fun v171 ev171 => ?_)
        have dv171 : dkN [(0, 5)] v171 := by rw [ev171]; exact (by rw [hF167 340 11 rfl]; exact f134_0)
        have xv171 : v171 = dkTk (I0 345) (I0 340 6) (I134_ 340 10) := ev171.trans ((hF167 340 11 rfl).trans cx134.1.1)
        refine lv_iconst (v := 1) hx hb dX6_town_145 (by decide) ?_
        refine lv_icmp_ne (tgt := 165) hx hb dX6_town_146 (by decide) (fun c172 => ?_) (fun c172 => ?_)
        ·
          have q173 : (dkTk (I0 345) (I0 340 6) (I134_ 340 10)).toInt ≠ (1 : Int) := by first | (rw [← xv171]; exact (dk_ne c172)) | (subst xv171; exact (dk_ne c172))
          have d174 : dkN [(0, 0), (2, 5)] v171 := dkN_ne1 (1) dv171 (dkN_lit (x := 1) (1) rfl) (dk_ne c172) rfl
          have f175 : dkN [(0, 0), (2, 5)] (I134_ 340 11) := by rw [← ev171]; exact d174
          exact C165 _ I134_ _ _ ls x134_1 (Nat.lt_succ_self _) hW hS hF hO hP (dkN_sub k134_0 rfl) (show dkN [(0, 5)] (I134_ 340 11) from dkN_sub f175 rfl) (show dkN [(-1, -1)] (I134_ 340 8) from dkN_sub f167_340_8 rfl) (show dkN [(3, 9)] (I134_ 347 0) from dkN_sub (by rw [hF167 347 0 rfl]; exact f134_2) rfl) (show dkN [(1, 30)] (I134_ 347 1) from dkN_sub (by rw [hF167 347 1 rfl]; exact f134_3) rfl) (show dkN [(1, 5)] (I134_ 347 4) from dkN_sub (by rw [hF167 347 4 rfl]; exact f134_4) rfl) ((funext fun j => hF167 345 j dkNin_nil).trans z134_0) ((funext fun j => hF167 346 j dkNin_nil).trans z134_1) ((hF167 340 17 rfl).trans zp134_0) ((hF167 340 6 rfl).trans zp134_1) ((hF167 340 7 rfl).trans zp134_2) ((hF167 346 0 rfl).trans (by rw [z134_1])) ((hF167 346 4 rfl).trans (by rw [z134_1])) ((hF167 346 5 rfl).trans (by rw [z134_1])) ((hF167 347 0 rfl).trans zp134_6) y134_0 y134_1 y134_2 y134_3 y134_4 y134_5 y134_6 y134_7 y134_8 y134_9 y134_10 y134_11 y134_12 ⟨cx134.1, _, (dkX1_e cx134.2.1 (by omega)).1, (dkX1_e cx134.2.1 (by omega)).2, (by rw [cx134.2.2]; exact dkX4_0)⟩ (lv_sub hl [0, 1] rfl)
        ·
          have q176 : (dkTk (I0 345) (I0 340 6) (I134_ 340 10)).toInt = (1 : Int) := by first | (rw [← xv171]; exact (congrArg Int32.toInt c172)) | (subst xv171; exact (congrArg Int32.toInt c172))
          have d177 : dkN [(1, 1)] v171 := dkN_eq1 dv171 (dkN_lit (x := 1) (1) rfl) (congrArg Int32.toInt c172) rfl
          have f178 : dkN [(1, 1)] (I134_ 340 11) := by rw [← ev171]; exact d177
          refine lv_aload_n hx hb dX6_town_149 rfl (lv_at hl 0 rfl) ?_
          refine dk_get (k := 340) hx hb hts iX6_town_6 hown hK (dk_at340 hW) rfl 12 (by decide) (hts (.fieldLink RX6 95 "DogKingsModel" "value" "I") (List.mem_of_getElem? (i := 5) rfl)) rfl dX6_town_150 ?_
          refine lv_topi (fun v179 ev179 => ?_)
          have xv179 : v179 = dkTv (I0 345) (I0 340 6) (I134_ 340 10) := ev179.trans ((hF167 340 12 rfl).trans cx134.1.2.1)
          refine lv_bipush (v := 109) hx hb dX6_town_153 (by decide) ?_
          refine lv_icmp_ne (tgt := 165) hx hb dX6_town_155 (by decide) (fun c180 => ?_) (fun c180 => ?_)
          ·
            have q181 : (dkTv (I0 345) (I0 340 6) (I134_ 340 10)).toInt ≠ (109 : Int) := by first | (rw [← xv179]; exact (dk_ne c180)) | (subst xv179; exact (dk_ne c180))
            have d182 : dkN [(-2147483648, 108), (110, 2147483647)] v179 := dkN_ne1 (109) (dkN_top v179) (dkN_lit (x := 109) (109) rfl) (dk_ne c180) rfl
            have f183 : dkN [(-2147483648, 108), (110, 2147483647)] (I134_ 340 12) := by rw [← ev179]; exact d182
            exact C165 _ I134_ _ _ ls x134_1 (Nat.lt_succ_self _) hW hS hF hO hP (dkN_sub k134_0 rfl) (show dkN [(0, 5)] (I134_ 340 11) from dkN_sub f178 rfl) (show dkN [(-1, -1)] (I134_ 340 8) from dkN_sub f167_340_8 rfl) (show dkN [(3, 9)] (I134_ 347 0) from dkN_sub (by rw [hF167 347 0 rfl]; exact f134_2) rfl) (show dkN [(1, 30)] (I134_ 347 1) from dkN_sub (by rw [hF167 347 1 rfl]; exact f134_3) rfl) (show dkN [(1, 5)] (I134_ 347 4) from dkN_sub (by rw [hF167 347 4 rfl]; exact f134_4) rfl) ((funext fun j => hF167 345 j dkNin_nil).trans z134_0) ((funext fun j => hF167 346 j dkNin_nil).trans z134_1) ((hF167 340 17 rfl).trans zp134_0) ((hF167 340 6 rfl).trans zp134_1) ((hF167 340 7 rfl).trans zp134_2) ((hF167 346 0 rfl).trans (by rw [z134_1])) ((hF167 346 4 rfl).trans (by rw [z134_1])) ((hF167 346 5 rfl).trans (by rw [z134_1])) ((hF167 347 0 rfl).trans zp134_6) y134_0 y134_1 y134_2 y134_3 y134_4 y134_5 y134_6 y134_7 y134_8 y134_9 y134_10 y134_11 y134_12 ⟨cx134.1, _, (dkX1_e cx134.2.1 (by omega)).1, (dkX1_e cx134.2.1 (by omega)).2, (by rw [cx134.2.2]; exact dkX4_0)⟩ (lv_sub hl [0, 1] rfl)
          ·
            have q184 : (dkTv (I0 345) (I0 340 6) (I134_ 340 10)).toInt = (109 : Int) := by first | (rw [← xv179]; exact (congrArg Int32.toInt c180)) | (subst xv179; exact (congrArg Int32.toInt c180))
            have d185 : dkN [(109, 109)] v179 := dkN_eq1 (dkN_top v179) (dkN_lit (x := 109) (109) rfl) (congrArg Int32.toInt c180) rfl
            have f186 : dkN [(109, 109)] (I134_ 340 12) := by rw [← ev179]; exact d185
            refine lv_aload_n hx hb dX6_town_158 rfl (lv_at hl 0 rfl) ?_
            refine dk_Vv (As := []) (rest := []) ⟨hx, hb, hml, hown, hts⟩ (fx_X6_readsPerson_1 l g z I134_ (show dkN [(-1, -1)] (I134_ 340 8) from dkN_sub f167_340_8 rfl) (show dkN [(3, 9)] (I134_ 347 0) from dkN_sub (by rw [hF167 347 0 rfl]; exact f134_2) rfl) hO) (cwV 0 hts gX6_town_X6_readsPerson rfl rfl rfl (by decide +kernel) ⟨Nat.le_of_ble_eq_true rfl, Nat.le_of_ble_eq_true rfl⟩) (dk_at340 hW) rfl hK hT hW hS rfl hl.1 rfl (Nat.le_of_ble_eq_true rfl) dX6_town_159 ⟨Nat.zero_le _, Nat.zero_le _⟩ (fun I187 H187 L187 hp187 hW hS => ?_)
            obtain ⟨hF187, hO, hc187⟩ := hp187
            have hF := dkF_call hF hF187 rfl
            have hP := dkPP_F hP hF187 rfl
            rcases hc187 with ⟨f187_340_7, f187_340_8, f187_347_0, f187_347_4, x187_0, xh187_0, xh187_1, xh187_2, xh187_3, xh187_4, -⟩ | hc187
            ·
              have w188 : I134_ 347 4 = I134_ 347 4 := ((hF167 347 4 rfl).trans rfl)
              have q189 : (5 : Int) + 0 ≤ (I134_ 347 4).toInt := by have h := x187_0; rw [w188] at h; exact h
              have y190 : I187 340 7 = 3 := by have h := xh187_0; exact h
              have w191 : I134_ 340 10 = I134_ 340 10 := ((hF167 340 10 rfl).trans rfl)
              have y192 : I187 340 8 = I134_ 340 10 := by have h := xh187_1; rw [w191] at h; exact h
              have w193 : I134_ 347 0 = dkTv (I0 345) (I0 340 6) (dkTe (I0 345) (I0 340 6) (0)) := ((hF167 347 0 rfl).trans zp134_6)
              have y194 : I187 347 0 = dkTv (I0 345) (I0 340 6) (dkTe (I0 345) (I0 340 6) (0)) := by have h := xh187_2; rw [w193] at h; exact h
              have y195 : I187 347 4 = I134_ 347 4 := by have h := xh187_3; rw [w188] at h; exact h
              have w196 : I134_ 347 5 = 0 := ((hF167 347 5 rfl).trans cx134.2.2)
              have y197 : I187 347 5 = 0 := by have h := xh187_4; rw [w196] at h; exact h
              refine lv_goto (tgt := 134) hx hb dX6_town_162 (by decide) ?_
              refine lv_aload_n hx hb dX6_town_134 rfl (lv_at hl 0 rfl) ?_
              refine dk_Vi (As := []) (rest := []) ⟨hx, hb, hml, hown, hts⟩ (fx_X6_isWell_7 l g z I187 (show dkN [(0, 90)] (I187 340 8) from dkN_sub f187_340_8 rfl) hO) (cwV 0 hts gX6_town_X6_isWell rfl rfl rfl (by decide +kernel) ⟨Nat.le_of_ble_eq_true rfl, Nat.le_of_ble_eq_true rfl⟩) (dk_at340 hW) rfl hK hT hW hS rfl hl.1 rfl (Nat.le_of_ble_eq_true rfl) dX6_town_135 ⟨Nat.zero_le _, Nat.zero_le _⟩ (fun v198 I198 H198 L198 hp198 hW hS => ?_)
              obtain ⟨hF198, hO, hc198⟩ := hp198
              have hF := dkF_call hF hF198 rfl
              have hP := dkPP_F hP hF198 rfl
              have eI198 : I187 = I198 := (dkF_nil hF198).symm
              subst eI198
              obtain ⟨dv198, f198_340_8, x198_0, xr198, -⟩ := hc198
              have w199 : I187 340 8 = I134_ 340 10 := y192
              have q200 : (0 : Int) + 0 ≤ (I134_ 340 10).toInt := by have h := x198_0; rw [w199] at h; exact h
              have xv198 : v198 = 0 := by have h := xr198; exact h
              refine lv_if_eq (tgt := 165) hx hb dX6_town_138 (by decide) (fun c201 => ?_) (fun c201 => ?_)
              ·
                refine lv_aload_n hx hb dX6_town_165 rfl (lv_at hl 0 rfl) ?_
                refine dk_Vi (As := []) (rest := []) ⟨hx, hb, hml, hown, hts⟩ (fx_X6_isWell_7 l g z I187 (show dkN [(0, 90)] (I187 340 8) from dkN_sub f198_340_8 rfl) hO) (cwV 0 hts gX6_town_X6_isWell rfl rfl rfl (by decide +kernel) ⟨Nat.le_of_ble_eq_true rfl, Nat.le_of_ble_eq_true rfl⟩) (dk_at340 hW) rfl hK hT hW hS rfl hl.1 rfl (Nat.le_of_ble_eq_true rfl) dX6_town_166 ⟨Nat.zero_le _, Nat.zero_le _⟩ (fun v202 I202 H202 L202 hp202 hW hS => ?_)
                obtain ⟨hF202, hO, hc202⟩ := hp202
                have hF := dkF_call hF hF202 rfl
                have hP := dkPP_F hP hF202 rfl
                have eI202 : I187 = I202 := (dkF_nil hF202).symm
                subst eI202
                obtain ⟨dv202, f202_340_8, x202_0, xr202, -⟩ := hc202
                have w203 : I187 340 8 = I134_ 340 10 := ((hF198 340 8 rfl).trans y192)
                have xv202 : v202 = 0 := by have h := xr202; exact h
                refine lv_if_eq (tgt := 197) hx hb dX6_town_169 (by decide) (fun c204 => ?_) (fun c204 => ?_)
                ·
                  have i0 : (0 : Int32).toInt = 0 := rfl
                  have i1 : (1 : Int32).toInt = 1 := rfl
                  have i2 : (2 : Int32).toInt = 2 := rfl
                  have i3 : (3 : Int32).toInt = 3 := rfl
                  have i9 : (9 : Int32).toInt = 9 := rfl
                  have i30 : (30 : Int32).toInt = 30 := rfl
                  have i44 : (44 : Int32).toInt = 44 := rfl
                  have i59 : (59 : Int32).toInt = 59 := rfl
                  have i109 : (109 : Int32).toInt = 109 := rfl
                  have i116 : (116 : Int32).toInt = 116 := rfl
                  have hlw : dkLw (I0 345) (I0 340 6) 0 = (0, dkTe (I0 345) (I0 340 6) (dkTe (I0 345) (I0 340 6) (dkTe (I0 345) (I0 340 6) (dkTe (I0 345) (I0 340 6) (dkTe (I0 345) (I0 340 6) (0)))))) := ((dkTh_p (dkK_l (T := (I0 345)) (n := (I0 340 6)) (a := 0) (c := 116) y134_0 (by omega))).trans ((dkTh_p (dkK_0 (T := (I0 345)) (n := (I0 340 6)) (a := dkTe (I0 345) (I0 340 6) (0)) (lo := 3) (hi := 9) y134_2 (by omega) (by omega))).trans ((dkTh_p (dkK_c (T := (I0 345)) (n := (I0 340 6)) (a := dkTe (I0 345) (I0 340 6) (dkTe (I0 345) (I0 340 6) (0))) y134_5)).trans ((dkTh_p (dkK_0 (T := (I0 345)) (n := (I0 340 6)) (a := dkTe (I0 345) (I0 340 6) (dkTe (I0 345) (I0 340 6) (dkTe (I0 345) (I0 340 6) (0)))) (lo := 1) (hi := 30) y134_6 (by omega) (by omega))).trans (dkK_s (T := (I0 345)) (n := (I0 340 6)) (a := dkTe (I0 345) (I0 340 6) (dkTe (I0 345) (I0 340 6) (dkTe (I0 345) (I0 340 6) (dkTe (I0 345) (I0 340 6) (0))))) y134_9)))))
                  have hhh : dkHh (I0 345) (I0 340 6) = (dkTv (I0 345) (I0 340 6) (dkTe (I0 345) (I0 340 6) (0))) := (by unfold dkHh; rw [show dkSg (I0 345) (I0 340 6) 116 0 = (0, dkTe (I0 345) (I0 340 6) (0)) from dkK_l (T := (I0 345)) (n := (I0 340 6)) (a := 0) (c := 116) y134_0 (by omega)]; exact (dkK_v (T := (I0 345)) (n := (I0 340 6)) (a := dkTe (I0 345) (I0 340 6) (0)) (by omega)).symm)
                  have hps : dkPs (I0 345) (I0 340 6) (dkTv (I0 345) (I0 340 6) (dkTe (I0 345) (I0 340 6) (0))) (dkTe (I0 345) (I0 340 6) (dkTe (I0 345) (I0 340 6) (dkTe (I0 345) (I0 340 6) (dkTe (I0 345) (I0 340 6) (dkTe (I0 345) (I0 340 6) (0)))))) = dkPw (I0 345) (I0 340 6) (dkTv (I0 345) (I0 340 6) (dkTe (I0 345) (I0 340 6) (0))) 5 (dkTe (I0 345) (I0 340 6) (dkTe (I0 345) (I0 340 6) (dkTe (I0 345) (I0 340 6) (dkTe (I0 345) (I0 340 6) (dkTe (I0 345) (I0 340 6) (0)))))) := dkPs_w (dkK_l (T := (I0 345)) (n := (I0 340 6)) (a := dkTe (I0 345) (I0 340 6) (dkTe (I0 345) (I0 340 6) (dkTe (I0 345) (I0 340 6) (dkTe (I0 345) (I0 340 6) (dkTe (I0 345) (I0 340 6) (0)))))) (c := 109) y134_10 (by omega))
                  have e205 : dkTw (I0 345) (I0 340 6) = (3, I134_ 340 10) := dkTw_p hlw hhh (hps.trans (dkX1_o cx134.2.1 (by omega) (by omega) (by omega))) (by decide)
                  exact C197 I187 _ _ ls x134_1 hW hS hF hO hP (dkN_sub k134_0 rfl) (show dkN [(1, 3)] (I187 340 7) from dkN_sub (by rw [hF202 340 7 rfl]; exact (by rw [hF198 340 7 rfl]; exact f187_340_7)) rfl) (show dkN [(0, 90)] (I187 340 8) from dkN_sub f202_340_8 rfl) (show dkN [(0, 0), (3, 9)] (I187 347 0) from dkN_sub (by rw [hF202 347 0 rfl]; exact (by rw [hF198 347 0 rfl]; exact f187_347_0)) rfl) ((funext fun j => hF202 345 j dkNin_nil).trans ((funext fun j => hF198 345 j dkNin_nil).trans ((funext fun j => hF187 345 j (dkNin_k rfl (dkNin_k rfl (dkNin_k rfl dkNin_nil)))).trans ((funext fun j => hF167 345 j dkNin_nil).trans z134_0)))) ((funext fun j => hF202 346 j dkNin_nil).trans ((funext fun j => hF198 346 j dkNin_nil).trans ((funext fun j => hF187 346 j (dkNin_k rfl (dkNin_k rfl (dkNin_k rfl dkNin_nil)))).trans ((funext fun j => hF167 346 j dkNin_nil).trans z134_1)))) ((hF202 340 17 rfl).trans ((hF198 340 17 rfl).trans ((hF187 340 17 rfl).trans ((hF167 340 17 rfl).trans zp134_0)))) ((hF202 340 6 rfl).trans ((hF198 340 6 rfl).trans ((hF187 340 6 rfl).trans ((hF167 340 6 rfl).trans zp134_1)))) ((hF202 346 0 rfl).trans ((hF198 346 0 rfl).trans ((hF187 346 0 rfl).trans ((hF167 346 0 rfl).trans (by rw [z134_1]))))) ((hF202 346 4 rfl).trans ((hF198 346 4 rfl).trans ((hF187 346 4 rfl).trans ((hF167 346 4 rfl).trans (by rw [z134_1]))))) ((hF202 346 5 rfl).trans ((hF198 346 5 rfl).trans ((hF187 346 5 rfl).trans ((hF167 346 5 rfl).trans (by rw [z134_1]))))) ⟨(dkE_k e205 (by decide)), (((show I187 340 7 = 3 from ((hF202 340 7 rfl).trans ((hF198 340 7 rfl).trans y190)))).trans (dkP_1 e205).symm), (((show I187 340 8 = I134_ 340 10 from ((hF202 340 8 rfl).trans ((hF198 340 8 rfl).trans y192)))).trans (dkP_2 e205).symm)⟩ (lv_sub hl [0, 1] rfl)
                ·
                  exact absurd ((xv202).trans (rfl).symm) c204
              ·
                exact absurd ((xv198).trans (rfl).symm) c201
            rcases hc187 with ⟨f187_340_7, f187_340_8, f187_347_0, f187_347_4, x187_0, x187_1, xh187_0, xh187_1, xh187_2, xh187_3, xh187_4, -⟩ | hc187
            ·
              have w206 : I134_ 347 4 = I134_ 347 4 := ((hF167 347 4 rfl).trans rfl)
              have q207 : (I134_ 347 4).toInt + 1 ≤ (5 : Int) := by have h := x187_0; rw [w206] at h; exact h
              have w208 : I134_ 345 = I0 345 := ((funext fun j => hF167 345 j dkNin_nil).trans z134_0)
              have w209 : I134_ 340 6 = I0 340 6 := ((hF167 340 6 rfl).trans zp134_1)
              have w210 : I134_ 347 0 = dkTv (I0 345) (I0 340 6) (dkTe (I0 345) (I0 340 6) (0)) := ((hF167 347 0 rfl).trans zp134_6)
              have w211 : I134_ 340 9 = dkTe (I0 345) (I0 340 6) (I134_ 340 10) := ((hF167 340 9 rfl).trans cx134.1.2.2)
              have q212 : (dkMb (I0 345) (I0 340 6) (dkTv (I0 345) (I0 340 6) (dkTe (I0 345) (I0 340 6) (0))) (dkTe (I0 345) (I0 340 6) (I134_ 340 10))).1 ≠ 0 := by have h := x187_1; rw [w208, w209, w210, w211] at h; exact h
              have y213 : I187 340 7 = (dkMb (I0 345) (I0 340 6) (dkTv (I0 345) (I0 340 6) (dkTe (I0 345) (I0 340 6) (0))) (dkTe (I0 345) (I0 340 6) (I134_ 340 10))).1 := by have h := xh187_0; rw [w208, w209, w210, w211] at h; exact h
              have y214 : I187 340 8 = (dkMb (I0 345) (I0 340 6) (dkTv (I0 345) (I0 340 6) (dkTe (I0 345) (I0 340 6) (0))) (dkTe (I0 345) (I0 340 6) (I134_ 340 10))).2 := by have h := xh187_1; rw [w208, w209, w210, w211] at h; exact h
              have y215 : I187 347 0 = dkTv (I0 345) (I0 340 6) (dkTe (I0 345) (I0 340 6) (0)) := by have h := xh187_2; rw [w210] at h; exact h
              have y216 : I187 347 4 = I134_ 347 4 := by have h := xh187_3; rw [w206] at h; exact h
              have w217 : I134_ 347 5 = 0 := ((hF167 347 5 rfl).trans cx134.2.2)
              have y218 : I187 347 5 = 0 := by have h := xh187_4; rw [w217] at h; exact h
              refine lv_goto (tgt := 134) hx hb dX6_town_162 (by decide) ?_
              refine lv_aload_n hx hb dX6_town_134 rfl (lv_at hl 0 rfl) ?_
              refine dk_Vi (As := []) (rest := []) ⟨hx, hb, hml, hown, hts⟩ (fx_X6_isWell_7 l g z I187 (show dkN [(0, 90)] (I187 340 8) from dkN_sub f187_340_8 rfl) hO) (cwV 0 hts gX6_town_X6_isWell rfl rfl rfl (by decide +kernel) ⟨Nat.le_of_ble_eq_true rfl, Nat.le_of_ble_eq_true rfl⟩) (dk_at340 hW) rfl hK hT hW hS rfl hl.1 rfl (Nat.le_of_ble_eq_true rfl) dX6_town_135 ⟨Nat.zero_le _, Nat.zero_le _⟩ (fun v219 I219 H219 L219 hp219 hW hS => ?_)
              obtain ⟨hF219, hO, hc219⟩ := hp219
              have hF := dkF_call hF hF219 rfl
              have hP := dkPP_F hP hF219 rfl
              have eI219 : I187 = I219 := (dkF_nil hF219).symm
              subst eI219
              obtain ⟨dv219, f219_340_8, x219_0, xr219, -⟩ := hc219
              have w220 : I187 340 8 = (dkMb (I0 345) (I0 340 6) (dkTv (I0 345) (I0 340 6) (dkTe (I0 345) (I0 340 6) (0))) (dkTe (I0 345) (I0 340 6) (I134_ 340 10))).2 := y214
              have q221 : (0 : Int) + 0 ≤ ((dkMb (I0 345) (I0 340 6) (dkTv (I0 345) (I0 340 6) (dkTe (I0 345) (I0 340 6) (0))) (dkTe (I0 345) (I0 340 6) (I134_ 340 10))).2).toInt := by have h := x219_0; rw [w220] at h; exact h
              have xv219 : v219 = 0 := by have h := xr219; exact h
              refine lv_if_eq (tgt := 165) hx hb dX6_town_138 (by decide) (fun c222 => ?_) (fun c222 => ?_)
              ·
                refine lv_aload_n hx hb dX6_town_165 rfl (lv_at hl 0 rfl) ?_
                refine dk_Vi (As := []) (rest := []) ⟨hx, hb, hml, hown, hts⟩ (fx_X6_isWell_7 l g z I187 (show dkN [(0, 90)] (I187 340 8) from dkN_sub f219_340_8 rfl) hO) (cwV 0 hts gX6_town_X6_isWell rfl rfl rfl (by decide +kernel) ⟨Nat.le_of_ble_eq_true rfl, Nat.le_of_ble_eq_true rfl⟩) (dk_at340 hW) rfl hK hT hW hS rfl hl.1 rfl (Nat.le_of_ble_eq_true rfl) dX6_town_166 ⟨Nat.zero_le _, Nat.zero_le _⟩ (fun v223 I223 H223 L223 hp223 hW hS => ?_)
                obtain ⟨hF223, hO, hc223⟩ := hp223
                have hF := dkF_call hF hF223 rfl
                have hP := dkPP_F hP hF223 rfl
                have eI223 : I187 = I223 := (dkF_nil hF223).symm
                subst eI223
                obtain ⟨dv223, f223_340_8, x223_0, xr223, -⟩ := hc223
                have w224 : I187 340 8 = (dkMb (I0 345) (I0 340 6) (dkTv (I0 345) (I0 340 6) (dkTe (I0 345) (I0 340 6) (0))) (dkTe (I0 345) (I0 340 6) (I134_ 340 10))).2 := ((hF219 340 8 rfl).trans y214)
                have xv223 : v223 = 0 := by have h := xr223; exact h
                refine lv_if_eq (tgt := 197) hx hb dX6_town_169 (by decide) (fun c225 => ?_) (fun c225 => ?_)
                ·
                  have i0 : (0 : Int32).toInt = 0 := rfl
                  have i1 : (1 : Int32).toInt = 1 := rfl
                  have i2 : (2 : Int32).toInt = 2 := rfl
                  have i3 : (3 : Int32).toInt = 3 := rfl
                  have i9 : (9 : Int32).toInt = 9 := rfl
                  have i30 : (30 : Int32).toInt = 30 := rfl
                  have i44 : (44 : Int32).toInt = 44 := rfl
                  have i59 : (59 : Int32).toInt = 59 := rfl
                  have i109 : (109 : Int32).toInt = 109 := rfl
                  have i116 : (116 : Int32).toInt = 116 := rfl
                  have hlw : dkLw (I0 345) (I0 340 6) 0 = (0, dkTe (I0 345) (I0 340 6) (dkTe (I0 345) (I0 340 6) (dkTe (I0 345) (I0 340 6) (dkTe (I0 345) (I0 340 6) (dkTe (I0 345) (I0 340 6) (0)))))) := ((dkTh_p (dkK_l (T := (I0 345)) (n := (I0 340 6)) (a := 0) (c := 116) y134_0 (by omega))).trans ((dkTh_p (dkK_0 (T := (I0 345)) (n := (I0 340 6)) (a := dkTe (I0 345) (I0 340 6) (0)) (lo := 3) (hi := 9) y134_2 (by omega) (by omega))).trans ((dkTh_p (dkK_c (T := (I0 345)) (n := (I0 340 6)) (a := dkTe (I0 345) (I0 340 6) (dkTe (I0 345) (I0 340 6) (0))) y134_5)).trans ((dkTh_p (dkK_0 (T := (I0 345)) (n := (I0 340 6)) (a := dkTe (I0 345) (I0 340 6) (dkTe (I0 345) (I0 340 6) (dkTe (I0 345) (I0 340 6) (0)))) (lo := 1) (hi := 30) y134_6 (by omega) (by omega))).trans (dkK_s (T := (I0 345)) (n := (I0 340 6)) (a := dkTe (I0 345) (I0 340 6) (dkTe (I0 345) (I0 340 6) (dkTe (I0 345) (I0 340 6) (dkTe (I0 345) (I0 340 6) (0))))) y134_9)))))
                  have hhh : dkHh (I0 345) (I0 340 6) = (dkTv (I0 345) (I0 340 6) (dkTe (I0 345) (I0 340 6) (0))) := (by unfold dkHh; rw [show dkSg (I0 345) (I0 340 6) 116 0 = (0, dkTe (I0 345) (I0 340 6) (0)) from dkK_l (T := (I0 345)) (n := (I0 340 6)) (a := 0) (c := 116) y134_0 (by omega)]; exact (dkK_v (T := (I0 345)) (n := (I0 340 6)) (a := dkTe (I0 345) (I0 340 6) (0)) (by omega)).symm)
                  have hps : dkPs (I0 345) (I0 340 6) (dkTv (I0 345) (I0 340 6) (dkTe (I0 345) (I0 340 6) (0))) (dkTe (I0 345) (I0 340 6) (dkTe (I0 345) (I0 340 6) (dkTe (I0 345) (I0 340 6) (dkTe (I0 345) (I0 340 6) (dkTe (I0 345) (I0 340 6) (0)))))) = dkPw (I0 345) (I0 340 6) (dkTv (I0 345) (I0 340 6) (dkTe (I0 345) (I0 340 6) (0))) 5 (dkTe (I0 345) (I0 340 6) (dkTe (I0 345) (I0 340 6) (dkTe (I0 345) (I0 340 6) (dkTe (I0 345) (I0 340 6) (dkTe (I0 345) (I0 340 6) (0)))))) := dkPs_w (dkK_l (T := (I0 345)) (n := (I0 340 6)) (a := dkTe (I0 345) (I0 340 6) (dkTe (I0 345) (I0 340 6) (dkTe (I0 345) (I0 340 6) (dkTe (I0 345) (I0 340 6) (dkTe (I0 345) (I0 340 6) (0)))))) (c := 109) y134_10 (by omega))
                  have e2260 := dkX1_f cx134.2.1 (by omega) (by omega) (by omega) q212
                  have e226 : dkTw (I0 345) (I0 340 6) = ((dkMb (I0 345) (I0 340 6) (dkTv (I0 345) (I0 340 6) (dkTe (I0 345) (I0 340 6) (0))) (dkTe (I0 345) (I0 340 6) (I134_ 340 10))).1, (dkMb (I0 345) (I0 340 6) (dkTv (I0 345) (I0 340 6) (dkTe (I0 345) (I0 340 6) (0))) (dkTe (I0 345) (I0 340 6) (I134_ 340 10))).2) := dkTw_p hlw hhh (hps.trans e2260) q212
                  exact C197 I187 _ _ ls x134_1 hW hS hF hO hP (dkN_sub k134_0 rfl) (show dkN [(1, 3)] (I187 340 7) from dkN_sub (by rw [hF223 340 7 rfl]; exact (by rw [hF219 340 7 rfl]; exact f187_340_7)) rfl) (show dkN [(0, 90)] (I187 340 8) from dkN_sub f223_340_8 rfl) (show dkN [(0, 0), (3, 9)] (I187 347 0) from dkN_sub (by rw [hF223 347 0 rfl]; exact (by rw [hF219 347 0 rfl]; exact f187_347_0)) rfl) ((funext fun j => hF223 345 j dkNin_nil).trans ((funext fun j => hF219 345 j dkNin_nil).trans ((funext fun j => hF187 345 j (dkNin_k rfl (dkNin_k rfl (dkNin_k rfl dkNin_nil)))).trans ((funext fun j => hF167 345 j dkNin_nil).trans z134_0)))) ((funext fun j => hF223 346 j dkNin_nil).trans ((funext fun j => hF219 346 j dkNin_nil).trans ((funext fun j => hF187 346 j (dkNin_k rfl (dkNin_k rfl (dkNin_k rfl dkNin_nil)))).trans ((funext fun j => hF167 346 j dkNin_nil).trans z134_1)))) ((hF223 340 17 rfl).trans ((hF219 340 17 rfl).trans ((hF187 340 17 rfl).trans ((hF167 340 17 rfl).trans zp134_0)))) ((hF223 340 6 rfl).trans ((hF219 340 6 rfl).trans ((hF187 340 6 rfl).trans ((hF167 340 6 rfl).trans zp134_1)))) ((hF223 346 0 rfl).trans ((hF219 346 0 rfl).trans ((hF187 346 0 rfl).trans ((hF167 346 0 rfl).trans (by rw [z134_1]))))) ((hF223 346 4 rfl).trans ((hF219 346 4 rfl).trans ((hF187 346 4 rfl).trans ((hF167 346 4 rfl).trans (by rw [z134_1]))))) ((hF223 346 5 rfl).trans ((hF219 346 5 rfl).trans ((hF187 346 5 rfl).trans ((hF167 346 5 rfl).trans (by rw [z134_1]))))) ⟨(fun q => q212 ((dkP_1 e226).symm.trans q)), (((show I187 340 7 = (dkMb (I0 345) (I0 340 6) (dkTv (I0 345) (I0 340 6) (dkTe (I0 345) (I0 340 6) (0))) (dkTe (I0 345) (I0 340 6) (I134_ 340 10))).1 from ((hF223 340 7 rfl).trans ((hF219 340 7 rfl).trans y213)))).trans (dkP_1 e226).symm), (((show I187 340 8 = (dkMb (I0 345) (I0 340 6) (dkTv (I0 345) (I0 340 6) (dkTe (I0 345) (I0 340 6) (0))) (dkTe (I0 345) (I0 340 6) (I134_ 340 10))).2 from ((hF223 340 8 rfl).trans ((hF219 340 8 rfl).trans y214)))).trans (dkP_2 e226).symm)⟩ (lv_sub hl [0, 1] rfl)
                ·
                  exact absurd ((xv223).trans (rfl).symm) c225
              ·
                exact absurd ((xv219).trans (rfl).symm) c222
            ·
              obtain ⟨f187_340_11, f187_340_8, f187_347_0, f187_347_4, x187_0, x187_1, xh187_0, xh187_1, xh187_2, xh187_3, xh187_4, xh187_5, xh187_6, xh187_7, xh187_8, ci187_0, -⟩ := hc187
              have w227 : I134_ 347 4 = I134_ 347 4 := ((hF167 347 4 rfl).trans rfl)
              have q228 : (I134_ 347 4).toInt + 1 ≤ (5 : Int) := by have h := x187_0; rw [w227] at h; exact h
              have w229 : I134_ 345 = I0 345 := ((funext fun j => hF167 345 j dkNin_nil).trans z134_0)
              have w230 : I134_ 340 6 = I0 340 6 := ((hF167 340 6 rfl).trans zp134_1)
              have w231 : I134_ 347 0 = dkTv (I0 345) (I0 340 6) (dkTe (I0 345) (I0 340 6) (0)) := ((hF167 347 0 rfl).trans zp134_6)
              have w232 : I134_ 340 9 = dkTe (I0 345) (I0 340 6) (I134_ 340 10) := ((hF167 340 9 rfl).trans cx134.1.2.2)
              have q233 : (dkMb (I0 345) (I0 340 6) (dkTv (I0 345) (I0 340 6) (dkTe (I0 345) (I0 340 6) (0))) (dkTe (I0 345) (I0 340 6) (I134_ 340 10))).1 = 0 := by have h := x187_1; rw [w229, w230, w231, w232] at h; exact h
              have w234 : I134_ 340 7 = I0 340 7 := ((hF167 340 7 rfl).trans zp134_2)
              have y235 : I187 340 7 = I0 340 7 := by have h := xh187_0; rw [w234] at h; exact h
              have w236 : I134_ 340 8 = I134_ 340 8 := ((hF167 340 8 rfl).trans rfl)
              have y237 : I187 340 8 = I134_ 340 8 := by have h := xh187_1; rw [w236] at h; exact h
              have y238 : I187 340 9 = dkTe (I0 345) (I0 340 6) (dkMb (I0 345) (I0 340 6) (dkTv (I0 345) (I0 340 6) (dkTe (I0 345) (I0 340 6) (0))) (dkTe (I0 345) (I0 340 6) (I134_ 340 10))).2 := by have h := xh187_2; rw [w229, w230, w231, w232] at h; exact h
              have y239 : I187 340 10 = (dkMb (I0 345) (I0 340 6) (dkTv (I0 345) (I0 340 6) (dkTe (I0 345) (I0 340 6) (0))) (dkTe (I0 345) (I0 340 6) (I134_ 340 10))).2 := by have h := xh187_3; rw [w229, w230, w231, w232] at h; exact h
              have y240 : I187 340 11 = dkTk (I0 345) (I0 340 6) (dkMb (I0 345) (I0 340 6) (dkTv (I0 345) (I0 340 6) (dkTe (I0 345) (I0 340 6) (0))) (dkTe (I0 345) (I0 340 6) (I134_ 340 10))).2 := by have h := xh187_4; rw [w229, w230, w231, w232] at h; exact h
              have y241 : I187 340 12 = dkTv (I0 345) (I0 340 6) (dkMb (I0 345) (I0 340 6) (dkTv (I0 345) (I0 340 6) (dkTe (I0 345) (I0 340 6) (0))) (dkTe (I0 345) (I0 340 6) (I134_ 340 10))).2 := by have h := xh187_5; rw [w229, w230, w231, w232] at h; exact h
              have y242 : I187 347 0 = dkTv (I0 345) (I0 340 6) (dkTe (I0 345) (I0 340 6) (0)) := by have h := xh187_6; rw [w231] at h; exact h
              have w243 : I134_ 347 5 = 0 := ((hF167 347 5 rfl).trans cx134.2.2)
              have y244 : I187 347 5 = 0 := by have h := xh187_7; rw [w243] at h; exact h
              have y245 : I187 347 4 = (I134_ 347 4) + 1 := by have h := xh187_8; rw [w227] at h; exact h
              refine lv_goto (tgt := 134) hx hb dX6_town_162 (by decide) ?_
              exact ih134 I187 _ _ ls x134_1 (dk_nearH hn134 ci187_0 rfl (by rw [hF167 347 4 rfl]; exact f134_4) rfl rfl) hW hS hF hO hP (dkN_sub k134_0 rfl) (show dkN [(0, 5)] (I187 340 11) from dkN_sub f187_340_11 rfl) (show dkN [(-1, -1)] (I187 340 8) from dkN_sub f187_340_8 rfl) (show dkN [(3, 9)] (I187 347 0) from dkN_sub f187_347_0 rfl) (show dkN [(1, 30)] (I187 347 1) from dkN_sub (by rw [hF187 347 1 rfl]; exact (by rw [hF167 347 1 rfl]; exact f134_3)) rfl) (show dkN [(1, 5)] (I187 347 4) from dkN_sub f187_347_4 rfl) (show dkN [(0, 0)] (I187 347 5) from dkN_sub (by rw [hF187 347 5 rfl]; exact (by rw [hF167 347 5 rfl]; exact f134_5)) rfl) ((funext fun j => hF187 345 j (dkNin_k rfl (dkNin_k rfl (dkNin_k rfl dkNin_nil)))).trans ((funext fun j => hF167 345 j dkNin_nil).trans z134_0)) ((funext fun j => hF187 346 j (dkNin_k rfl (dkNin_k rfl (dkNin_k rfl dkNin_nil)))).trans ((funext fun j => hF167 346 j dkNin_nil).trans z134_1)) ((hF187 340 17 rfl).trans ((hF167 340 17 rfl).trans zp134_0)) ((hF187 340 6 rfl).trans ((hF167 340 6 rfl).trans zp134_1)) y235 ((hF187 346 0 rfl).trans ((hF167 346 0 rfl).trans (by rw [z134_1]))) ((hF187 346 4 rfl).trans ((hF167 346 4 rfl).trans (by rw [z134_1]))) ((hF187 346 5 rfl).trans ((hF167 346 5 rfl).trans (by rw [z134_1]))) y242 y134_0 y134_1 y134_2 y134_3 y134_4 y134_5 y134_6 y134_7 y134_8 y134_9 y134_10 y134_11 y134_12 ⟨⟨(((show I187 340 11 = dkTk (I0 345) (I0 340 6) (dkMb (I0 345) (I0 340 6) (dkTv (I0 345) (I0 340 6) (dkTe (I0 345) (I0 340 6) (0))) (dkTe (I0 345) (I0 340 6) (I134_ 340 10))).2 from y240)).trans (congrArg (dkTk (I0 345) (I0 340 6)) ((show I187 340 10 = (dkMb (I0 345) (I0 340 6) (dkTv (I0 345) (I0 340 6) (dkTe (I0 345) (I0 340 6) (0))) (dkTe (I0 345) (I0 340 6) (I134_ 340 10))).2 from y239)).symm)), (((show I187 340 12 = dkTv (I0 345) (I0 340 6) (dkMb (I0 345) (I0 340 6) (dkTv (I0 345) (I0 340 6) (dkTe (I0 345) (I0 340 6) (0))) (dkTe (I0 345) (I0 340 6) (I134_ 340 10))).2 from y241)).trans (congrArg (dkTv (I0 345) (I0 340 6)) ((show I187 340 10 = (dkMb (I0 345) (I0 340 6) (dkTv (I0 345) (I0 340 6) (dkTe (I0 345) (I0 340 6) (0))) (dkTe (I0 345) (I0 340 6) (I134_ 340 10))).2 from y239)).symm)), (((show I187 340 9 = dkTe (I0 345) (I0 340 6) (dkMb (I0 345) (I0 340 6) (dkTv (I0 345) (I0 340 6) (dkTe (I0 345) (I0 340 6) (0))) (dkTe (I0 345) (I0 340 6) (I134_ 340 10))).2 from y238)).trans (congrArg (dkTe (I0 345) (I0 340 6)) ((show I187 340 10 = (dkMb (I0 345) (I0 340 6) (dkTv (I0 345) (I0 340 6) (dkTe (I0 345) (I0 340 6) (0))) (dkTe (I0 345) (I0 340 6) (I134_ 340 10))).2 from y239)).symm))⟩, (by rw [show I187 340 10 = (dkMb (I0 345) (I0 340 6) (dkTv (I0 345) (I0 340 6) (dkTe (I0 345) (I0 340 6) (0))) (dkTe (I0 345) (I0 340 6) (I134_ 340 10))).2 from y239, show I187 347 4 = (I134_ 347 4) + 1 from y245]; exact dkX1_s cx134.2.1 (by omega) (by omega) (by omega) (dk_nlt (dkN_ge (show dkN [(0, 5)] (I134_ 347 4) from ‹dkOk I134_› 347 4) rfl)) q233), (show I187 347 5 = 0 from y244)⟩ (lv_sub hl [0, 1] rfl)
  have C131 : ∀ (I : dkI) (H : Heap) (locs : List Loc) (ls : Array Slot) (x131_1 : Int32) (x131_s0 : Int32), dkW g z I H → va_S (dkA z) s.heap H locs → dkF [(340, 340, 6, 12), (340, 340, 17, 17), (346, 346, 0, 53), (347, 347, 0, 53)] I0 I → dkOk I → dkPP I → dkN [(54, 54)] x131_1 → dkN [(0, 1)] x131_s0 → dkN [(1, 2)] (I 340 7) → dkN [(0, 90)] (I 340 8) → dkN [(0, 0), (3, 9)] (I 347 0) → dkN [(0, 0)] (I 347 4) → dkN [(0, 0)] (I 347 5) → I 345 = I0 345 → I 346 = I0 346 → I 340 17 = I0 340 17 → I 340 6 = I0 340 6 → I 346 0 = I0 346 0 → I 346 4 = I0 346 4 → I 346 5 = I0 346 5 → ((dkTw (I0 345) (I0 340 6)).1 ≠ 0 ∧ I 340 7 = (dkTw (I0 345) (I0 340 6)).1 ∧ I 340 8 = (dkTw (I0 345) (I0 340 6)).2) → lv_has ls 2 [(0, .ref (z + 340)), (1, .int x131_1)] → W p l e (headSpec wsX6_town (dkR 6)).room s m args below meth c H locs 0 0 (MQ below (dkQi g z (fun r I1 => dkF [(340, 340, 6, 12), (340, 340, 17, 17), (346, 346, 0, 53), (347, 347, 0, 53)] I0 I1 ∧ dkOk I1 ∧ dkPP I1 ∧ ((dkN [(-1000190, -1000100)] r ∧ dkN [(0, 0)] (I1 340 6) ∧ dkN [(1, 3)] (I1 340 7) ∧ dkN [(0, 90)] (I1 340 8) ∧ dkN [(0, 0), (3, 9)] (I1 347 0) ∧ (dkTw (I0 345) (I0 340 6)).1 ≠ 0 ∧ r = (-1000100 : Int32) - (dkTw (I0 345) (I0 340 6)).2 ∧ I1 346 0 = I0 346 0 ∧ I1 346 4 = I0 346 4 ∧ I1 346 5 = I0 346 5 ∧ I1 340 6 = 0 ∧ I1 340 17 = I0 340 17 ∧ I1 340 7 = (dkTw (I0 345) (I0 340 6)).1 ∧ I1 346  = I0 346 ∧ True) ∨ (dkN [(0, 6)] r ∧ dkN [(0, 0)] (I1 340 11) ∧ dkN [(0, 0)] (I1 340 17) ∧ dkN [(0, 0)] (I1 340 6) ∧ dkN [(-1, -1)] (I1 340 8) ∧ dkN [(3, 9)] (I1 346 0) ∧ dkN [(1, 30)] (I1 346 1) ∧ dkN [(1, 5)] (I1 346 4) ∧ dkN [(3, 9)] (I1 347 0) ∧ dkN [(1, 30)] (I1 347 1) ∧ dkN [(1, 5)] (I1 347 4) ∧ (dkTw (I0 345) (I0 340 6)).1 = 0 ∧ r = dkTd (I0 345) (I0 340 6) ∧ I1 346 0 = dkHh (I0 345) (I0 340 6) ∧ I1 346 4 = dkTp (I0 345) (I0 340 6) ∧ I1 346 5 = dkTd (I0 345) (I0 340 6) ∧ I1 340 6 = 0 ∧ I1 340 17 = 0 ∧ I1 340 7 = I0 340 7 ∧ (∀ j : Nat, j < Int32.toNatClampNeg (dkTd (I0 345) (I0 340 6)) → I1 346 (36 + 3 * j) = dkSs (I0 345) (I0 340 6) j) ∧ True)))) args s 0 0 (dkA z)) (F0 m 131 ls [.int x131_s0, .ref (z + 340)]) := by
    intro I131_ H locs ls x131_1 x131_s0 hW hS hF_131 hO hP k131_0 k131_1 f131_0 f131_1 f131_2 f131_3 f131_4 z131_0 z131_1 zp131_0 zp131_1 zp131_2 zp131_3 zp131_4 cx131 hl
    have hF := hF_131
    refine dk_Vv (As := [.int x131_s0]) (rest := []) ⟨hx, hb, hml, hown, hts⟩ (h_X6_must_0 l g z I131_ x131_s0 (show dkN [(0, 90)] (I131_ 340 8) from dkN_sub f131_1 rfl) hO) (cwV 1 hts gX6_town_X6_must rfl rfl rfl (by decide +kernel) ⟨Nat.le_of_ble_eq_true rfl, Nat.le_of_ble_eq_true rfl⟩) (dk_at340 hW) rfl hK hT hW hS rfl hl.1 rfl (Nat.le_of_ble_eq_true rfl) dX6_town_131 ⟨Nat.zero_le _, Nat.zero_le _⟩ (fun I247 H247 L247 hp247 hW hS => ?_)
    obtain ⟨hF247, hO, hc247⟩ := hp247
    have hF := dkF_call hF hF247 rfl
    have hP := dkPP_F hP hF247 rfl
    have eI247 : I131_ = I247 := (dkF_nil hF247).symm
    subst eI247
    refine lv_aload_n hx hb dX6_town_134 rfl (lv_at hl 0 rfl) ?_
    refine dk_Vi (As := []) (rest := []) ⟨hx, hb, hml, hown, hts⟩ (fx_X6_isWell_7 l g z I131_ (show dkN [(0, 90)] (I131_ 340 8) from dkN_sub (by rw [hF247 340 8 rfl]; exact f131_1) rfl) hO) (cwV 0 hts gX6_town_X6_isWell rfl rfl rfl (by decide +kernel) ⟨Nat.le_of_ble_eq_true rfl, Nat.le_of_ble_eq_true rfl⟩) (dk_at340 hW) rfl hK hT hW hS rfl hl.1 rfl (Nat.le_of_ble_eq_true rfl) dX6_town_135 ⟨Nat.zero_le _, Nat.zero_le _⟩ (fun v248 I248 H248 L248 hp248 hW hS => ?_)
    obtain ⟨hF248, hO, hc248⟩ := hp248
    have hF := dkF_call hF hF248 rfl
    have hP := dkPP_F hP hF248 rfl
    have eI248 : I131_ = I248 := (dkF_nil hF248).symm
    subst eI248
    obtain ⟨dv248, f248_340_8, x248_0, xr248, -⟩ := hc248
    have w249 : I131_ 340 8 = I131_ 340 8 := ((hF247 340 8 rfl).trans rfl)
    have q250 : (0 : Int) + 0 ≤ (I131_ 340 8).toInt := by have h := x248_0; rw [w249] at h; exact h
    have xv248 : v248 = 0 := by have h := xr248; exact h
    refine lv_if_eq (tgt := 165) hx hb dX6_town_138 (by decide) (fun c251 => ?_) (fun c251 => ?_)
    ·
      refine lv_aload_n hx hb dX6_town_165 rfl (lv_at hl 0 rfl) ?_
      refine dk_Vi (As := []) (rest := []) ⟨hx, hb, hml, hown, hts⟩ (fx_X6_isWell_7 l g z I131_ (show dkN [(0, 90)] (I131_ 340 8) from dkN_sub f248_340_8 rfl) hO) (cwV 0 hts gX6_town_X6_isWell rfl rfl rfl (by decide +kernel) ⟨Nat.le_of_ble_eq_true rfl, Nat.le_of_ble_eq_true rfl⟩) (dk_at340 hW) rfl hK hT hW hS rfl hl.1 rfl (Nat.le_of_ble_eq_true rfl) dX6_town_166 ⟨Nat.zero_le _, Nat.zero_le _⟩ (fun v252 I252 H252 L252 hp252 hW hS => ?_)
      obtain ⟨hF252, hO, hc252⟩ := hp252
      have hF := dkF_call hF hF252 rfl
      have hP := dkPP_F hP hF252 rfl
      have eI252 : I131_ = I252 := (dkF_nil hF252).symm
      subst eI252
      obtain ⟨dv252, f252_340_8, x252_0, xr252, -⟩ := hc252
      have w253 : I131_ 340 8 = I131_ 340 8 := ((hF248 340 8 rfl).trans ((hF247 340 8 rfl).trans rfl))
      have xv252 : v252 = 0 := by have h := xr252; exact h
      refine lv_if_eq (tgt := 197) hx hb dX6_town_169 (by decide) (fun c254 => ?_) (fun c254 => ?_)
      ·
        exact C197 I131_ _ _ ls x131_1 hW hS hF hO hP (dkN_sub k131_0 rfl) (show dkN [(1, 3)] (I131_ 340 7) from dkN_sub (by rw [hF252 340 7 rfl]; exact (by rw [hF248 340 7 rfl]; exact (by rw [hF247 340 7 rfl]; exact f131_0))) rfl) (show dkN [(0, 90)] (I131_ 340 8) from dkN_sub f252_340_8 rfl) (show dkN [(0, 0), (3, 9)] (I131_ 347 0) from dkN_sub (by rw [hF252 347 0 rfl]; exact (by rw [hF248 347 0 rfl]; exact (by rw [hF247 347 0 rfl]; exact f131_2))) rfl) ((funext fun j => hF252 345 j dkNin_nil).trans ((funext fun j => hF248 345 j dkNin_nil).trans ((funext fun j => hF247 345 j dkNin_nil).trans z131_0))) ((funext fun j => hF252 346 j dkNin_nil).trans ((funext fun j => hF248 346 j dkNin_nil).trans ((funext fun j => hF247 346 j dkNin_nil).trans z131_1))) ((hF252 340 17 rfl).trans ((hF248 340 17 rfl).trans ((hF247 340 17 rfl).trans zp131_0))) ((hF252 340 6 rfl).trans ((hF248 340 6 rfl).trans ((hF247 340 6 rfl).trans zp131_1))) ((hF252 346 0 rfl).trans ((hF248 346 0 rfl).trans ((hF247 346 0 rfl).trans (by rw [z131_1])))) ((hF252 346 4 rfl).trans ((hF248 346 4 rfl).trans ((hF247 346 4 rfl).trans (by rw [z131_1])))) ((hF252 346 5 rfl).trans ((hF248 346 5 rfl).trans ((hF247 346 5 rfl).trans (by rw [z131_1])))) ⟨cx131.1, (((show I131_ 340 7 = I131_ 340 7 from ((hF252 340 7 rfl).trans ((hF248 340 7 rfl).trans ((hF247 340 7 rfl).trans rfl))))).trans cx131.2.1), (((show I131_ 340 8 = I131_ 340 8 from ((hF252 340 8 rfl).trans ((hF248 340 8 rfl).trans ((hF247 340 8 rfl).trans rfl))))).trans cx131.2.2)⟩ (lv_sub hl [0, 1] rfl)
      ·
        exact absurd ((xv252).trans (rfl).symm) c254
    ·
      exact absurd ((xv248).trans (rfl).symm) c251
  have C89 : ∀ (I : dkI) (H : Heap) (locs : List Loc) (ls : Array Slot) (x89_1 : Int32), dkW g z I H → va_S (dkA z) s.heap H locs → dkF [(340, 340, 6, 12), (340, 340, 17, 17), (346, 346, 0, 53), (347, 347, 0, 53)] I0 I → dkOk I → dkPP I → dkN [(54, 54)] x89_1 → dkN [(1, 2)] (I 340 7) → dkN [(0, 90)] (I 340 8) → dkN [(0, 0), (3, 9)] (I 347 0) → dkN [(0, 0)] (I 347 1) → dkN [(0, 0)] (I 347 4) → dkN [(0, 0)] (I 347 5) → I 345 = I0 345 → I 346 = I0 346 → I 340 17 = I0 340 17 → I 340 6 = I0 340 6 → I 346 0 = I0 346 0 → I 346 4 = I0 346 4 → I 346 5 = I0 346 5 → ((dkTw (I0 345) (I0 340 6)).1 ≠ 0 ∧ I 340 7 = (dkTw (I0 345) (I0 340 6)).1 ∧ I 340 8 = (dkTw (I0 345) (I0 340 6)).2) → lv_has ls 2 [(0, .ref (z + 340)), (1, .int x89_1)] → W p l e (headSpec wsX6_town (dkR 6)).room s m args below meth c H locs 0 0 (MQ below (dkQi g z (fun r I1 => dkF [(340, 340, 6, 12), (340, 340, 17, 17), (346, 346, 0, 53), (347, 347, 0, 53)] I0 I1 ∧ dkOk I1 ∧ dkPP I1 ∧ ((dkN [(-1000190, -1000100)] r ∧ dkN [(0, 0)] (I1 340 6) ∧ dkN [(1, 3)] (I1 340 7) ∧ dkN [(0, 90)] (I1 340 8) ∧ dkN [(0, 0), (3, 9)] (I1 347 0) ∧ (dkTw (I0 345) (I0 340 6)).1 ≠ 0 ∧ r = (-1000100 : Int32) - (dkTw (I0 345) (I0 340 6)).2 ∧ I1 346 0 = I0 346 0 ∧ I1 346 4 = I0 346 4 ∧ I1 346 5 = I0 346 5 ∧ I1 340 6 = 0 ∧ I1 340 17 = I0 340 17 ∧ I1 340 7 = (dkTw (I0 345) (I0 340 6)).1 ∧ I1 346  = I0 346 ∧ True) ∨ (dkN [(0, 6)] r ∧ dkN [(0, 0)] (I1 340 11) ∧ dkN [(0, 0)] (I1 340 17) ∧ dkN [(0, 0)] (I1 340 6) ∧ dkN [(-1, -1)] (I1 340 8) ∧ dkN [(3, 9)] (I1 346 0) ∧ dkN [(1, 30)] (I1 346 1) ∧ dkN [(1, 5)] (I1 346 4) ∧ dkN [(3, 9)] (I1 347 0) ∧ dkN [(1, 30)] (I1 347 1) ∧ dkN [(1, 5)] (I1 347 4) ∧ (dkTw (I0 345) (I0 340 6)).1 = 0 ∧ r = dkTd (I0 345) (I0 340 6) ∧ I1 346 0 = dkHh (I0 345) (I0 340 6) ∧ I1 346 4 = dkTp (I0 345) (I0 340 6) ∧ I1 346 5 = dkTd (I0 345) (I0 340 6) ∧ I1 340 6 = 0 ∧ I1 340 17 = 0 ∧ I1 340 7 = I0 340 7 ∧ (∀ j : Nat, j < Int32.toNatClampNeg (dkTd (I0 345) (I0 340 6)) → I1 346 (36 + 3 * j) = dkSs (I0 345) (I0 340 6) j) ∧ True)))) args s 0 0 (dkA z)) (F0 m 89 ls []) := by
    intro I89_ H locs ls x89_1 hW hS hF_89 hO hP k89_0 f89_0 f89_1 f89_2 f89_3 f89_4 f89_5 z89_0 z89_1 zp89_0 zp89_1 zp89_2 zp89_3 zp89_4 cx89 hl
    have hF := hF_89
    refine lv_aload_n hx hb dX6_town_89 rfl (lv_at hl 0 rfl) ?_
    refine lv_aload_n hx hb dX6_town_90 rfl (lv_at hl 0 rfl) ?_
    refine dk_get (k := 340) hx hb hts iX6_town_6 hown hK (dk_at340 hW) rfl 11 (by decide) (hts (.fieldLink RX6 98 "DogKingsModel" "token" "I") (List.mem_of_getElem? (i := 4) rfl)) rfl dX6_town_91 ?_
    refine lv_topi (fun v255 ev255 => ?_)
    have xv255 : v255 = I89_ 340 11 := ev255.trans rfl
    refine lv_iconst (v := 4) hx hb dX6_town_94 (by decide) ?_
    refine lv_icmp_ne (tgt := 102) hx hb dX6_town_95 (by decide) (fun c256 => ?_) (fun c256 => ?_)
    ·
      have q257 : (I89_ 340 11).toInt ≠ (4 : Int) := by first | (rw [← xv255]; exact (dk_ne c256)) | (subst xv255; exact (dk_ne c256))
      have d258 : dkN [(-2147483648, 3), (5, 2147483647)] v255 := dkN_ne1 (4) (dkN_top v255) (dkN_lit (x := 4) (4) rfl) (dk_ne c256) rfl
      have f259 : dkN [(-2147483648, 3), (5, 2147483647)] (I89_ 340 11) := by rw [← ev255]; exact d258
      refine lv_iconst (v := 0) hx hb dX6_town_102 (by decide) ?_
      refine lv_iconst (v := 1) hx hb dX6_town_103 (by decide) ?_
      refine dk_Vi (As := [.int 0, .int 1]) (rest := []) ⟨hx, hb, hml, hown, hts⟩ (h_X6_takes_0 l g z I89_ 0 1 (show dkN [(0, 90)] (I89_ 340 8) from dkN_sub f89_1 rfl) hO) (cwV 2 hts gX6_town_X6_takes rfl rfl rfl (by decide +kernel) ⟨Nat.le_of_ble_eq_true rfl, Nat.le_of_ble_eq_true rfl⟩) (dk_at340 hW) rfl hK hT hW hS rfl hl.1 rfl (Nat.le_of_ble_eq_true rfl) dX6_town_104 ⟨Nat.zero_le _, Nat.zero_le _⟩ (fun v260 I260 H260 L260 hp260 hW hS => ?_)
      obtain ⟨hF260, hO, hc260⟩ := hp260
      have hF := dkF_call hF hF260 rfl
      have hP := dkPP_F hP hF260 rfl
      have eI260 : I89_ = I260 := (dkF_nil hF260).symm
      subst eI260
      obtain ⟨dv260, xr260, -⟩ := hc260
      have xv260 : v260 = 0 := by have h := xr260; exact h
      refine lv_pop hx hb dX6_town_107 rfl ?_
      refine lv_aload_n hx hb dX6_town_108 rfl (lv_at hl 0 rfl) ?_
      refine lv_aload_n hx hb dX6_town_109 rfl (lv_at hl 0 rfl) ?_
      refine dk_get (k := 340) hx hb hts iX6_town_6 hown hK (dk_at340 hW) rfl 11 (by decide) (hts (.fieldLink RX6 98 "DogKingsModel" "token" "I") (List.mem_of_getElem? (i := 4) rfl)) rfl dX6_town_110 ?_
      refine lv_topi (fun v261 ev261 => ?_)
      have dv261 : dkN [(-2147483648, 3), (5, 2147483647)] v261 := by rw [ev261]; exact (by rw [hF260 340 11 rfl]; exact f259)
      have xv261 : v261 = I89_ 340 11 := ev261.trans ((hF260 340 11 rfl).trans rfl)
      refine lv_iconst (v := 1) hx hb dX6_town_113 (by decide) ?_
      refine lv_icmp_ne (tgt := 130) hx hb dX6_town_114 (by decide) (fun c262 => ?_) (fun c262 => ?_)
      ·
        have q263 : (I89_ 340 11).toInt ≠ (1 : Int) := by first | (rw [← xv261]; exact (dk_ne c262)) | (subst xv261; exact (dk_ne c262))
        have d264 : dkN [(-2147483648, 0), (2, 3), (5, 2147483647)] v261 := dkN_ne1 (1) dv261 (dkN_lit (x := 1) (1) rfl) (dk_ne c262) rfl
        have f265 : dkN [(-2147483648, 0), (2, 3), (5, 2147483647)] (I89_ 340 11) := by rw [← ev261]; exact d264
        refine lv_iconst (v := 0) hx hb dX6_town_130 (by decide) ?_
        exact C131 I89_ _ _ ls x89_1 0 hW hS hF hO hP (dkN_sub k89_0 rfl) (dkN_sub (dkN_lit (x := 0) (0) rfl) rfl) (show dkN [(1, 2)] (I89_ 340 7) from dkN_sub (by rw [hF260 340 7 rfl]; exact f89_0) rfl) (show dkN [(0, 90)] (I89_ 340 8) from dkN_sub (by rw [hF260 340 8 rfl]; exact f89_1) rfl) (show dkN [(0, 0), (3, 9)] (I89_ 347 0) from dkN_sub (by rw [hF260 347 0 rfl]; exact f89_2) rfl) (show dkN [(0, 0)] (I89_ 347 4) from dkN_sub (by rw [hF260 347 4 rfl]; exact f89_4) rfl) (show dkN [(0, 0)] (I89_ 347 5) from dkN_sub (by rw [hF260 347 5 rfl]; exact f89_5) rfl) ((funext fun j => hF260 345 j dkNin_nil).trans z89_0) ((funext fun j => hF260 346 j dkNin_nil).trans z89_1) ((hF260 340 17 rfl).trans zp89_0) ((hF260 340 6 rfl).trans zp89_1) ((hF260 346 0 rfl).trans (by rw [z89_1])) ((hF260 346 4 rfl).trans (by rw [z89_1])) ((hF260 346 5 rfl).trans (by rw [z89_1])) ⟨cx89.1, (((show I89_ 340 7 = I89_ 340 7 from ((hF260 340 7 rfl).trans rfl))).trans cx89.2.1), (((show I89_ 340 8 = I89_ 340 8 from ((hF260 340 8 rfl).trans rfl))).trans cx89.2.2)⟩ (lv_sub hl [0, 1] rfl)
      ·
        have q266 : (I89_ 340 11).toInt = (1 : Int) := by first | (rw [← xv261]; exact (congrArg Int32.toInt c262)) | (subst xv261; exact (congrArg Int32.toInt c262))
        have d267 : dkN [(1, 1)] v261 := dkN_eq1 dv261 (dkN_lit (x := 1) (1) rfl) (congrArg Int32.toInt c262) rfl
        have f268 : dkN [(1, 1)] (I89_ 340 11) := by rw [← ev261]; exact d267
        refine lv_aload_n hx hb dX6_town_117 rfl (lv_at hl 0 rfl) ?_
        refine dk_get (k := 340) hx hb hts iX6_town_6 hown hK (dk_at340 hW) rfl 12 (by decide) (hts (.fieldLink RX6 95 "DogKingsModel" "value" "I") (List.mem_of_getElem? (i := 5) rfl)) rfl dX6_town_118 ?_
        refine lv_topi (fun v269 ev269 => ?_)
        have xv269 : v269 = I89_ 340 12 := ev269.trans ((hF260 340 12 rfl).trans rfl)
        refine lv_bipush (v := 109) hx hb dX6_town_121 (by decide) ?_
        refine lv_icmp_ne (tgt := 130) hx hb dX6_town_123 (by decide) (fun c270 => ?_) (fun c270 => ?_)
        ·
          have q271 : (I89_ 340 12).toInt ≠ (109 : Int) := by first | (rw [← xv269]; exact (dk_ne c270)) | (subst xv269; exact (dk_ne c270))
          have d272 : dkN [(-2147483648, 108), (110, 2147483647)] v269 := dkN_ne1 (109) (dkN_top v269) (dkN_lit (x := 109) (109) rfl) (dk_ne c270) rfl
          have f273 : dkN [(-2147483648, 108), (110, 2147483647)] (I89_ 340 12) := by rw [← ev269]; exact d272
          refine lv_iconst (v := 0) hx hb dX6_town_130 (by decide) ?_
          exact C131 I89_ _ _ ls x89_1 0 hW hS hF hO hP (dkN_sub k89_0 rfl) (dkN_sub (dkN_lit (x := 0) (0) rfl) rfl) (show dkN [(1, 2)] (I89_ 340 7) from dkN_sub (by rw [hF260 340 7 rfl]; exact f89_0) rfl) (show dkN [(0, 90)] (I89_ 340 8) from dkN_sub (by rw [hF260 340 8 rfl]; exact f89_1) rfl) (show dkN [(0, 0), (3, 9)] (I89_ 347 0) from dkN_sub (by rw [hF260 347 0 rfl]; exact f89_2) rfl) (show dkN [(0, 0)] (I89_ 347 4) from dkN_sub (by rw [hF260 347 4 rfl]; exact f89_4) rfl) (show dkN [(0, 0)] (I89_ 347 5) from dkN_sub (by rw [hF260 347 5 rfl]; exact f89_5) rfl) ((funext fun j => hF260 345 j dkNin_nil).trans z89_0) ((funext fun j => hF260 346 j dkNin_nil).trans z89_1) ((hF260 340 17 rfl).trans zp89_0) ((hF260 340 6 rfl).trans zp89_1) ((hF260 346 0 rfl).trans (by rw [z89_1])) ((hF260 346 4 rfl).trans (by rw [z89_1])) ((hF260 346 5 rfl).trans (by rw [z89_1])) ⟨cx89.1, (((show I89_ 340 7 = I89_ 340 7 from ((hF260 340 7 rfl).trans rfl))).trans cx89.2.1), (((show I89_ 340 8 = I89_ 340 8 from ((hF260 340 8 rfl).trans rfl))).trans cx89.2.2)⟩ (lv_sub hl [0, 1] rfl)
        ·
          have q274 : (I89_ 340 12).toInt = (109 : Int) := by first | (rw [← xv269]; exact (congrArg Int32.toInt c270)) | (subst xv269; exact (congrArg Int32.toInt c270))
          have d275 : dkN [(109, 109)] v269 := dkN_eq1 (dkN_top v269) (dkN_lit (x := 109) (109) rfl) (congrArg Int32.toInt c270) rfl
          have f276 : dkN [(109, 109)] (I89_ 340 12) := by rw [← ev269]; exact d275
          refine lv_iconst (v := 1) hx hb dX6_town_126 (by decide) ?_
          refine lv_goto (tgt := 131) hx hb dX6_town_127 (by decide) ?_
          exact C131 I89_ _ _ ls x89_1 1 hW hS hF hO hP (dkN_sub k89_0 rfl) (dkN_sub (dkN_lit (x := 1) (1) rfl) rfl) (show dkN [(1, 2)] (I89_ 340 7) from dkN_sub (by rw [hF260 340 7 rfl]; exact f89_0) rfl) (show dkN [(0, 90)] (I89_ 340 8) from dkN_sub (by rw [hF260 340 8 rfl]; exact f89_1) rfl) (show dkN [(0, 0), (3, 9)] (I89_ 347 0) from dkN_sub (by rw [hF260 347 0 rfl]; exact f89_2) rfl) (show dkN [(0, 0)] (I89_ 347 4) from dkN_sub (by rw [hF260 347 4 rfl]; exact f89_4) rfl) (show dkN [(0, 0)] (I89_ 347 5) from dkN_sub (by rw [hF260 347 5 rfl]; exact f89_5) rfl) ((funext fun j => hF260 345 j dkNin_nil).trans z89_0) ((funext fun j => hF260 346 j dkNin_nil).trans z89_1) ((hF260 340 17 rfl).trans zp89_0) ((hF260 340 6 rfl).trans zp89_1) ((hF260 346 0 rfl).trans (by rw [z89_1])) ((hF260 346 4 rfl).trans (by rw [z89_1])) ((hF260 346 5 rfl).trans (by rw [z89_1])) ⟨cx89.1, (((show I89_ 340 7 = I89_ 340 7 from ((hF260 340 7 rfl).trans rfl))).trans cx89.2.1), (((show I89_ 340 8 = I89_ 340 8 from ((hF260 340 8 rfl).trans rfl))).trans cx89.2.2)⟩ (lv_sub hl [0, 1] rfl)
    ·
      have q277 : (I89_ 340 11).toInt = (4 : Int) := by first | (rw [← xv255]; exact (congrArg Int32.toInt c256)) | (subst xv255; exact (congrArg Int32.toInt c256))
      have d278 : dkN [(4, 4)] v255 := dkN_eq1 (dkN_top v255) (dkN_lit (x := 4) (4) rfl) (congrArg Int32.toInt c256) rfl
      have f279 : dkN [(4, 4)] (I89_ 340 11) := by rw [← ev255]; exact d278
      refine lv_iconst (v := 1) hx hb dX6_town_98 (by decide) ?_
      refine lv_goto (tgt := 103) hx hb dX6_town_99 (by decide) ?_
      refine lv_iconst (v := 1) hx hb dX6_town_103 (by decide) ?_
      refine dk_Vi (As := [.int 1, .int 1]) (rest := []) ⟨hx, hb, hml, hown, hts⟩ (h_X6_takes_0 l g z I89_ 1 1 (show dkN [(0, 90)] (I89_ 340 8) from dkN_sub f89_1 rfl) hO) (cwV 2 hts gX6_town_X6_takes rfl rfl rfl (by decide +kernel) ⟨Nat.le_of_ble_eq_true rfl, Nat.le_of_ble_eq_true rfl⟩) (dk_at340 hW) rfl hK hT hW hS rfl hl.1 rfl (Nat.le_of_ble_eq_true rfl) dX6_town_104 ⟨Nat.zero_le _, Nat.zero_le _⟩ (fun v280 I280 H280 L280 hp280 hW hS => ?_)
      obtain ⟨hF280, hO, hc280⟩ := hp280
      have hF := dkF_call hF hF280 rfl
      have hP := dkPP_F hP hF280 rfl
      have eI280 : I89_ = I280 := (dkF_nil hF280).symm
      subst eI280
      obtain ⟨dv280, xr280, -⟩ := hc280
      have xv280 : v280 = 0 := by have h := xr280; exact h
      refine lv_pop hx hb dX6_town_107 rfl ?_
      refine lv_aload_n hx hb dX6_town_108 rfl (lv_at hl 0 rfl) ?_
      refine lv_aload_n hx hb dX6_town_109 rfl (lv_at hl 0 rfl) ?_
      refine dk_get (k := 340) hx hb hts iX6_town_6 hown hK (dk_at340 hW) rfl 11 (by decide) (hts (.fieldLink RX6 98 "DogKingsModel" "token" "I") (List.mem_of_getElem? (i := 4) rfl)) rfl dX6_town_110 ?_
      refine lv_topi (fun v281 ev281 => ?_)
      have dv281 : dkN [(4, 4)] v281 := by rw [ev281]; exact (by rw [hF280 340 11 rfl]; exact f279)
      have xv281 : v281 = I89_ 340 11 := ev281.trans ((hF280 340 11 rfl).trans rfl)
      refine lv_iconst (v := 1) hx hb dX6_town_113 (by decide) ?_
      refine lv_icmp_ne (tgt := 130) hx hb dX6_town_114 (by decide) (fun c282 => ?_) (fun c282 => ?_)
      ·
        have q283 : (I89_ 340 11).toInt ≠ (1 : Int) := by first | (rw [← xv281]; exact (dk_ne c282)) | (subst xv281; exact (dk_ne c282))
        refine lv_iconst (v := 0) hx hb dX6_town_130 (by decide) ?_
        exact C131 I89_ _ _ ls x89_1 0 hW hS hF hO hP (dkN_sub k89_0 rfl) (dkN_sub (dkN_lit (x := 0) (0) rfl) rfl) (show dkN [(1, 2)] (I89_ 340 7) from dkN_sub (by rw [hF280 340 7 rfl]; exact f89_0) rfl) (show dkN [(0, 90)] (I89_ 340 8) from dkN_sub (by rw [hF280 340 8 rfl]; exact f89_1) rfl) (show dkN [(0, 0), (3, 9)] (I89_ 347 0) from dkN_sub (by rw [hF280 347 0 rfl]; exact f89_2) rfl) (show dkN [(0, 0)] (I89_ 347 4) from dkN_sub (by rw [hF280 347 4 rfl]; exact f89_4) rfl) (show dkN [(0, 0)] (I89_ 347 5) from dkN_sub (by rw [hF280 347 5 rfl]; exact f89_5) rfl) ((funext fun j => hF280 345 j dkNin_nil).trans z89_0) ((funext fun j => hF280 346 j dkNin_nil).trans z89_1) ((hF280 340 17 rfl).trans zp89_0) ((hF280 340 6 rfl).trans zp89_1) ((hF280 346 0 rfl).trans (by rw [z89_1])) ((hF280 346 4 rfl).trans (by rw [z89_1])) ((hF280 346 5 rfl).trans (by rw [z89_1])) ⟨cx89.1, (((show I89_ 340 7 = I89_ 340 7 from ((hF280 340 7 rfl).trans rfl))).trans cx89.2.1), (((show I89_ 340 8 = I89_ 340 8 from ((hF280 340 8 rfl).trans rfl))).trans cx89.2.2)⟩ (lv_sub hl [0, 1] rfl)
      ·
        exact (dkN_nil (show dkN [] v281 from dkN_eq1 dv281 (dkN_lit (x := 1) (1) rfl) (congrArg Int32.toInt c282) rfl)).elim
  have C2 : ∀ (n : Nat), ∀ (I : dkI) (H : Heap) (locs : List Loc) (ls : Array Slot) (x2_1 : Int32), (54 - x2_1.toInt).toNat < n → dkW g z I H → va_S (dkA z) s.heap H locs → dkF [(340, 340, 6, 12), (340, 340, 17, 17), (346, 346, 0, 53), (347, 347, 0, 53)] I0 I → dkOk I → dkPP I → dkN [(0, 54)] x2_1 → I 345 = I0 345 → I 346 = I0 346 → I 340 17 = I0 340 17 → I 340 6 = I0 340 6 → I 340 7 = I0 340 7 → I 346 0 = I0 346 0 → I 346 4 = I0 346 4 → I 346 5 = I0 346 5 → (∀ j : Nat, (j : Int) < x2_1.toInt → I 347 j = 0) → lv_has ls 2 [(0, .ref (z + 340)), (1, .int x2_1)] → W p l e (headSpec wsX6_town (dkR 6)).room s m args below meth c H locs 0 0 (MQ below (dkQi g z (fun r I1 => dkF [(340, 340, 6, 12), (340, 340, 17, 17), (346, 346, 0, 53), (347, 347, 0, 53)] I0 I1 ∧ dkOk I1 ∧ dkPP I1 ∧ ((dkN [(-1000190, -1000100)] r ∧ dkN [(0, 0)] (I1 340 6) ∧ dkN [(1, 3)] (I1 340 7) ∧ dkN [(0, 90)] (I1 340 8) ∧ dkN [(0, 0), (3, 9)] (I1 347 0) ∧ (dkTw (I0 345) (I0 340 6)).1 ≠ 0 ∧ r = (-1000100 : Int32) - (dkTw (I0 345) (I0 340 6)).2 ∧ I1 346 0 = I0 346 0 ∧ I1 346 4 = I0 346 4 ∧ I1 346 5 = I0 346 5 ∧ I1 340 6 = 0 ∧ I1 340 17 = I0 340 17 ∧ I1 340 7 = (dkTw (I0 345) (I0 340 6)).1 ∧ I1 346  = I0 346 ∧ True) ∨ (dkN [(0, 6)] r ∧ dkN [(0, 0)] (I1 340 11) ∧ dkN [(0, 0)] (I1 340 17) ∧ dkN [(0, 0)] (I1 340 6) ∧ dkN [(-1, -1)] (I1 340 8) ∧ dkN [(3, 9)] (I1 346 0) ∧ dkN [(1, 30)] (I1 346 1) ∧ dkN [(1, 5)] (I1 346 4) ∧ dkN [(3, 9)] (I1 347 0) ∧ dkN [(1, 30)] (I1 347 1) ∧ dkN [(1, 5)] (I1 347 4) ∧ (dkTw (I0 345) (I0 340 6)).1 = 0 ∧ r = dkTd (I0 345) (I0 340 6) ∧ I1 346 0 = dkHh (I0 345) (I0 340 6) ∧ I1 346 4 = dkTp (I0 345) (I0 340 6) ∧ I1 346 5 = dkTd (I0 345) (I0 340 6) ∧ I1 340 6 = 0 ∧ I1 340 17 = 0 ∧ I1 340 7 = I0 340 7 ∧ (∀ j : Nat, j < Int32.toNatClampNeg (dkTd (I0 345) (I0 340 6)) → I1 346 (36 + 3 * j) = dkSs (I0 345) (I0 340 6) j) ∧ True)))) args s 0 0 (dkA z)) (F0 m 2 ls []) := by
    intro n
    induction n with
    | zero => intro I H locs ls x2_1 hn; exact absurd hn (Nat.not_lt_zero _)
    | succ n ih2 =>
      intro I2_ H locs ls x2_1 hn2 hW hS hF_2 hO hP k2_0 z2_0 z2_1 zp2_0 zp2_1 zp2_2 zp2_3 zp2_4 zp2_5 cx2 hl
      have hF := hF_2
      refine lv_iload_n hx hb dX6_town_2 rfl (lv_at hl 1 rfl) ?_
      refine lv_bipush (v := 54) hx hb dX6_town_3 (by decide) ?_
      refine lv_icmp_ge (tgt := 21) hx hb dX6_town_5 (by decide) (fun c284 => ?_) (fun c284 => ?_)
      ·
        have d285 : dkN [(54, 54)] x2_1 := dkN_le2 0 (dkN_lit (x := 54) (54) rfl) k2_0 (dkc_le c284) rfl
        have hz9 := dkN_one d285
        have hz4 : I2_ 347 4 = 0 := cx2 4 (by rw [hz9]; decide)
        have hz5 : I2_ 347 5 = 0 := cx2 5 (by rw [hz9]; decide)
        refine lv_aload_n hx hb dX6_town_21 rfl (lv_at hl 0 rfl) ?_
        refine lv_iconst (v := 0) hx hb dX6_town_22 (by decide) ?_
        refine dk_put (k := 340) hx hb hts iX6_town_6 tyX6 tyX6_ok nmX6 hown hK hW (dk_at340 hW) hS rfl 9 (by decide) (hts (.fieldLink RX6 86 "DogKingsModel" "at" "I") (List.mem_of_getElem? (i := 2) rfl)) rfl rfl (Nat.le_of_ble_eq_true rfl) rfl dX6_town_23 (fun I286 H286 L286 eI286 hW hS => ?_)
        have eI286 : I286 = dkU I2_ 340 9 0 := eI286
        have hO := dkO_set hO eI286 (dkN_sub (dkN_lit (x := 0) (0) rfl) rfl)
        have hF := dkF_set hF eI286 rfl
        have hP := dkPP_set hP eI286 rfl
        refine lv_aload_n hx hb dX6_town_26 rfl (lv_at hl 0 rfl) ?_
        refine lv_iconst (v := (-1)) hx hb dX6_town_27 (by decide) ?_
        refine dk_put (k := 340) hx hb hts iX6_town_6 tyX6 tyX6_ok nmX6 hown hK hW (dk_at340 hW) hS rfl 8 (by decide) (hts (.fieldLink RX6 101 "DogKingsModel" "faultPlace" "I") (List.mem_of_getElem? (i := 3) rfl)) rfl rfl (Nat.le_of_ble_eq_true rfl) rfl dX6_town_28 (fun I287 H287 L287 eI287 hW hS => ?_)
        have eI287 : I287 = dkU I286 340 8 ((-1)) := eI287
        have hO := dkO_set hO eI287 (dkN_sub (dkN_lit (x := (-1)) (-1) rfl) rfl)
        have hF := dkF_set hF eI287 rfl
        have hP := dkPP_set hP eI287 rfl
        refine lv_aload_n hx hb dX6_town_31 rfl (lv_at hl 0 rfl) ?_
        refine dk_Vv (As := []) (rest := []) ⟨hx, hb, hml, hown, hts⟩ (fx_X6_advances_1 l g z I287 hO) (cwV 0 hts gX6_town_X6_advances rfl rfl rfl (by decide +kernel) ⟨Nat.le_of_ble_eq_true rfl, Nat.le_of_ble_eq_true rfl⟩) (dk_at340 hW) rfl hK hT hW hS rfl hl.1 rfl (Nat.le_of_ble_eq_true rfl) dX6_town_32 ⟨Nat.zero_le _, Nat.zero_le _⟩ (fun I288 H288 L288 hp288 hW hS => ?_)
        obtain ⟨hF288, hO, hc288⟩ := hp288
        have hF := dkF_call hF hF288 rfl
        have hP := dkPP_F hP hF288 rfl
        obtain ⟨f288_340_11, xh288_0, xh288_1, xh288_2, xh288_3, -⟩ := hc288
        have w289 : I287 345 = I0 345 := ((by rw [eI287, dkU_n (by decide)] : I287 345 = _).trans ((by rw [eI286, dkU_n (by decide)] : I286 345 = _).trans z2_0))
        have w290 : I287 340 6 = I0 340 6 := ((by rw [eI287, dkU_sn (by decide)] : I287 340 6 = _).trans ((by rw [eI286, dkU_sn (by decide)] : I286 340 6 = _).trans zp2_1))
        have w291 : I287 340 9 = 0 := ((by rw [eI287, dkU_sn (by decide)] : I287 340 9 = _).trans (by rw [eI286, dkU_ss]))
        have y292 : I288 340 9 = dkTe (I0 345) (I0 340 6) (0) := by have h := xh288_0; rw [w289, w290, w291] at h; exact h
        have y293 : I288 340 10 = 0 := by have h := xh288_1; rw [w291] at h; exact h
        have y294 : I288 340 11 = dkTk (I0 345) (I0 340 6) (0) := by have h := xh288_2; rw [w289, w290, w291] at h; exact h
        have y295 : I288 340 12 = dkTv (I0 345) (I0 340 6) (0) := by have h := xh288_3; rw [w289, w290, w291] at h; exact h
        refine lv_aload_n hx hb dX6_town_35 rfl (lv_at hl 0 rfl) ?_
        refine lv_aload_n hx hb dX6_town_36 rfl (lv_at hl 0 rfl) ?_
        refine dk_get (k := 340) hx hb hts iX6_town_6 hown hK (dk_at340 hW) rfl 11 (by decide) (hts (.fieldLink RX6 98 "DogKingsModel" "token" "I") (List.mem_of_getElem? (i := 4) rfl)) rfl dX6_town_37 ?_
        refine lv_topi (fun v296 ev296 => ?_)
        have dv296 : dkN [(0, 5)] v296 := by rw [ev296]; exact f288_340_11
        have xv296 : v296 = dkTk (I0 345) (I0 340 6) (0) := ev296.trans y294
        refine lv_iconst (v := 1) hx hb dX6_town_40 (by decide) ?_
        refine lv_icmp_ne (tgt := 57) hx hb dX6_town_41 (by decide) (fun c297 => ?_) (fun c297 => ?_)
        ·
          have q298 : (dkTk (I0 345) (I0 340 6) (0)).toInt ≠ (1 : Int) := by first | (rw [← xv296]; exact (dk_ne c297)) | (subst xv296; exact (dk_ne c297))
          have d299 : dkN [(0, 0), (2, 5)] v296 := dkN_ne1 (1) dv296 (dkN_lit (x := 1) (1) rfl) (dk_ne c297) rfl
          have f300 : dkN [(0, 0), (2, 5)] (I288 340 11) := by rw [← ev296]; exact d299
          refine lv_iconst (v := 0) hx hb dX6_town_57 (by decide) ?_
          refine lv_iconst (v := 1) hx hb dX6_town_58 (by decide) ?_
          refine dk_Vi (As := [.int 0, .int 1]) (rest := []) ⟨hx, hb, hml, hown, hts⟩ (fx_X6_takes_31 l g z I288 0 1 (dkN_lit (x := 0) (0) rfl) (dkN_lit (x := 1) (1) rfl) (show dkN [(-1, -1)] (I288 340 8) from dkN_sub (by rw [hF288 340 8 rfl]; exact (by rw [eI287, dkU_ss]; exact (dkN_lit (x := (-1)) (-1) rfl))) rfl) hO) (cwV 2 hts gX6_town_X6_takes rfl rfl rfl (by decide +kernel) ⟨Nat.le_of_ble_eq_true rfl, Nat.le_of_ble_eq_true rfl⟩) (dk_at340 hW) rfl hK hT hW hS rfl hl.1 rfl (Nat.le_of_ble_eq_true rfl) dX6_town_59 ⟨Nat.zero_le _, Nat.zero_le _⟩ (fun v301 I301 H301 L301 hp301 hW hS => ?_)
          obtain ⟨hF301, hO, hc301⟩ := hp301
          have hF := dkF_call hF hF301 rfl
          have hP := dkPP_F hP hF301 rfl
          obtain ⟨dv301, f301_340_7, f301_340_8, x301_0, x301_1, xr301, xh301_0, xh301_1, xh301_2, xh301_3, xh301_4, xh301_5, -⟩ := hc301
          have w302 : I288 340 8 = (-1) := ((hF288 340 8 rfl).trans (by rw [eI287, dkU_ss]))
          have y303 : I301 340 7 = 1 := by have h := xh301_0; exact h
          have w304 : I288 340 10 = 0 := y293
          have y305 : I301 340 8 = 0 := by have h := xh301_1; rw [w304] at h; exact h
          have w306 : I288 340 9 = dkTe (I0 345) (I0 340 6) (0) := y292
          have y307 : I301 340 9 = dkTe (I0 345) (I0 340 6) (0) := by have h := xh301_2; rw [w306] at h; exact h
          have y308 : I301 340 10 = 0 := by have h := xh301_3; rw [w304] at h; exact h
          have w309 : I288 340 11 = dkTk (I0 345) (I0 340 6) (0) := y294
          have y310 : I301 340 11 = dkTk (I0 345) (I0 340 6) (0) := by have h := xh301_4; rw [w309] at h; exact h
          have w311 : I288 340 12 = dkTv (I0 345) (I0 340 6) (0) := y295
          have y312 : I301 340 12 = dkTv (I0 345) (I0 340 6) (0) := by have h := xh301_5; rw [w311] at h; exact h
          have xv301 : v301 = 0 := by have h := xr301; exact h
          refine lv_pop hx hb dX6_town_62 rfl ?_
          refine lv_aload_n hx hb dX6_town_63 rfl (lv_at hl 0 rfl) ?_
          refine dk_get (k := 340) hx hb hts iX6_town_6 hown hK (dk_at340 hW) rfl 14 (by decide) (hts (.fieldLink RX6 28 "DogKingsModel" "draft" "[I") (List.mem_of_getElem? (i := 1) rfl)) rfl dX6_town_64 ?_
          refine lv_iconst (v := 0) hx hb dX6_town_67 (by decide) ?_
          refine lv_aload_n hx hb dX6_town_68 rfl (lv_at hl 0 rfl) ?_
          refine lv_iconst (v := 3) hx hb dX6_town_69 (by decide) ?_
          refine lv_bipush (v := 9) hx hb dX6_town_70 (by decide) ?_
          refine dk_Vi (As := [.int 3, .int 9]) (rest := [.int 0, .ref (z + 347)]) ⟨hx, hb, hml, hown, hts⟩ (h_X6_figure_0 l g z I301 3 9 (show dkN [(0, 90)] (I301 340 8) from dkN_sub f301_340_8 rfl) hO) (cwV 2 hts gX6_town_X6_figure rfl rfl rfl (by decide +kernel) ⟨Nat.le_of_ble_eq_true rfl, Nat.le_of_ble_eq_true rfl⟩) (dk_at340 hW) rfl hK hT hW hS rfl hl.1 rfl (Nat.le_of_ble_eq_true rfl) dX6_town_72 ⟨Nat.zero_le _, Nat.zero_le _⟩ (fun v313 I313 H313 L313 hp313 hW hS => ?_)
          obtain ⟨hF313, hO, hc313⟩ := hp313
          have hF := dkF_call hF hF313 rfl
          have hP := dkPP_F hP hF313 rfl
          have eI313 : I301 = I313 := (dkF_nil hF313).symm
          subst eI313
          obtain ⟨dv313, xr313, -⟩ := hc313
          have xv313 : v313 = 0 := by have h := xr313; exact h
          refine dk_ist (k := 347) hx hb hK hW (fun _ => rfl) (by decide) hS (dkN_in (n := 54) (dkN_lit (x := 0) (0) rfl) rfl) dX6_town_75 (fun I314 H314 L314 eI314 hW hS => ?_)
          have eI314 : I314 = dkU I301 347 0 v313 := eI314
          have hO := dkO_set hO eI314 (dkN_sub dv313 rfl)
          have hF := dkF_set hF eI314 rfl
          have hP := dkPP_set hP eI314 rfl
          refine lv_aload_n hx hb dX6_town_76 rfl (lv_at hl 0 rfl) ?_
          refine dk_get (k := 340) hx hb hts iX6_town_6 hown hK (dk_at340 hW) rfl 14 (by decide) (hts (.fieldLink RX6 28 "DogKingsModel" "draft" "[I") (List.mem_of_getElem? (i := 1) rfl)) rfl dX6_town_77 ?_
          refine lv_iconst (v := 1) hx hb dX6_town_80 (by decide) ?_
          refine lv_aload_n hx hb dX6_town_81 rfl (lv_at hl 0 rfl) ?_
          refine lv_iconst (v := 1) hx hb dX6_town_82 (by decide) ?_
          refine lv_bipush (v := 30) hx hb dX6_town_83 (by decide) ?_
          refine dk_Vi (As := [.int 1, .int 30]) (rest := [.int 1, .ref (z + 347)]) ⟨hx, hb, hml, hown, hts⟩ (h_X6_follows_0 l g z I314 1 30 (show dkN [(0, 90)] (I314 340 8) from dkN_sub (by rw [eI314, dkU_n (by decide)]; exact (by rw [hF313 340 8 rfl]; exact f301_340_8)) rfl) hO) (cwV 2 hts gX6_town_X6_follows rfl rfl rfl (by decide +kernel) ⟨Nat.le_of_ble_eq_true rfl, Nat.le_of_ble_eq_true rfl⟩) (dk_at340 hW) rfl hK hT hW hS rfl hl.1 rfl (Nat.le_of_ble_eq_true rfl) dX6_town_85 ⟨Nat.zero_le _, Nat.zero_le _⟩ (fun v315 I315 H315 L315 hp315 hW hS => ?_)
          obtain ⟨hF315, hO, hc315⟩ := hp315
          have hF := dkF_call hF hF315 rfl
          have hP := dkPP_F hP hF315 rfl
          have eI315 : I314 = I315 := (dkF_nil hF315).symm
          subst eI315
          obtain ⟨dv315, xr315, -⟩ := hc315
          have xv315 : v315 = 0 := by have h := xr315; exact h
          refine dk_ist (k := 347) hx hb hK hW (fun _ => rfl) (by decide) hS (dkN_in (n := 54) (dkN_lit (x := 1) (1) rfl) rfl) dX6_town_88 (fun I316 H316 L316 eI316 hW hS => ?_)
          have eI316 : I316 = dkU I314 347 1 v315 := eI316
          have hO := dkO_set hO eI316 (dkN_sub dv315 rfl)
          have hF := dkF_set hF eI316 rfl
          have hP := dkPP_set hP eI316 rfl
          have i0 : (0 : Int32).toInt = 0 := rfl
          have i1 : (1 : Int32).toInt = 1 := rfl
          have i2 : (2 : Int32).toInt = 2 := rfl
          have i3 : (3 : Int32).toInt = 3 := rfl
          have i9 : (9 : Int32).toInt = 9 := rfl
          have i30 : (30 : Int32).toInt = 30 := rfl
          have i44 : (44 : Int32).toInt = 44 := rfl
          have i59 : (59 : Int32).toInt = 59 := rfl
          have i109 : (109 : Int32).toInt = 109 := rfl
          have i116 : (116 : Int32).toInt = 116 := rfl
          have e317 : dkTw (I0 345) (I0 340 6) = (1, 0) := dkTw_l (dkTh_q (dkK_ln (T := (I0 345)) (n := (I0 340 6)) (a := 0) (c := 116) (by omega) (by omega)) (by decide)) (by decide)
          exact C89 I316 _ _ ls x2_1 hW hS hF hO hP (dkN_sub d285 rfl) (show dkN [(1, 2)] (I316 340 7) from dkN_sub (by rw [eI316, dkU_n (by decide)]; exact (by rw [hF315 340 7 rfl]; exact (by rw [eI314, dkU_n (by decide)]; exact (by rw [hF313 340 7 rfl]; exact f301_340_7)))) rfl) (show dkN [(0, 90)] (I316 340 8) from dkN_sub (by rw [eI316, dkU_n (by decide)]; exact (by rw [hF315 340 8 rfl]; exact (by rw [eI314, dkU_n (by decide)]; exact (by rw [hF313 340 8 rfl]; exact f301_340_8)))) rfl) (show dkN [(0, 0), (3, 9)] (I316 347 0) from dkN_sub (by rw [eI316, dkU_sn (by decide)]; exact (by rw [hF315 347 0 rfl]; exact (by rw [eI314, dkU_ss]; exact dv313))) rfl) (show dkN [(0, 0)] (I316 347 1) from dkN_sub (by rw [eI316, dkU_ss]; exact dv315) rfl) (show dkN [(0, 0)] (I316 347 4) from dkN_sub (by rw [eI316, dkU_sn (by decide)]; exact (by rw [hF315 347 4 rfl]; exact (by rw [eI314, dkU_sn (by decide)]; exact (by rw [hF313 347 4 rfl]; exact (by rw [hF301 347 4 rfl]; exact (by rw [hF288 347 4 rfl]; exact (by rw [eI287, dkU_n (by decide)]; exact (by rw [eI286, dkU_n (by decide)]; exact (dkN_lit (0) (by rw [hz4]; rfl)))))))))) rfl) (show dkN [(0, 0)] (I316 347 5) from dkN_sub (by rw [eI316, dkU_sn (by decide)]; exact (by rw [hF315 347 5 rfl]; exact (by rw [eI314, dkU_sn (by decide)]; exact (by rw [hF313 347 5 rfl]; exact (by rw [hF301 347 5 rfl]; exact (by rw [hF288 347 5 rfl]; exact (by rw [eI287, dkU_n (by decide)]; exact (by rw [eI286, dkU_n (by decide)]; exact (dkN_lit (0) (by rw [hz5]; rfl)))))))))) rfl) ((by rw [eI316, dkU_n (by decide)] : I316 345 = _).trans ((funext fun j => hF315 345 j dkNin_nil).trans ((by rw [eI314, dkU_n (by decide)] : I314 345 = _).trans ((funext fun j => hF313 345 j dkNin_nil).trans ((funext fun j => hF301 345 j (dkNin_k rfl dkNin_nil)).trans ((funext fun j => hF288 345 j (dkNin_k rfl dkNin_nil)).trans ((by rw [eI287, dkU_n (by decide)] : I287 345 = _).trans ((by rw [eI286, dkU_n (by decide)] : I286 345 = _).trans z2_0)))))))) ((by rw [eI316, dkU_n (by decide)] : I316 346 = _).trans ((funext fun j => hF315 346 j dkNin_nil).trans ((by rw [eI314, dkU_n (by decide)] : I314 346 = _).trans ((funext fun j => hF313 346 j dkNin_nil).trans ((funext fun j => hF301 346 j (dkNin_k rfl dkNin_nil)).trans ((funext fun j => hF288 346 j (dkNin_k rfl dkNin_nil)).trans ((by rw [eI287, dkU_n (by decide)] : I287 346 = _).trans ((by rw [eI286, dkU_n (by decide)] : I286 346 = _).trans z2_1)))))))) ((by rw [eI316, dkU_n (by decide)] : I316 340 17 = _).trans ((hF315 340 17 rfl).trans ((by rw [eI314, dkU_n (by decide)] : I314 340 17 = _).trans ((hF313 340 17 rfl).trans ((hF301 340 17 rfl).trans ((hF288 340 17 rfl).trans ((by rw [eI287, dkU_sn (by decide)] : I287 340 17 = _).trans ((by rw [eI286, dkU_sn (by decide)] : I286 340 17 = _).trans zp2_0)))))))) ((by rw [eI316, dkU_n (by decide)] : I316 340 6 = _).trans ((hF315 340 6 rfl).trans ((by rw [eI314, dkU_n (by decide)] : I314 340 6 = _).trans ((hF313 340 6 rfl).trans ((hF301 340 6 rfl).trans ((hF288 340 6 rfl).trans ((by rw [eI287, dkU_sn (by decide)] : I287 340 6 = _).trans ((by rw [eI286, dkU_sn (by decide)] : I286 340 6 = _).trans zp2_1)))))))) ((by rw [eI316, dkU_n (by decide)] : I316 346 0 = _).trans ((hF315 346 0 rfl).trans ((by rw [eI314, dkU_n (by decide)] : I314 346 0 = _).trans ((hF313 346 0 rfl).trans ((hF301 346 0 rfl).trans ((hF288 346 0 rfl).trans ((by rw [eI287, dkU_n (by decide)] : I287 346 0 = _).trans ((by rw [eI286, dkU_n (by decide)] : I286 346 0 = _).trans (by rw [z2_1]))))))))) ((by rw [eI316, dkU_n (by decide)] : I316 346 4 = _).trans ((hF315 346 4 rfl).trans ((by rw [eI314, dkU_n (by decide)] : I314 346 4 = _).trans ((hF313 346 4 rfl).trans ((hF301 346 4 rfl).trans ((hF288 346 4 rfl).trans ((by rw [eI287, dkU_n (by decide)] : I287 346 4 = _).trans ((by rw [eI286, dkU_n (by decide)] : I286 346 4 = _).trans (by rw [z2_1]))))))))) ((by rw [eI316, dkU_n (by decide)] : I316 346 5 = _).trans ((hF315 346 5 rfl).trans ((by rw [eI314, dkU_n (by decide)] : I314 346 5 = _).trans ((hF313 346 5 rfl).trans ((hF301 346 5 rfl).trans ((hF288 346 5 rfl).trans ((by rw [eI287, dkU_n (by decide)] : I287 346 5 = _).trans ((by rw [eI286, dkU_n (by decide)] : I286 346 5 = _).trans (by rw [z2_1]))))))))) ⟨(dkE_k e317 (by decide)), (((show I316 340 7 = 1 from ((by rw [eI316, dkU_n (by decide)] : I316 340 7 = _).trans ((hF315 340 7 rfl).trans ((by rw [eI314, dkU_n (by decide)] : I314 340 7 = _).trans ((hF313 340 7 rfl).trans y303)))))).trans (dkP_1 e317).symm), (((show I316 340 8 = 0 from ((by rw [eI316, dkU_n (by decide)] : I316 340 8 = _).trans ((hF315 340 8 rfl).trans ((by rw [eI314, dkU_n (by decide)] : I314 340 8 = _).trans ((hF313 340 8 rfl).trans y305)))))).trans (dkP_2 e317).symm)⟩ (lv_sub hl [0, 1] rfl)
        ·
          have q318 : (dkTk (I0 345) (I0 340 6) (0)).toInt = (1 : Int) := by first | (rw [← xv296]; exact (congrArg Int32.toInt c297)) | (subst xv296; exact (congrArg Int32.toInt c297))
          have d319 : dkN [(1, 1)] v296 := dkN_eq1 dv296 (dkN_lit (x := 1) (1) rfl) (congrArg Int32.toInt c297) rfl
          have f320 : dkN [(1, 1)] (I288 340 11) := by rw [← ev296]; exact d319
          refine lv_aload_n hx hb dX6_town_44 rfl (lv_at hl 0 rfl) ?_
          refine dk_get (k := 340) hx hb hts iX6_town_6 hown hK (dk_at340 hW) rfl 12 (by decide) (hts (.fieldLink RX6 95 "DogKingsModel" "value" "I") (List.mem_of_getElem? (i := 5) rfl)) rfl dX6_town_45 ?_
          refine lv_topi (fun v321 ev321 => ?_)
          have xv321 : v321 = dkTv (I0 345) (I0 340 6) (0) := ev321.trans y295
          refine lv_bipush (v := 116) hx hb dX6_town_48 (by decide) ?_
          refine lv_icmp_ne (tgt := 57) hx hb dX6_town_50 (by decide) (fun c322 => ?_) (fun c322 => ?_)
          ·
            have q323 : (dkTv (I0 345) (I0 340 6) (0)).toInt ≠ (116 : Int) := by first | (rw [← xv321]; exact (dk_ne c322)) | (subst xv321; exact (dk_ne c322))
            have d324 : dkN [(-2147483648, 115), (117, 2147483647)] v321 := dkN_ne1 (116) (dkN_top v321) (dkN_lit (x := 116) (116) rfl) (dk_ne c322) rfl
            have f325 : dkN [(-2147483648, 115), (117, 2147483647)] (I288 340 12) := by rw [← ev321]; exact d324
            refine lv_iconst (v := 0) hx hb dX6_town_57 (by decide) ?_
            refine lv_iconst (v := 1) hx hb dX6_town_58 (by decide) ?_
            refine dk_Vi (As := [.int 0, .int 1]) (rest := []) ⟨hx, hb, hml, hown, hts⟩ (fx_X6_takes_33 l g z I288 0 1 (dkN_lit (x := 0) (0) rfl) (dkN_lit (x := 1) (1) rfl) (show dkN [(-2147483648, 115), (117, 2147483647)] (I288 340 12) from dkN_sub f325 rfl) (show dkN [(-1, -1)] (I288 340 8) from dkN_sub (by rw [hF288 340 8 rfl]; exact (by rw [eI287, dkU_ss]; exact (dkN_lit (x := (-1)) (-1) rfl))) rfl) hO) (cwV 2 hts gX6_town_X6_takes rfl rfl rfl (by decide +kernel) ⟨Nat.le_of_ble_eq_true rfl, Nat.le_of_ble_eq_true rfl⟩) (dk_at340 hW) rfl hK hT hW hS rfl hl.1 rfl (Nat.le_of_ble_eq_true rfl) dX6_town_59 ⟨Nat.zero_le _, Nat.zero_le _⟩ (fun v326 I326 H326 L326 hp326 hW hS => ?_)
            obtain ⟨hF326, hO, hc326⟩ := hp326
            have hF := dkF_call hF hF326 rfl
            have hP := dkPP_F hP hF326 rfl
            obtain ⟨dv326, f326_340_12, f326_340_7, f326_340_8, x326_0, x326_1, xr326, xh326_0, xh326_1, xh326_2, xh326_3, xh326_4, xh326_5, -⟩ := hc326
            have w327 : I288 340 8 = (-1) := ((hF288 340 8 rfl).trans (by rw [eI287, dkU_ss]))
            have y328 : I326 340 7 = 1 := by have h := xh326_0; exact h
            have w329 : I288 340 10 = 0 := y293
            have y330 : I326 340 8 = 0 := by have h := xh326_1; rw [w329] at h; exact h
            have w331 : I288 340 9 = dkTe (I0 345) (I0 340 6) (0) := y292
            have y332 : I326 340 9 = dkTe (I0 345) (I0 340 6) (0) := by have h := xh326_2; rw [w331] at h; exact h
            have y333 : I326 340 10 = 0 := by have h := xh326_3; rw [w329] at h; exact h
            have w334 : I288 340 11 = dkTk (I0 345) (I0 340 6) (0) := y294
            have y335 : I326 340 11 = dkTk (I0 345) (I0 340 6) (0) := by have h := xh326_4; rw [w334] at h; exact h
            have w336 : I288 340 12 = dkTv (I0 345) (I0 340 6) (0) := y295
            have y337 : I326 340 12 = dkTv (I0 345) (I0 340 6) (0) := by have h := xh326_5; rw [w336] at h; exact h
            have xv326 : v326 = 0 := by have h := xr326; exact h
            refine lv_pop hx hb dX6_town_62 rfl ?_
            refine lv_aload_n hx hb dX6_town_63 rfl (lv_at hl 0 rfl) ?_
            refine dk_get (k := 340) hx hb hts iX6_town_6 hown hK (dk_at340 hW) rfl 14 (by decide) (hts (.fieldLink RX6 28 "DogKingsModel" "draft" "[I") (List.mem_of_getElem? (i := 1) rfl)) rfl dX6_town_64 ?_
            refine lv_iconst (v := 0) hx hb dX6_town_67 (by decide) ?_
            refine lv_aload_n hx hb dX6_town_68 rfl (lv_at hl 0 rfl) ?_
            refine lv_iconst (v := 3) hx hb dX6_town_69 (by decide) ?_
            refine lv_bipush (v := 9) hx hb dX6_town_70 (by decide) ?_
            refine dk_Vi (As := [.int 3, .int 9]) (rest := [.int 0, .ref (z + 347)]) ⟨hx, hb, hml, hown, hts⟩ (h_X6_figure_0 l g z I326 3 9 (show dkN [(0, 90)] (I326 340 8) from dkN_sub f326_340_8 rfl) hO) (cwV 2 hts gX6_town_X6_figure rfl rfl rfl (by decide +kernel) ⟨Nat.le_of_ble_eq_true rfl, Nat.le_of_ble_eq_true rfl⟩) (dk_at340 hW) rfl hK hT hW hS rfl hl.1 rfl (Nat.le_of_ble_eq_true rfl) dX6_town_72 ⟨Nat.zero_le _, Nat.zero_le _⟩ (fun v338 I338 H338 L338 hp338 hW hS => ?_)
            obtain ⟨hF338, hO, hc338⟩ := hp338
            have hF := dkF_call hF hF338 rfl
            have hP := dkPP_F hP hF338 rfl
            have eI338 : I326 = I338 := (dkF_nil hF338).symm
            subst eI338
            obtain ⟨dv338, xr338, -⟩ := hc338
            have xv338 : v338 = 0 := by have h := xr338; exact h
            refine dk_ist (k := 347) hx hb hK hW (fun _ => rfl) (by decide) hS (dkN_in (n := 54) (dkN_lit (x := 0) (0) rfl) rfl) dX6_town_75 (fun I339 H339 L339 eI339 hW hS => ?_)
            have eI339 : I339 = dkU I326 347 0 v338 := eI339
            have hO := dkO_set hO eI339 (dkN_sub dv338 rfl)
            have hF := dkF_set hF eI339 rfl
            have hP := dkPP_set hP eI339 rfl
            refine lv_aload_n hx hb dX6_town_76 rfl (lv_at hl 0 rfl) ?_
            refine dk_get (k := 340) hx hb hts iX6_town_6 hown hK (dk_at340 hW) rfl 14 (by decide) (hts (.fieldLink RX6 28 "DogKingsModel" "draft" "[I") (List.mem_of_getElem? (i := 1) rfl)) rfl dX6_town_77 ?_
            refine lv_iconst (v := 1) hx hb dX6_town_80 (by decide) ?_
            refine lv_aload_n hx hb dX6_town_81 rfl (lv_at hl 0 rfl) ?_
            refine lv_iconst (v := 1) hx hb dX6_town_82 (by decide) ?_
            refine lv_bipush (v := 30) hx hb dX6_town_83 (by decide) ?_
            refine dk_Vi (As := [.int 1, .int 30]) (rest := [.int 1, .ref (z + 347)]) ⟨hx, hb, hml, hown, hts⟩ (h_X6_follows_0 l g z I339 1 30 (show dkN [(0, 90)] (I339 340 8) from dkN_sub (by rw [eI339, dkU_n (by decide)]; exact (by rw [hF338 340 8 rfl]; exact f326_340_8)) rfl) hO) (cwV 2 hts gX6_town_X6_follows rfl rfl rfl (by decide +kernel) ⟨Nat.le_of_ble_eq_true rfl, Nat.le_of_ble_eq_true rfl⟩) (dk_at340 hW) rfl hK hT hW hS rfl hl.1 rfl (Nat.le_of_ble_eq_true rfl) dX6_town_85 ⟨Nat.zero_le _, Nat.zero_le _⟩ (fun v340 I340 H340 L340 hp340 hW hS => ?_)
            obtain ⟨hF340, hO, hc340⟩ := hp340
            have hF := dkF_call hF hF340 rfl
            have hP := dkPP_F hP hF340 rfl
            have eI340 : I339 = I340 := (dkF_nil hF340).symm
            subst eI340
            obtain ⟨dv340, xr340, -⟩ := hc340
            have xv340 : v340 = 0 := by have h := xr340; exact h
            refine dk_ist (k := 347) hx hb hK hW (fun _ => rfl) (by decide) hS (dkN_in (n := 54) (dkN_lit (x := 1) (1) rfl) rfl) dX6_town_88 (fun I341 H341 L341 eI341 hW hS => ?_)
            have eI341 : I341 = dkU I339 347 1 v340 := eI341
            have hO := dkO_set hO eI341 (dkN_sub dv340 rfl)
            have hF := dkF_set hF eI341 rfl
            have hP := dkPP_set hP eI341 rfl
            have i0 : (0 : Int32).toInt = 0 := rfl
            have i1 : (1 : Int32).toInt = 1 := rfl
            have i2 : (2 : Int32).toInt = 2 := rfl
            have i3 : (3 : Int32).toInt = 3 := rfl
            have i9 : (9 : Int32).toInt = 9 := rfl
            have i30 : (30 : Int32).toInt = 30 := rfl
            have i44 : (44 : Int32).toInt = 44 := rfl
            have i59 : (59 : Int32).toInt = 59 := rfl
            have i109 : (109 : Int32).toInt = 109 := rfl
            have i116 : (116 : Int32).toInt = 116 := rfl
            have e342 : dkTw (I0 345) (I0 340 6) = (1, 0) := dkTw_l (dkTh_q (dkK_ln (T := (I0 345)) (n := (I0 340 6)) (a := 0) (c := 116) (by omega) (by omega)) (by decide)) (by decide)
            exact C89 I341 _ _ ls x2_1 hW hS hF hO hP (dkN_sub d285 rfl) (show dkN [(1, 2)] (I341 340 7) from dkN_sub (by rw [eI341, dkU_n (by decide)]; exact (by rw [hF340 340 7 rfl]; exact (by rw [eI339, dkU_n (by decide)]; exact (by rw [hF338 340 7 rfl]; exact f326_340_7)))) rfl) (show dkN [(0, 90)] (I341 340 8) from dkN_sub (by rw [eI341, dkU_n (by decide)]; exact (by rw [hF340 340 8 rfl]; exact (by rw [eI339, dkU_n (by decide)]; exact (by rw [hF338 340 8 rfl]; exact f326_340_8)))) rfl) (show dkN [(0, 0), (3, 9)] (I341 347 0) from dkN_sub (by rw [eI341, dkU_sn (by decide)]; exact (by rw [hF340 347 0 rfl]; exact (by rw [eI339, dkU_ss]; exact dv338))) rfl) (show dkN [(0, 0)] (I341 347 1) from dkN_sub (by rw [eI341, dkU_ss]; exact dv340) rfl) (show dkN [(0, 0)] (I341 347 4) from dkN_sub (by rw [eI341, dkU_sn (by decide)]; exact (by rw [hF340 347 4 rfl]; exact (by rw [eI339, dkU_sn (by decide)]; exact (by rw [hF338 347 4 rfl]; exact (by rw [hF326 347 4 rfl]; exact (by rw [hF288 347 4 rfl]; exact (by rw [eI287, dkU_n (by decide)]; exact (by rw [eI286, dkU_n (by decide)]; exact (dkN_lit (0) (by rw [hz4]; rfl)))))))))) rfl) (show dkN [(0, 0)] (I341 347 5) from dkN_sub (by rw [eI341, dkU_sn (by decide)]; exact (by rw [hF340 347 5 rfl]; exact (by rw [eI339, dkU_sn (by decide)]; exact (by rw [hF338 347 5 rfl]; exact (by rw [hF326 347 5 rfl]; exact (by rw [hF288 347 5 rfl]; exact (by rw [eI287, dkU_n (by decide)]; exact (by rw [eI286, dkU_n (by decide)]; exact (dkN_lit (0) (by rw [hz5]; rfl)))))))))) rfl) ((by rw [eI341, dkU_n (by decide)] : I341 345 = _).trans ((funext fun j => hF340 345 j dkNin_nil).trans ((by rw [eI339, dkU_n (by decide)] : I339 345 = _).trans ((funext fun j => hF338 345 j dkNin_nil).trans ((funext fun j => hF326 345 j (dkNin_k rfl dkNin_nil)).trans ((funext fun j => hF288 345 j (dkNin_k rfl dkNin_nil)).trans ((by rw [eI287, dkU_n (by decide)] : I287 345 = _).trans ((by rw [eI286, dkU_n (by decide)] : I286 345 = _).trans z2_0)))))))) ((by rw [eI341, dkU_n (by decide)] : I341 346 = _).trans ((funext fun j => hF340 346 j dkNin_nil).trans ((by rw [eI339, dkU_n (by decide)] : I339 346 = _).trans ((funext fun j => hF338 346 j dkNin_nil).trans ((funext fun j => hF326 346 j (dkNin_k rfl dkNin_nil)).trans ((funext fun j => hF288 346 j (dkNin_k rfl dkNin_nil)).trans ((by rw [eI287, dkU_n (by decide)] : I287 346 = _).trans ((by rw [eI286, dkU_n (by decide)] : I286 346 = _).trans z2_1)))))))) ((by rw [eI341, dkU_n (by decide)] : I341 340 17 = _).trans ((hF340 340 17 rfl).trans ((by rw [eI339, dkU_n (by decide)] : I339 340 17 = _).trans ((hF338 340 17 rfl).trans ((hF326 340 17 rfl).trans ((hF288 340 17 rfl).trans ((by rw [eI287, dkU_sn (by decide)] : I287 340 17 = _).trans ((by rw [eI286, dkU_sn (by decide)] : I286 340 17 = _).trans zp2_0)))))))) ((by rw [eI341, dkU_n (by decide)] : I341 340 6 = _).trans ((hF340 340 6 rfl).trans ((by rw [eI339, dkU_n (by decide)] : I339 340 6 = _).trans ((hF338 340 6 rfl).trans ((hF326 340 6 rfl).trans ((hF288 340 6 rfl).trans ((by rw [eI287, dkU_sn (by decide)] : I287 340 6 = _).trans ((by rw [eI286, dkU_sn (by decide)] : I286 340 6 = _).trans zp2_1)))))))) ((by rw [eI341, dkU_n (by decide)] : I341 346 0 = _).trans ((hF340 346 0 rfl).trans ((by rw [eI339, dkU_n (by decide)] : I339 346 0 = _).trans ((hF338 346 0 rfl).trans ((hF326 346 0 rfl).trans ((hF288 346 0 rfl).trans ((by rw [eI287, dkU_n (by decide)] : I287 346 0 = _).trans ((by rw [eI286, dkU_n (by decide)] : I286 346 0 = _).trans (by rw [z2_1]))))))))) ((by rw [eI341, dkU_n (by decide)] : I341 346 4 = _).trans ((hF340 346 4 rfl).trans ((by rw [eI339, dkU_n (by decide)] : I339 346 4 = _).trans ((hF338 346 4 rfl).trans ((hF326 346 4 rfl).trans ((hF288 346 4 rfl).trans ((by rw [eI287, dkU_n (by decide)] : I287 346 4 = _).trans ((by rw [eI286, dkU_n (by decide)] : I286 346 4 = _).trans (by rw [z2_1]))))))))) ((by rw [eI341, dkU_n (by decide)] : I341 346 5 = _).trans ((hF340 346 5 rfl).trans ((by rw [eI339, dkU_n (by decide)] : I339 346 5 = _).trans ((hF338 346 5 rfl).trans ((hF326 346 5 rfl).trans ((hF288 346 5 rfl).trans ((by rw [eI287, dkU_n (by decide)] : I287 346 5 = _).trans ((by rw [eI286, dkU_n (by decide)] : I286 346 5 = _).trans (by rw [z2_1]))))))))) ⟨(dkE_k e342 (by decide)), (((show I341 340 7 = 1 from ((by rw [eI341, dkU_n (by decide)] : I341 340 7 = _).trans ((hF340 340 7 rfl).trans ((by rw [eI339, dkU_n (by decide)] : I339 340 7 = _).trans ((hF338 340 7 rfl).trans y328)))))).trans (dkP_1 e342).symm), (((show I341 340 8 = 0 from ((by rw [eI341, dkU_n (by decide)] : I341 340 8 = _).trans ((hF340 340 8 rfl).trans ((by rw [eI339, dkU_n (by decide)] : I339 340 8 = _).trans ((hF338 340 8 rfl).trans y330)))))).trans (dkP_2 e342).symm)⟩ (lv_sub hl [0, 1] rfl)
          ·
            have q343 : (dkTv (I0 345) (I0 340 6) (0)).toInt = (116 : Int) := by first | (rw [← xv321]; exact (congrArg Int32.toInt c322)) | (subst xv321; exact (congrArg Int32.toInt c322))
            have d344 : dkN [(116, 116)] v321 := dkN_eq1 (dkN_top v321) (dkN_lit (x := 116) (116) rfl) (congrArg Int32.toInt c322) rfl
            have f345 : dkN [(116, 116)] (I288 340 12) := by rw [← ev321]; exact d344
            refine lv_iconst (v := 1) hx hb dX6_town_53 (by decide) ?_
            refine lv_goto (tgt := 58) hx hb dX6_town_54 (by decide) ?_
            refine lv_iconst (v := 1) hx hb dX6_town_58 (by decide) ?_
            refine dk_Vi (As := [.int 1, .int 1]) (rest := []) ⟨hx, hb, hml, hown, hts⟩ (fx_X6_takes_34 l g z I288 1 1 (dkN_lit (x := 1) (1) rfl) (dkN_lit (x := 1) (1) rfl) (show dkN [(116, 116)] (I288 340 12) from dkN_sub f345 rfl) (show dkN [(-1, -1)] (I288 340 8) from dkN_sub (by rw [hF288 340 8 rfl]; exact (by rw [eI287, dkU_ss]; exact (dkN_lit (x := (-1)) (-1) rfl))) rfl) hO) (cwV 2 hts gX6_town_X6_takes rfl rfl rfl (by decide +kernel) ⟨Nat.le_of_ble_eq_true rfl, Nat.le_of_ble_eq_true rfl⟩) (dk_at340 hW) rfl hK hT hW hS rfl hl.1 rfl (Nat.le_of_ble_eq_true rfl) dX6_town_59 ⟨Nat.zero_le _, Nat.zero_le _⟩ (fun v346 I346 H346 L346 hp346 hW hS => ?_)
            obtain ⟨hF346, hO, hc346⟩ := hp346
            have hF := dkF_call hF hF346 rfl
            have hP := dkPP_F hP hF346 rfl
            obtain ⟨dv346, f346_340_11, f346_340_8, x346_0, x346_1, xr346, xh346_0, xh346_1, xh346_2, xh346_3, xh346_4, xh346_5, -⟩ := hc346
            have w347 : I288 340 8 = (-1) := ((hF288 340 8 rfl).trans (by rw [eI287, dkU_ss]))
            have w348 : I288 340 7 = I0 340 7 := ((hF288 340 7 rfl).trans ((by rw [eI287, dkU_sn (by decide)] : I287 340 7 = _).trans ((by rw [eI286, dkU_sn (by decide)] : I286 340 7 = _).trans zp2_2)))
            have y349 : I346 340 7 = I0 340 7 := by have h := xh346_0; rw [w348] at h; exact h
            have y350 : I346 340 8 = (-1) := by have h := xh346_1; rw [w347] at h; exact h
            have w351 : I288 345 = I0 345 := ((funext fun j => hF288 345 j (dkNin_k rfl dkNin_nil)).trans ((by rw [eI287, dkU_n (by decide)] : I287 345 = _).trans ((by rw [eI286, dkU_n (by decide)] : I286 345 = _).trans z2_0)))
            have w352 : I288 340 6 = I0 340 6 := ((hF288 340 6 rfl).trans ((by rw [eI287, dkU_sn (by decide)] : I287 340 6 = _).trans ((by rw [eI286, dkU_sn (by decide)] : I286 340 6 = _).trans zp2_1)))
            have w353 : I288 340 9 = dkTe (I0 345) (I0 340 6) (0) := y292
            have y354 : I346 340 9 = dkTe (I0 345) (I0 340 6) (dkTe (I0 345) (I0 340 6) (0)) := by have h := xh346_2; rw [w351, w352, w353] at h; exact h
            have y355 : I346 340 10 = dkTe (I0 345) (I0 340 6) (0) := by have h := xh346_3; rw [w353] at h; exact h
            have y356 : I346 340 11 = dkTk (I0 345) (I0 340 6) (dkTe (I0 345) (I0 340 6) (0)) := by have h := xh346_4; rw [w351, w352, w353] at h; exact h
            have y357 : I346 340 12 = dkTv (I0 345) (I0 340 6) (dkTe (I0 345) (I0 340 6) (0)) := by have h := xh346_5; rw [w351, w352, w353] at h; exact h
            have w358 : I288 340 12 = dkTv (I0 345) (I0 340 6) (0) := y295
            have xv346 : v346 = dkTv (I0 345) (I0 340 6) (0) := by have h := xr346; rw [w358] at h; exact h
            refine lv_pop hx hb dX6_town_62 rfl ?_
            refine lv_aload_n hx hb dX6_town_63 rfl (lv_at hl 0 rfl) ?_
            refine dk_get (k := 340) hx hb hts iX6_town_6 hown hK (dk_at340 hW) rfl 14 (by decide) (hts (.fieldLink RX6 28 "DogKingsModel" "draft" "[I") (List.mem_of_getElem? (i := 1) rfl)) rfl dX6_town_64 ?_
            refine lv_iconst (v := 0) hx hb dX6_town_67 (by decide) ?_
            refine lv_aload_n hx hb dX6_town_68 rfl (lv_at hl 0 rfl) ?_
            refine lv_iconst (v := 3) hx hb dX6_town_69 (by decide) ?_
            refine lv_bipush (v := 9) hx hb dX6_town_70 (by decide) ?_
            refine dk_Vi (As := [.int 3, .int 9]) (rest := [.int 0, .ref (z + 347)]) ⟨hx, hb, hml, hown, hts⟩ (fx_X6_figure_10 l g z I346 3 9 (dkN_lit (x := 3) (3) rfl) (dkN_lit (x := 9) (9) rfl) (show dkN [(-1, -1)] (I346 340 8) from dkN_sub f346_340_8 rfl) hO) (cwV 2 hts gX6_town_X6_figure rfl rfl rfl (by decide +kernel) ⟨Nat.le_of_ble_eq_true rfl, Nat.le_of_ble_eq_true rfl⟩) (dk_at340 hW) rfl hK hT hW hS rfl hl.1 rfl (Nat.le_of_ble_eq_true rfl) dX6_town_72 ⟨Nat.zero_le _, Nat.zero_le _⟩ (fun v359 I359 H359 L359 hp359 hW hS => ?_)
            obtain ⟨hF359, hO, hc359⟩ := hp359
            have hF := dkF_call hF hF359 rfl
            have hP := dkPP_F hP hF359 rfl
            rcases hc359 with ⟨dv359, f359_340_11, f359_340_12, f359_340_7, f359_340_8, x359_0, x359_1, x359_2, xr359, xh359_0, xh359_1, xh359_2, xh359_3, xh359_4, xh359_5, -⟩ | hc359
            ·
              have w360 : I346 340 8 = (-1) := y350
              have w361 : I346 340 11 = dkTk (I0 345) (I0 340 6) (dkTe (I0 345) (I0 340 6) (0)) := y356
              have q362 : (dkTk (I0 345) (I0 340 6) (dkTe (I0 345) (I0 340 6) (0))).toInt = (2 : Int) := by have h := x359_1; rw [w361] at h; exact h
              have w363 : I346 340 12 = dkTv (I0 345) (I0 340 6) (dkTe (I0 345) (I0 340 6) (0)) := y357
              have q364 : (dkTv (I0 345) (I0 340 6) (dkTe (I0 345) (I0 340 6) (0))).toInt + 1 ≤ (3 : Int) := by have h := x359_2; rw [w363] at h; exact h
              have y365 : I359 340 7 = 2 := by have h := xh359_0; exact h
              have w366 : I346 340 10 = dkTe (I0 345) (I0 340 6) (0) := y355
              have y367 : I359 340 8 = dkTe (I0 345) (I0 340 6) (0) := by have h := xh359_1; rw [w366] at h; exact h
              have w368 : I346 340 9 = dkTe (I0 345) (I0 340 6) (dkTe (I0 345) (I0 340 6) (0)) := y354
              have y369 : I359 340 9 = dkTe (I0 345) (I0 340 6) (dkTe (I0 345) (I0 340 6) (0)) := by have h := xh359_2; rw [w368] at h; exact h
              have y370 : I359 340 10 = dkTe (I0 345) (I0 340 6) (0) := by have h := xh359_3; rw [w366] at h; exact h
              have y371 : I359 340 11 = dkTk (I0 345) (I0 340 6) (dkTe (I0 345) (I0 340 6) (0)) := by have h := xh359_4; rw [w361] at h; exact h
              have y372 : I359 340 12 = dkTv (I0 345) (I0 340 6) (dkTe (I0 345) (I0 340 6) (0)) := by have h := xh359_5; rw [w363] at h; exact h
              have xv359 : v359 = 0 := by have h := xr359; exact h
              refine dk_ist (k := 347) hx hb hK hW (fun _ => rfl) (by decide) hS (dkN_in (n := 54) (dkN_lit (x := 0) (0) rfl) rfl) dX6_town_75 (fun I373 H373 L373 eI373 hW hS => ?_)
              have eI373 : I373 = dkU I359 347 0 v359 := eI373
              have hO := dkO_set hO eI373 (dkN_sub dv359 rfl)
              have hF := dkF_set hF eI373 rfl
              have hP := dkPP_set hP eI373 rfl
              refine lv_aload_n hx hb dX6_town_76 rfl (lv_at hl 0 rfl) ?_
              refine dk_get (k := 340) hx hb hts iX6_town_6 hown hK (dk_at340 hW) rfl 14 (by decide) (hts (.fieldLink RX6 28 "DogKingsModel" "draft" "[I") (List.mem_of_getElem? (i := 1) rfl)) rfl dX6_town_77 ?_
              refine lv_iconst (v := 1) hx hb dX6_town_80 (by decide) ?_
              refine lv_aload_n hx hb dX6_town_81 rfl (lv_at hl 0 rfl) ?_
              refine lv_iconst (v := 1) hx hb dX6_town_82 (by decide) ?_
              refine lv_bipush (v := 30) hx hb dX6_town_83 (by decide) ?_
              refine dk_Vi (As := [.int 1, .int 30]) (rest := [.int 1, .ref (z + 347)]) ⟨hx, hb, hml, hown, hts⟩ (h_X6_follows_0 l g z I373 1 30 (show dkN [(0, 90)] (I373 340 8) from dkN_sub (by rw [eI373, dkU_n (by decide)]; exact f359_340_8) rfl) hO) (cwV 2 hts gX6_town_X6_follows rfl rfl rfl (by decide +kernel) ⟨Nat.le_of_ble_eq_true rfl, Nat.le_of_ble_eq_true rfl⟩) (dk_at340 hW) rfl hK hT hW hS rfl hl.1 rfl (Nat.le_of_ble_eq_true rfl) dX6_town_85 ⟨Nat.zero_le _, Nat.zero_le _⟩ (fun v374 I374 H374 L374 hp374 hW hS => ?_)
              obtain ⟨hF374, hO, hc374⟩ := hp374
              have hF := dkF_call hF hF374 rfl
              have hP := dkPP_F hP hF374 rfl
              have eI374 : I373 = I374 := (dkF_nil hF374).symm
              subst eI374
              obtain ⟨dv374, xr374, -⟩ := hc374
              have xv374 : v374 = 0 := by have h := xr374; exact h
              refine dk_ist (k := 347) hx hb hK hW (fun _ => rfl) (by decide) hS (dkN_in (n := 54) (dkN_lit (x := 1) (1) rfl) rfl) dX6_town_88 (fun I375 H375 L375 eI375 hW hS => ?_)
              have eI375 : I375 = dkU I373 347 1 v374 := eI375
              have hO := dkO_set hO eI375 (dkN_sub dv374 rfl)
              have hF := dkF_set hF eI375 rfl
              have hP := dkPP_set hP eI375 rfl
              have i0 : (0 : Int32).toInt = 0 := rfl
              have i1 : (1 : Int32).toInt = 1 := rfl
              have i2 : (2 : Int32).toInt = 2 := rfl
              have i3 : (3 : Int32).toInt = 3 := rfl
              have i9 : (9 : Int32).toInt = 9 := rfl
              have i30 : (30 : Int32).toInt = 30 := rfl
              have i44 : (44 : Int32).toInt = 44 := rfl
              have i59 : (59 : Int32).toInt = 59 := rfl
              have i109 : (109 : Int32).toInt = 109 := rfl
              have i116 : (116 : Int32).toInt = 116 := rfl
              have e376 : dkTw (I0 345) (I0 340 6) = (2, dkTe (I0 345) (I0 340 6) (0)) := dkTw_l ((dkTh_p (dkK_l (T := (I0 345)) (n := (I0 340 6)) (a := 0) (c := 116) q318 (by omega))).trans (dkTh_q (dkK_2 (T := (I0 345)) (n := (I0 340 6)) (a := dkTe (I0 345) (I0 340 6) (0)) (lo := 3) (hi := 9) q362 (by omega)) (by decide))) (by decide)
              exact C89 I375 _ _ ls x2_1 hW hS hF hO hP (dkN_sub d285 rfl) (show dkN [(1, 2)] (I375 340 7) from dkN_sub (by rw [eI375, dkU_n (by decide)]; exact (by rw [hF374 340 7 rfl]; exact (by rw [eI373, dkU_n (by decide)]; exact f359_340_7))) rfl) (show dkN [(0, 90)] (I375 340 8) from dkN_sub (by rw [eI375, dkU_n (by decide)]; exact (by rw [hF374 340 8 rfl]; exact (by rw [eI373, dkU_n (by decide)]; exact f359_340_8))) rfl) (show dkN [(0, 0), (3, 9)] (I375 347 0) from dkN_sub (by rw [eI375, dkU_sn (by decide)]; exact (by rw [hF374 347 0 rfl]; exact (by rw [eI373, dkU_ss]; exact dv359))) rfl) (show dkN [(0, 0)] (I375 347 1) from dkN_sub (by rw [eI375, dkU_ss]; exact dv374) rfl) (show dkN [(0, 0)] (I375 347 4) from dkN_sub (by rw [eI375, dkU_sn (by decide)]; exact (by rw [hF374 347 4 rfl]; exact (by rw [eI373, dkU_sn (by decide)]; exact (by rw [hF359 347 4 rfl]; exact (by rw [hF346 347 4 rfl]; exact (by rw [hF288 347 4 rfl]; exact (by rw [eI287, dkU_n (by decide)]; exact (by rw [eI286, dkU_n (by decide)]; exact (dkN_lit (0) (by rw [hz4]; rfl)))))))))) rfl) (show dkN [(0, 0)] (I375 347 5) from dkN_sub (by rw [eI375, dkU_sn (by decide)]; exact (by rw [hF374 347 5 rfl]; exact (by rw [eI373, dkU_sn (by decide)]; exact (by rw [hF359 347 5 rfl]; exact (by rw [hF346 347 5 rfl]; exact (by rw [hF288 347 5 rfl]; exact (by rw [eI287, dkU_n (by decide)]; exact (by rw [eI286, dkU_n (by decide)]; exact (dkN_lit (0) (by rw [hz5]; rfl)))))))))) rfl) ((by rw [eI375, dkU_n (by decide)] : I375 345 = _).trans ((funext fun j => hF374 345 j dkNin_nil).trans ((by rw [eI373, dkU_n (by decide)] : I373 345 = _).trans ((funext fun j => hF359 345 j (dkNin_k rfl dkNin_nil)).trans ((funext fun j => hF346 345 j (dkNin_k rfl dkNin_nil)).trans ((funext fun j => hF288 345 j (dkNin_k rfl dkNin_nil)).trans ((by rw [eI287, dkU_n (by decide)] : I287 345 = _).trans ((by rw [eI286, dkU_n (by decide)] : I286 345 = _).trans z2_0)))))))) ((by rw [eI375, dkU_n (by decide)] : I375 346 = _).trans ((funext fun j => hF374 346 j dkNin_nil).trans ((by rw [eI373, dkU_n (by decide)] : I373 346 = _).trans ((funext fun j => hF359 346 j (dkNin_k rfl dkNin_nil)).trans ((funext fun j => hF346 346 j (dkNin_k rfl dkNin_nil)).trans ((funext fun j => hF288 346 j (dkNin_k rfl dkNin_nil)).trans ((by rw [eI287, dkU_n (by decide)] : I287 346 = _).trans ((by rw [eI286, dkU_n (by decide)] : I286 346 = _).trans z2_1)))))))) ((by rw [eI375, dkU_n (by decide)] : I375 340 17 = _).trans ((hF374 340 17 rfl).trans ((by rw [eI373, dkU_n (by decide)] : I373 340 17 = _).trans ((hF359 340 17 rfl).trans ((hF346 340 17 rfl).trans ((hF288 340 17 rfl).trans ((by rw [eI287, dkU_sn (by decide)] : I287 340 17 = _).trans ((by rw [eI286, dkU_sn (by decide)] : I286 340 17 = _).trans zp2_0)))))))) ((by rw [eI375, dkU_n (by decide)] : I375 340 6 = _).trans ((hF374 340 6 rfl).trans ((by rw [eI373, dkU_n (by decide)] : I373 340 6 = _).trans ((hF359 340 6 rfl).trans ((hF346 340 6 rfl).trans ((hF288 340 6 rfl).trans ((by rw [eI287, dkU_sn (by decide)] : I287 340 6 = _).trans ((by rw [eI286, dkU_sn (by decide)] : I286 340 6 = _).trans zp2_1)))))))) ((by rw [eI375, dkU_n (by decide)] : I375 346 0 = _).trans ((hF374 346 0 rfl).trans ((by rw [eI373, dkU_n (by decide)] : I373 346 0 = _).trans ((hF359 346 0 rfl).trans ((hF346 346 0 rfl).trans ((hF288 346 0 rfl).trans ((by rw [eI287, dkU_n (by decide)] : I287 346 0 = _).trans ((by rw [eI286, dkU_n (by decide)] : I286 346 0 = _).trans (by rw [z2_1]))))))))) ((by rw [eI375, dkU_n (by decide)] : I375 346 4 = _).trans ((hF374 346 4 rfl).trans ((by rw [eI373, dkU_n (by decide)] : I373 346 4 = _).trans ((hF359 346 4 rfl).trans ((hF346 346 4 rfl).trans ((hF288 346 4 rfl).trans ((by rw [eI287, dkU_n (by decide)] : I287 346 4 = _).trans ((by rw [eI286, dkU_n (by decide)] : I286 346 4 = _).trans (by rw [z2_1]))))))))) ((by rw [eI375, dkU_n (by decide)] : I375 346 5 = _).trans ((hF374 346 5 rfl).trans ((by rw [eI373, dkU_n (by decide)] : I373 346 5 = _).trans ((hF359 346 5 rfl).trans ((hF346 346 5 rfl).trans ((hF288 346 5 rfl).trans ((by rw [eI287, dkU_n (by decide)] : I287 346 5 = _).trans ((by rw [eI286, dkU_n (by decide)] : I286 346 5 = _).trans (by rw [z2_1]))))))))) ⟨(dkE_k e376 (by decide)), (((show I375 340 7 = 2 from ((by rw [eI375, dkU_n (by decide)] : I375 340 7 = _).trans ((hF374 340 7 rfl).trans ((by rw [eI373, dkU_n (by decide)] : I373 340 7 = _).trans y365))))).trans (dkP_1 e376).symm), (((show I375 340 8 = dkTe (I0 345) (I0 340 6) (0) from ((by rw [eI375, dkU_n (by decide)] : I375 340 8 = _).trans ((hF374 340 8 rfl).trans ((by rw [eI373, dkU_n (by decide)] : I373 340 8 = _).trans y367))))).trans (dkP_2 e376).symm)⟩ (lv_sub hl [0, 1] rfl)
            rcases hc359 with ⟨dv359, f359_340_11, f359_340_12, f359_340_7, f359_340_8, x359_0, x359_1, x359_2, x359_3, xr359, xh359_0, xh359_1, xh359_2, xh359_3, xh359_4, xh359_5, -⟩ | hc359
            ·
              have w377 : I346 340 8 = (-1) := y350
              have w378 : I346 340 11 = dkTk (I0 345) (I0 340 6) (dkTe (I0 345) (I0 340 6) (0)) := y356
              have q379 : (dkTk (I0 345) (I0 340 6) (dkTe (I0 345) (I0 340 6) (0))).toInt = (2 : Int) := by have h := x359_1; rw [w378] at h; exact h
              have w380 : I346 340 12 = dkTv (I0 345) (I0 340 6) (dkTe (I0 345) (I0 340 6) (0)) := y357
              have q381 : (3 : Int) + 0 ≤ (dkTv (I0 345) (I0 340 6) (dkTe (I0 345) (I0 340 6) (0))).toInt := by have h := x359_2; rw [w380] at h; exact h
              have q382 : (9 : Int) + 1 ≤ (dkTv (I0 345) (I0 340 6) (dkTe (I0 345) (I0 340 6) (0))).toInt := by have h := x359_3; rw [w380] at h; exact h
              have y383 : I359 340 7 = 2 := by have h := xh359_0; exact h
              have w384 : I346 340 10 = dkTe (I0 345) (I0 340 6) (0) := y355
              have y385 : I359 340 8 = dkTe (I0 345) (I0 340 6) (0) := by have h := xh359_1; rw [w384] at h; exact h
              have w386 : I346 340 9 = dkTe (I0 345) (I0 340 6) (dkTe (I0 345) (I0 340 6) (0)) := y354
              have y387 : I359 340 9 = dkTe (I0 345) (I0 340 6) (dkTe (I0 345) (I0 340 6) (0)) := by have h := xh359_2; rw [w386] at h; exact h
              have y388 : I359 340 10 = dkTe (I0 345) (I0 340 6) (0) := by have h := xh359_3; rw [w384] at h; exact h
              have y389 : I359 340 11 = dkTk (I0 345) (I0 340 6) (dkTe (I0 345) (I0 340 6) (0)) := by have h := xh359_4; rw [w378] at h; exact h
              have y390 : I359 340 12 = dkTv (I0 345) (I0 340 6) (dkTe (I0 345) (I0 340 6) (0)) := by have h := xh359_5; rw [w380] at h; exact h
              have xv359 : v359 = 0 := by have h := xr359; exact h
              refine dk_ist (k := 347) hx hb hK hW (fun _ => rfl) (by decide) hS (dkN_in (n := 54) (dkN_lit (x := 0) (0) rfl) rfl) dX6_town_75 (fun I391 H391 L391 eI391 hW hS => ?_)
              have eI391 : I391 = dkU I359 347 0 v359 := eI391
              have hO := dkO_set hO eI391 (dkN_sub dv359 rfl)
              have hF := dkF_set hF eI391 rfl
              have hP := dkPP_set hP eI391 rfl
              refine lv_aload_n hx hb dX6_town_76 rfl (lv_at hl 0 rfl) ?_
              refine dk_get (k := 340) hx hb hts iX6_town_6 hown hK (dk_at340 hW) rfl 14 (by decide) (hts (.fieldLink RX6 28 "DogKingsModel" "draft" "[I") (List.mem_of_getElem? (i := 1) rfl)) rfl dX6_town_77 ?_
              refine lv_iconst (v := 1) hx hb dX6_town_80 (by decide) ?_
              refine lv_aload_n hx hb dX6_town_81 rfl (lv_at hl 0 rfl) ?_
              refine lv_iconst (v := 1) hx hb dX6_town_82 (by decide) ?_
              refine lv_bipush (v := 30) hx hb dX6_town_83 (by decide) ?_
              refine dk_Vi (As := [.int 1, .int 30]) (rest := [.int 1, .ref (z + 347)]) ⟨hx, hb, hml, hown, hts⟩ (h_X6_follows_0 l g z I391 1 30 (show dkN [(0, 90)] (I391 340 8) from dkN_sub (by rw [eI391, dkU_n (by decide)]; exact f359_340_8) rfl) hO) (cwV 2 hts gX6_town_X6_follows rfl rfl rfl (by decide +kernel) ⟨Nat.le_of_ble_eq_true rfl, Nat.le_of_ble_eq_true rfl⟩) (dk_at340 hW) rfl hK hT hW hS rfl hl.1 rfl (Nat.le_of_ble_eq_true rfl) dX6_town_85 ⟨Nat.zero_le _, Nat.zero_le _⟩ (fun v392 I392 H392 L392 hp392 hW hS => ?_)
              obtain ⟨hF392, hO, hc392⟩ := hp392
              have hF := dkF_call hF hF392 rfl
              have hP := dkPP_F hP hF392 rfl
              have eI392 : I391 = I392 := (dkF_nil hF392).symm
              subst eI392
              obtain ⟨dv392, xr392, -⟩ := hc392
              have xv392 : v392 = 0 := by have h := xr392; exact h
              refine dk_ist (k := 347) hx hb hK hW (fun _ => rfl) (by decide) hS (dkN_in (n := 54) (dkN_lit (x := 1) (1) rfl) rfl) dX6_town_88 (fun I393 H393 L393 eI393 hW hS => ?_)
              have eI393 : I393 = dkU I391 347 1 v392 := eI393
              have hO := dkO_set hO eI393 (dkN_sub dv392 rfl)
              have hF := dkF_set hF eI393 rfl
              have hP := dkPP_set hP eI393 rfl
              have i0 : (0 : Int32).toInt = 0 := rfl
              have i1 : (1 : Int32).toInt = 1 := rfl
              have i2 : (2 : Int32).toInt = 2 := rfl
              have i3 : (3 : Int32).toInt = 3 := rfl
              have i9 : (9 : Int32).toInt = 9 := rfl
              have i30 : (30 : Int32).toInt = 30 := rfl
              have i44 : (44 : Int32).toInt = 44 := rfl
              have i59 : (59 : Int32).toInt = 59 := rfl
              have i109 : (109 : Int32).toInt = 109 := rfl
              have i116 : (116 : Int32).toInt = 116 := rfl
              have e394 : dkTw (I0 345) (I0 340 6) = (2, dkTe (I0 345) (I0 340 6) (0)) := dkTw_l ((dkTh_p (dkK_l (T := (I0 345)) (n := (I0 340 6)) (a := 0) (c := 116) q318 (by omega))).trans (dkTh_q (dkK_2 (T := (I0 345)) (n := (I0 340 6)) (a := dkTe (I0 345) (I0 340 6) (0)) (lo := 3) (hi := 9) q379 (by omega)) (by decide))) (by decide)
              exact C89 I393 _ _ ls x2_1 hW hS hF hO hP (dkN_sub d285 rfl) (show dkN [(1, 2)] (I393 340 7) from dkN_sub (by rw [eI393, dkU_n (by decide)]; exact (by rw [hF392 340 7 rfl]; exact (by rw [eI391, dkU_n (by decide)]; exact f359_340_7))) rfl) (show dkN [(0, 90)] (I393 340 8) from dkN_sub (by rw [eI393, dkU_n (by decide)]; exact (by rw [hF392 340 8 rfl]; exact (by rw [eI391, dkU_n (by decide)]; exact f359_340_8))) rfl) (show dkN [(0, 0), (3, 9)] (I393 347 0) from dkN_sub (by rw [eI393, dkU_sn (by decide)]; exact (by rw [hF392 347 0 rfl]; exact (by rw [eI391, dkU_ss]; exact dv359))) rfl) (show dkN [(0, 0)] (I393 347 1) from dkN_sub (by rw [eI393, dkU_ss]; exact dv392) rfl) (show dkN [(0, 0)] (I393 347 4) from dkN_sub (by rw [eI393, dkU_sn (by decide)]; exact (by rw [hF392 347 4 rfl]; exact (by rw [eI391, dkU_sn (by decide)]; exact (by rw [hF359 347 4 rfl]; exact (by rw [hF346 347 4 rfl]; exact (by rw [hF288 347 4 rfl]; exact (by rw [eI287, dkU_n (by decide)]; exact (by rw [eI286, dkU_n (by decide)]; exact (dkN_lit (0) (by rw [hz4]; rfl)))))))))) rfl) (show dkN [(0, 0)] (I393 347 5) from dkN_sub (by rw [eI393, dkU_sn (by decide)]; exact (by rw [hF392 347 5 rfl]; exact (by rw [eI391, dkU_sn (by decide)]; exact (by rw [hF359 347 5 rfl]; exact (by rw [hF346 347 5 rfl]; exact (by rw [hF288 347 5 rfl]; exact (by rw [eI287, dkU_n (by decide)]; exact (by rw [eI286, dkU_n (by decide)]; exact (dkN_lit (0) (by rw [hz5]; rfl)))))))))) rfl) ((by rw [eI393, dkU_n (by decide)] : I393 345 = _).trans ((funext fun j => hF392 345 j dkNin_nil).trans ((by rw [eI391, dkU_n (by decide)] : I391 345 = _).trans ((funext fun j => hF359 345 j (dkNin_k rfl dkNin_nil)).trans ((funext fun j => hF346 345 j (dkNin_k rfl dkNin_nil)).trans ((funext fun j => hF288 345 j (dkNin_k rfl dkNin_nil)).trans ((by rw [eI287, dkU_n (by decide)] : I287 345 = _).trans ((by rw [eI286, dkU_n (by decide)] : I286 345 = _).trans z2_0)))))))) ((by rw [eI393, dkU_n (by decide)] : I393 346 = _).trans ((funext fun j => hF392 346 j dkNin_nil).trans ((by rw [eI391, dkU_n (by decide)] : I391 346 = _).trans ((funext fun j => hF359 346 j (dkNin_k rfl dkNin_nil)).trans ((funext fun j => hF346 346 j (dkNin_k rfl dkNin_nil)).trans ((funext fun j => hF288 346 j (dkNin_k rfl dkNin_nil)).trans ((by rw [eI287, dkU_n (by decide)] : I287 346 = _).trans ((by rw [eI286, dkU_n (by decide)] : I286 346 = _).trans z2_1)))))))) ((by rw [eI393, dkU_n (by decide)] : I393 340 17 = _).trans ((hF392 340 17 rfl).trans ((by rw [eI391, dkU_n (by decide)] : I391 340 17 = _).trans ((hF359 340 17 rfl).trans ((hF346 340 17 rfl).trans ((hF288 340 17 rfl).trans ((by rw [eI287, dkU_sn (by decide)] : I287 340 17 = _).trans ((by rw [eI286, dkU_sn (by decide)] : I286 340 17 = _).trans zp2_0)))))))) ((by rw [eI393, dkU_n (by decide)] : I393 340 6 = _).trans ((hF392 340 6 rfl).trans ((by rw [eI391, dkU_n (by decide)] : I391 340 6 = _).trans ((hF359 340 6 rfl).trans ((hF346 340 6 rfl).trans ((hF288 340 6 rfl).trans ((by rw [eI287, dkU_sn (by decide)] : I287 340 6 = _).trans ((by rw [eI286, dkU_sn (by decide)] : I286 340 6 = _).trans zp2_1)))))))) ((by rw [eI393, dkU_n (by decide)] : I393 346 0 = _).trans ((hF392 346 0 rfl).trans ((by rw [eI391, dkU_n (by decide)] : I391 346 0 = _).trans ((hF359 346 0 rfl).trans ((hF346 346 0 rfl).trans ((hF288 346 0 rfl).trans ((by rw [eI287, dkU_n (by decide)] : I287 346 0 = _).trans ((by rw [eI286, dkU_n (by decide)] : I286 346 0 = _).trans (by rw [z2_1]))))))))) ((by rw [eI393, dkU_n (by decide)] : I393 346 4 = _).trans ((hF392 346 4 rfl).trans ((by rw [eI391, dkU_n (by decide)] : I391 346 4 = _).trans ((hF359 346 4 rfl).trans ((hF346 346 4 rfl).trans ((hF288 346 4 rfl).trans ((by rw [eI287, dkU_n (by decide)] : I287 346 4 = _).trans ((by rw [eI286, dkU_n (by decide)] : I286 346 4 = _).trans (by rw [z2_1]))))))))) ((by rw [eI393, dkU_n (by decide)] : I393 346 5 = _).trans ((hF392 346 5 rfl).trans ((by rw [eI391, dkU_n (by decide)] : I391 346 5 = _).trans ((hF359 346 5 rfl).trans ((hF346 346 5 rfl).trans ((hF288 346 5 rfl).trans ((by rw [eI287, dkU_n (by decide)] : I287 346 5 = _).trans ((by rw [eI286, dkU_n (by decide)] : I286 346 5 = _).trans (by rw [z2_1]))))))))) ⟨(dkE_k e394 (by decide)), (((show I393 340 7 = 2 from ((by rw [eI393, dkU_n (by decide)] : I393 340 7 = _).trans ((hF392 340 7 rfl).trans ((by rw [eI391, dkU_n (by decide)] : I391 340 7 = _).trans y383))))).trans (dkP_1 e394).symm), (((show I393 340 8 = dkTe (I0 345) (I0 340 6) (0) from ((by rw [eI393, dkU_n (by decide)] : I393 340 8 = _).trans ((hF392 340 8 rfl).trans ((by rw [eI391, dkU_n (by decide)] : I391 340 8 = _).trans y385))))).trans (dkP_2 e394).symm)⟩ (lv_sub hl [0, 1] rfl)
            rcases hc359 with ⟨dv359, f359_340_11, f359_340_8, x359_0, x359_1, x359_2, x359_3, xr359, xh359_0, xh359_1, xh359_2, xh359_3, xh359_4, xh359_5, -⟩ | hc359
            ·
              have w395 : I346 340 8 = (-1) := y350
              have w396 : I346 340 11 = dkTk (I0 345) (I0 340 6) (dkTe (I0 345) (I0 340 6) (0)) := y356
              have q397 : (dkTk (I0 345) (I0 340 6) (dkTe (I0 345) (I0 340 6) (0))).toInt = (2 : Int) := by have h := x359_1; rw [w396] at h; exact h
              have w398 : I346 340 12 = dkTv (I0 345) (I0 340 6) (dkTe (I0 345) (I0 340 6) (0)) := y357
              have q399 : (3 : Int) + 0 ≤ (dkTv (I0 345) (I0 340 6) (dkTe (I0 345) (I0 340 6) (0))).toInt := by have h := x359_2; rw [w398] at h; exact h
              have q400 : (dkTv (I0 345) (I0 340 6) (dkTe (I0 345) (I0 340 6) (0))).toInt + 0 ≤ (9 : Int) := by have h := x359_3; rw [w398] at h; exact h
              have w401 : I346 340 7 = I0 340 7 := y349
              have y402 : I359 340 7 = I0 340 7 := by have h := xh359_0; rw [w401] at h; exact h
              have y403 : I359 340 8 = (-1) := by have h := xh359_1; rw [w395] at h; exact h
              have w404 : I346 345 = I0 345 := ((funext fun j => hF346 345 j (dkNin_k rfl dkNin_nil)).trans ((funext fun j => hF288 345 j (dkNin_k rfl dkNin_nil)).trans ((by rw [eI287, dkU_n (by decide)] : I287 345 = _).trans ((by rw [eI286, dkU_n (by decide)] : I286 345 = _).trans z2_0))))
              have w405 : I346 340 6 = I0 340 6 := ((hF346 340 6 rfl).trans ((hF288 340 6 rfl).trans ((by rw [eI287, dkU_sn (by decide)] : I287 340 6 = _).trans ((by rw [eI286, dkU_sn (by decide)] : I286 340 6 = _).trans zp2_1))))
              have w406 : I346 340 9 = dkTe (I0 345) (I0 340 6) (dkTe (I0 345) (I0 340 6) (0)) := y354
              have y407 : I359 340 9 = dkTe (I0 345) (I0 340 6) (dkTe (I0 345) (I0 340 6) (dkTe (I0 345) (I0 340 6) (0))) := by have h := xh359_2; rw [w404, w405, w406] at h; exact h
              have y408 : I359 340 10 = dkTe (I0 345) (I0 340 6) (dkTe (I0 345) (I0 340 6) (0)) := by have h := xh359_3; rw [w406] at h; exact h
              have y409 : I359 340 11 = dkTk (I0 345) (I0 340 6) (dkTe (I0 345) (I0 340 6) (dkTe (I0 345) (I0 340 6) (0))) := by have h := xh359_4; rw [w404, w405, w406] at h; exact h
              have y410 : I359 340 12 = dkTv (I0 345) (I0 340 6) (dkTe (I0 345) (I0 340 6) (dkTe (I0 345) (I0 340 6) (0))) := by have h := xh359_5; rw [w404, w405, w406] at h; exact h
              have xv359 : v359 = dkTv (I0 345) (I0 340 6) (dkTe (I0 345) (I0 340 6) (0)) := by have h := xr359; rw [w398] at h; exact h
              refine dk_ist (k := 347) hx hb hK hW (fun _ => rfl) (by decide) hS (dkN_in (n := 54) (dkN_lit (x := 0) (0) rfl) rfl) dX6_town_75 (fun I411 H411 L411 eI411 hW hS => ?_)
              have eI411 : I411 = dkU I359 347 0 v359 := eI411
              have hO := dkO_set hO eI411 (dkN_sub dv359 rfl)
              have hF := dkF_set hF eI411 rfl
              have hP := dkPP_set hP eI411 rfl
              refine lv_aload_n hx hb dX6_town_76 rfl (lv_at hl 0 rfl) ?_
              refine dk_get (k := 340) hx hb hts iX6_town_6 hown hK (dk_at340 hW) rfl 14 (by decide) (hts (.fieldLink RX6 28 "DogKingsModel" "draft" "[I") (List.mem_of_getElem? (i := 1) rfl)) rfl dX6_town_77 ?_
              refine lv_iconst (v := 1) hx hb dX6_town_80 (by decide) ?_
              refine lv_aload_n hx hb dX6_town_81 rfl (lv_at hl 0 rfl) ?_
              refine lv_iconst (v := 1) hx hb dX6_town_82 (by decide) ?_
              refine lv_bipush (v := 30) hx hb dX6_town_83 (by decide) ?_
              refine dk_Vi (As := [.int 1, .int 30]) (rest := [.int 1, .ref (z + 347)]) ⟨hx, hb, hml, hown, hts⟩ (fx_X6_follows_7 l g z I411 1 30 (dkN_lit (x := 1) (1) rfl) (dkN_lit (x := 30) (30) rfl) (show dkN [(-1, -1)] (I411 340 8) from dkN_sub (by rw [eI411, dkU_n (by decide)]; exact f359_340_8) rfl) hO) (cwV 2 hts gX6_town_X6_follows rfl rfl rfl (by decide +kernel) ⟨Nat.le_of_ble_eq_true rfl, Nat.le_of_ble_eq_true rfl⟩) (dk_at340 hW) rfl hK hT hW hS rfl hl.1 rfl (Nat.le_of_ble_eq_true rfl) dX6_town_85 ⟨Nat.zero_le _, Nat.zero_le _⟩ (fun v412 I412 H412 L412 hp412 hW hS => ?_)
              obtain ⟨hF412, hO, hc412⟩ := hp412
              have hF := dkF_call hF hF412 rfl
              have hP := dkPP_F hP hF412 rfl
              rcases hc412 with ⟨dv412, f412_340_11, f412_340_7, f412_340_8, x412_0, x412_1, xr412, xh412_0, xh412_1, xh412_2, xh412_3, xh412_4, xh412_5, -⟩ | hc412
              ·
                have w413 : I411 340 11 = dkTk (I0 345) (I0 340 6) (dkTe (I0 345) (I0 340 6) (dkTe (I0 345) (I0 340 6) (0))) := ((by rw [eI411, dkU_n (by decide)] : I411 340 11 = _).trans y409)
                have q414 : (dkTk (I0 345) (I0 340 6) (dkTe (I0 345) (I0 340 6) (dkTe (I0 345) (I0 340 6) (0)))).toInt ≠ (3 : Int) := by have h := x412_0; rw [w413] at h; exact h
                have w415 : I411 340 8 = (-1) := ((by rw [eI411, dkU_n (by decide)] : I411 340 8 = _).trans y403)
                have y416 : I412 340 7 = 1 := by have h := xh412_0; exact h
                have w417 : I411 340 10 = dkTe (I0 345) (I0 340 6) (dkTe (I0 345) (I0 340 6) (0)) := ((by rw [eI411, dkU_n (by decide)] : I411 340 10 = _).trans y408)
                have y418 : I412 340 8 = dkTe (I0 345) (I0 340 6) (dkTe (I0 345) (I0 340 6) (0)) := by have h := xh412_1; rw [w417] at h; exact h
                have w419 : I411 340 9 = dkTe (I0 345) (I0 340 6) (dkTe (I0 345) (I0 340 6) (dkTe (I0 345) (I0 340 6) (0))) := ((by rw [eI411, dkU_n (by decide)] : I411 340 9 = _).trans y407)
                have y420 : I412 340 9 = dkTe (I0 345) (I0 340 6) (dkTe (I0 345) (I0 340 6) (dkTe (I0 345) (I0 340 6) (0))) := by have h := xh412_2; rw [w419] at h; exact h
                have y421 : I412 340 10 = dkTe (I0 345) (I0 340 6) (dkTe (I0 345) (I0 340 6) (0)) := by have h := xh412_3; rw [w417] at h; exact h
                have y422 : I412 340 11 = dkTk (I0 345) (I0 340 6) (dkTe (I0 345) (I0 340 6) (dkTe (I0 345) (I0 340 6) (0))) := by have h := xh412_4; rw [w413] at h; exact h
                have w423 : I411 340 12 = dkTv (I0 345) (I0 340 6) (dkTe (I0 345) (I0 340 6) (dkTe (I0 345) (I0 340 6) (0))) := ((by rw [eI411, dkU_n (by decide)] : I411 340 12 = _).trans y410)
                have y424 : I412 340 12 = dkTv (I0 345) (I0 340 6) (dkTe (I0 345) (I0 340 6) (dkTe (I0 345) (I0 340 6) (0))) := by have h := xh412_5; rw [w423] at h; exact h
                have xv412 : v412 = 0 := by have h := xr412; exact h
                refine dk_ist (k := 347) hx hb hK hW (fun _ => rfl) (by decide) hS (dkN_in (n := 54) (dkN_lit (x := 1) (1) rfl) rfl) dX6_town_88 (fun I425 H425 L425 eI425 hW hS => ?_)
                have eI425 : I425 = dkU I412 347 1 v412 := eI425
                have hO := dkO_set hO eI425 (dkN_sub dv412 rfl)
                have hF := dkF_set hF eI425 rfl
                have hP := dkPP_set hP eI425 rfl
                have i0 : (0 : Int32).toInt = 0 := rfl
                have i1 : (1 : Int32).toInt = 1 := rfl
                have i2 : (2 : Int32).toInt = 2 := rfl
                have i3 : (3 : Int32).toInt = 3 := rfl
                have i9 : (9 : Int32).toInt = 9 := rfl
                have i30 : (30 : Int32).toInt = 30 := rfl
                have i44 : (44 : Int32).toInt = 44 := rfl
                have i59 : (59 : Int32).toInt = 59 := rfl
                have i109 : (109 : Int32).toInt = 109 := rfl
                have i116 : (116 : Int32).toInt = 116 := rfl
                have e426 : dkTw (I0 345) (I0 340 6) = (1, dkTe (I0 345) (I0 340 6) (dkTe (I0 345) (I0 340 6) (0))) := dkTw_l ((dkTh_p (dkK_l (T := (I0 345)) (n := (I0 340 6)) (a := 0) (c := 116) q318 (by omega))).trans ((dkTh_p (dkK_0 (T := (I0 345)) (n := (I0 340 6)) (a := dkTe (I0 345) (I0 340 6) (0)) (lo := 3) (hi := 9) q397 (by omega) (by omega))).trans (dkTh_q (dkK_cn (T := (I0 345)) (n := (I0 340 6)) (a := dkTe (I0 345) (I0 340 6) (dkTe (I0 345) (I0 340 6) (0))) q414) (by decide)))) (by decide)
                exact C89 I425 _ _ ls x2_1 hW hS hF hO hP (dkN_sub d285 rfl) (show dkN [(1, 2)] (I425 340 7) from dkN_sub (by rw [eI425, dkU_n (by decide)]; exact f412_340_7) rfl) (show dkN [(0, 90)] (I425 340 8) from dkN_sub (by rw [eI425, dkU_n (by decide)]; exact f412_340_8) rfl) (show dkN [(0, 0), (3, 9)] (I425 347 0) from dkN_sub (by rw [eI425, dkU_sn (by decide)]; exact (by rw [hF412 347 0 rfl]; exact (by rw [eI411, dkU_ss]; exact dv359))) rfl) (show dkN [(0, 0)] (I425 347 1) from dkN_sub (by rw [eI425, dkU_ss]; exact dv412) rfl) (show dkN [(0, 0)] (I425 347 4) from dkN_sub (by rw [eI425, dkU_sn (by decide)]; exact (by rw [hF412 347 4 rfl]; exact (by rw [eI411, dkU_sn (by decide)]; exact (by rw [hF359 347 4 rfl]; exact (by rw [hF346 347 4 rfl]; exact (by rw [hF288 347 4 rfl]; exact (by rw [eI287, dkU_n (by decide)]; exact (by rw [eI286, dkU_n (by decide)]; exact (dkN_lit (0) (by rw [hz4]; rfl)))))))))) rfl) (show dkN [(0, 0)] (I425 347 5) from dkN_sub (by rw [eI425, dkU_sn (by decide)]; exact (by rw [hF412 347 5 rfl]; exact (by rw [eI411, dkU_sn (by decide)]; exact (by rw [hF359 347 5 rfl]; exact (by rw [hF346 347 5 rfl]; exact (by rw [hF288 347 5 rfl]; exact (by rw [eI287, dkU_n (by decide)]; exact (by rw [eI286, dkU_n (by decide)]; exact (dkN_lit (0) (by rw [hz5]; rfl)))))))))) rfl) ((by rw [eI425, dkU_n (by decide)] : I425 345 = _).trans ((funext fun j => hF412 345 j (dkNin_k rfl dkNin_nil)).trans ((by rw [eI411, dkU_n (by decide)] : I411 345 = _).trans ((funext fun j => hF359 345 j (dkNin_k rfl dkNin_nil)).trans ((funext fun j => hF346 345 j (dkNin_k rfl dkNin_nil)).trans ((funext fun j => hF288 345 j (dkNin_k rfl dkNin_nil)).trans ((by rw [eI287, dkU_n (by decide)] : I287 345 = _).trans ((by rw [eI286, dkU_n (by decide)] : I286 345 = _).trans z2_0)))))))) ((by rw [eI425, dkU_n (by decide)] : I425 346 = _).trans ((funext fun j => hF412 346 j (dkNin_k rfl dkNin_nil)).trans ((by rw [eI411, dkU_n (by decide)] : I411 346 = _).trans ((funext fun j => hF359 346 j (dkNin_k rfl dkNin_nil)).trans ((funext fun j => hF346 346 j (dkNin_k rfl dkNin_nil)).trans ((funext fun j => hF288 346 j (dkNin_k rfl dkNin_nil)).trans ((by rw [eI287, dkU_n (by decide)] : I287 346 = _).trans ((by rw [eI286, dkU_n (by decide)] : I286 346 = _).trans z2_1)))))))) ((by rw [eI425, dkU_n (by decide)] : I425 340 17 = _).trans ((hF412 340 17 rfl).trans ((by rw [eI411, dkU_n (by decide)] : I411 340 17 = _).trans ((hF359 340 17 rfl).trans ((hF346 340 17 rfl).trans ((hF288 340 17 rfl).trans ((by rw [eI287, dkU_sn (by decide)] : I287 340 17 = _).trans ((by rw [eI286, dkU_sn (by decide)] : I286 340 17 = _).trans zp2_0)))))))) ((by rw [eI425, dkU_n (by decide)] : I425 340 6 = _).trans ((hF412 340 6 rfl).trans ((by rw [eI411, dkU_n (by decide)] : I411 340 6 = _).trans ((hF359 340 6 rfl).trans ((hF346 340 6 rfl).trans ((hF288 340 6 rfl).trans ((by rw [eI287, dkU_sn (by decide)] : I287 340 6 = _).trans ((by rw [eI286, dkU_sn (by decide)] : I286 340 6 = _).trans zp2_1)))))))) ((by rw [eI425, dkU_n (by decide)] : I425 346 0 = _).trans ((hF412 346 0 rfl).trans ((by rw [eI411, dkU_n (by decide)] : I411 346 0 = _).trans ((hF359 346 0 rfl).trans ((hF346 346 0 rfl).trans ((hF288 346 0 rfl).trans ((by rw [eI287, dkU_n (by decide)] : I287 346 0 = _).trans ((by rw [eI286, dkU_n (by decide)] : I286 346 0 = _).trans (by rw [z2_1]))))))))) ((by rw [eI425, dkU_n (by decide)] : I425 346 4 = _).trans ((hF412 346 4 rfl).trans ((by rw [eI411, dkU_n (by decide)] : I411 346 4 = _).trans ((hF359 346 4 rfl).trans ((hF346 346 4 rfl).trans ((hF288 346 4 rfl).trans ((by rw [eI287, dkU_n (by decide)] : I287 346 4 = _).trans ((by rw [eI286, dkU_n (by decide)] : I286 346 4 = _).trans (by rw [z2_1]))))))))) ((by rw [eI425, dkU_n (by decide)] : I425 346 5 = _).trans ((hF412 346 5 rfl).trans ((by rw [eI411, dkU_n (by decide)] : I411 346 5 = _).trans ((hF359 346 5 rfl).trans ((hF346 346 5 rfl).trans ((hF288 346 5 rfl).trans ((by rw [eI287, dkU_n (by decide)] : I287 346 5 = _).trans ((by rw [eI286, dkU_n (by decide)] : I286 346 5 = _).trans (by rw [z2_1]))))))))) ⟨(dkE_k e426 (by decide)), (((show I425 340 7 = 1 from ((by rw [eI425, dkU_n (by decide)] : I425 340 7 = _).trans y416))).trans (dkP_1 e426).symm), (((show I425 340 8 = dkTe (I0 345) (I0 340 6) (dkTe (I0 345) (I0 340 6) (0)) from ((by rw [eI425, dkU_n (by decide)] : I425 340 8 = _).trans y418))).trans (dkP_2 e426).symm)⟩ (lv_sub hl [0, 1] rfl)
              rcases hc412 with ⟨dv412, f412_340_11, f412_340_12, f412_340_7, f412_340_8, x412_0, x412_1, x412_2, x412_3, xr412, xh412_0, xh412_1, xh412_2, xh412_3, xh412_4, xh412_5, -⟩ | hc412
              ·
                have w427 : I411 340 11 = dkTk (I0 345) (I0 340 6) (dkTe (I0 345) (I0 340 6) (dkTe (I0 345) (I0 340 6) (0))) := ((by rw [eI411, dkU_n (by decide)] : I411 340 11 = _).trans y409)
                have q428 : (dkTk (I0 345) (I0 340 6) (dkTe (I0 345) (I0 340 6) (dkTe (I0 345) (I0 340 6) (0)))).toInt = (3 : Int) := by have h := x412_0; rw [w427] at h; exact h
                have w429 : I411 340 8 = (-1) := ((by rw [eI411, dkU_n (by decide)] : I411 340 8 = _).trans y403)
                have w430 : I411 345 = I0 345 := ((by rw [eI411, dkU_n (by decide)] : I411 345 = _).trans ((funext fun j => hF359 345 j (dkNin_k rfl dkNin_nil)).trans ((funext fun j => hF346 345 j (dkNin_k rfl dkNin_nil)).trans ((funext fun j => hF288 345 j (dkNin_k rfl dkNin_nil)).trans ((by rw [eI287, dkU_n (by decide)] : I287 345 = _).trans ((by rw [eI286, dkU_n (by decide)] : I286 345 = _).trans z2_0))))))
                have w431 : I411 340 6 = I0 340 6 := ((by rw [eI411, dkU_n (by decide)] : I411 340 6 = _).trans ((hF359 340 6 rfl).trans ((hF346 340 6 rfl).trans ((hF288 340 6 rfl).trans ((by rw [eI287, dkU_sn (by decide)] : I287 340 6 = _).trans ((by rw [eI286, dkU_sn (by decide)] : I286 340 6 = _).trans zp2_1))))))
                have w432 : I411 340 9 = dkTe (I0 345) (I0 340 6) (dkTe (I0 345) (I0 340 6) (dkTe (I0 345) (I0 340 6) (0))) := ((by rw [eI411, dkU_n (by decide)] : I411 340 9 = _).trans y407)
                have q433 : (dkTk (I0 345) (I0 340 6) (dkTe (I0 345) (I0 340 6) (dkTe (I0 345) (I0 340 6) (dkTe (I0 345) (I0 340 6) (0))))).toInt = (2 : Int) := by have h := x412_2; rw [w430, w431, w432] at h; exact h
                have q434 : (dkTv (I0 345) (I0 340 6) (dkTe (I0 345) (I0 340 6) (dkTe (I0 345) (I0 340 6) (dkTe (I0 345) (I0 340 6) (0))))).toInt + 1 ≤ (1 : Int) := by have h := x412_3; rw [w430, w431, w432] at h; exact h
                have y435 : I412 340 7 = 2 := by have h := xh412_0; exact h
                have y436 : I412 340 8 = dkTe (I0 345) (I0 340 6) (dkTe (I0 345) (I0 340 6) (dkTe (I0 345) (I0 340 6) (0))) := by have h := xh412_1; rw [w432] at h; exact h
                have y437 : I412 340 9 = dkTe (I0 345) (I0 340 6) (dkTe (I0 345) (I0 340 6) (dkTe (I0 345) (I0 340 6) (dkTe (I0 345) (I0 340 6) (0)))) := by have h := xh412_2; rw [w430, w431, w432] at h; exact h
                have y438 : I412 340 10 = dkTe (I0 345) (I0 340 6) (dkTe (I0 345) (I0 340 6) (dkTe (I0 345) (I0 340 6) (0))) := by have h := xh412_3; rw [w432] at h; exact h
                have y439 : I412 340 11 = dkTk (I0 345) (I0 340 6) (dkTe (I0 345) (I0 340 6) (dkTe (I0 345) (I0 340 6) (dkTe (I0 345) (I0 340 6) (0)))) := by have h := xh412_4; rw [w430, w431, w432] at h; exact h
                have y440 : I412 340 12 = dkTv (I0 345) (I0 340 6) (dkTe (I0 345) (I0 340 6) (dkTe (I0 345) (I0 340 6) (dkTe (I0 345) (I0 340 6) (0)))) := by have h := xh412_5; rw [w430, w431, w432] at h; exact h
                have xv412 : v412 = 0 := by have h := xr412; exact h
                refine dk_ist (k := 347) hx hb hK hW (fun _ => rfl) (by decide) hS (dkN_in (n := 54) (dkN_lit (x := 1) (1) rfl) rfl) dX6_town_88 (fun I441 H441 L441 eI441 hW hS => ?_)
                have eI441 : I441 = dkU I412 347 1 v412 := eI441
                have hO := dkO_set hO eI441 (dkN_sub dv412 rfl)
                have hF := dkF_set hF eI441 rfl
                have hP := dkPP_set hP eI441 rfl
                have i0 : (0 : Int32).toInt = 0 := rfl
                have i1 : (1 : Int32).toInt = 1 := rfl
                have i2 : (2 : Int32).toInt = 2 := rfl
                have i3 : (3 : Int32).toInt = 3 := rfl
                have i9 : (9 : Int32).toInt = 9 := rfl
                have i30 : (30 : Int32).toInt = 30 := rfl
                have i44 : (44 : Int32).toInt = 44 := rfl
                have i59 : (59 : Int32).toInt = 59 := rfl
                have i109 : (109 : Int32).toInt = 109 := rfl
                have i116 : (116 : Int32).toInt = 116 := rfl
                have e442 : dkTw (I0 345) (I0 340 6) = (2, dkTe (I0 345) (I0 340 6) (dkTe (I0 345) (I0 340 6) (dkTe (I0 345) (I0 340 6) (0)))) := dkTw_l ((dkTh_p (dkK_l (T := (I0 345)) (n := (I0 340 6)) (a := 0) (c := 116) q318 (by omega))).trans ((dkTh_p (dkK_0 (T := (I0 345)) (n := (I0 340 6)) (a := dkTe (I0 345) (I0 340 6) (0)) (lo := 3) (hi := 9) q397 (by omega) (by omega))).trans ((dkTh_p (dkK_c (T := (I0 345)) (n := (I0 340 6)) (a := dkTe (I0 345) (I0 340 6) (dkTe (I0 345) (I0 340 6) (0))) q428)).trans (dkTh_q (dkK_2 (T := (I0 345)) (n := (I0 340 6)) (a := dkTe (I0 345) (I0 340 6) (dkTe (I0 345) (I0 340 6) (dkTe (I0 345) (I0 340 6) (0)))) (lo := 1) (hi := 30) q433 (by omega)) (by decide))))) (by decide)
                exact C89 I441 _ _ ls x2_1 hW hS hF hO hP (dkN_sub d285 rfl) (show dkN [(1, 2)] (I441 340 7) from dkN_sub (by rw [eI441, dkU_n (by decide)]; exact f412_340_7) rfl) (show dkN [(0, 90)] (I441 340 8) from dkN_sub (by rw [eI441, dkU_n (by decide)]; exact f412_340_8) rfl) (show dkN [(0, 0), (3, 9)] (I441 347 0) from dkN_sub (by rw [eI441, dkU_sn (by decide)]; exact (by rw [hF412 347 0 rfl]; exact (by rw [eI411, dkU_ss]; exact dv359))) rfl) (show dkN [(0, 0)] (I441 347 1) from dkN_sub (by rw [eI441, dkU_ss]; exact dv412) rfl) (show dkN [(0, 0)] (I441 347 4) from dkN_sub (by rw [eI441, dkU_sn (by decide)]; exact (by rw [hF412 347 4 rfl]; exact (by rw [eI411, dkU_sn (by decide)]; exact (by rw [hF359 347 4 rfl]; exact (by rw [hF346 347 4 rfl]; exact (by rw [hF288 347 4 rfl]; exact (by rw [eI287, dkU_n (by decide)]; exact (by rw [eI286, dkU_n (by decide)]; exact (dkN_lit (0) (by rw [hz4]; rfl)))))))))) rfl) (show dkN [(0, 0)] (I441 347 5) from dkN_sub (by rw [eI441, dkU_sn (by decide)]; exact (by rw [hF412 347 5 rfl]; exact (by rw [eI411, dkU_sn (by decide)]; exact (by rw [hF359 347 5 rfl]; exact (by rw [hF346 347 5 rfl]; exact (by rw [hF288 347 5 rfl]; exact (by rw [eI287, dkU_n (by decide)]; exact (by rw [eI286, dkU_n (by decide)]; exact (dkN_lit (0) (by rw [hz5]; rfl)))))))))) rfl) ((by rw [eI441, dkU_n (by decide)] : I441 345 = _).trans ((funext fun j => hF412 345 j (dkNin_k rfl dkNin_nil)).trans ((by rw [eI411, dkU_n (by decide)] : I411 345 = _).trans ((funext fun j => hF359 345 j (dkNin_k rfl dkNin_nil)).trans ((funext fun j => hF346 345 j (dkNin_k rfl dkNin_nil)).trans ((funext fun j => hF288 345 j (dkNin_k rfl dkNin_nil)).trans ((by rw [eI287, dkU_n (by decide)] : I287 345 = _).trans ((by rw [eI286, dkU_n (by decide)] : I286 345 = _).trans z2_0)))))))) ((by rw [eI441, dkU_n (by decide)] : I441 346 = _).trans ((funext fun j => hF412 346 j (dkNin_k rfl dkNin_nil)).trans ((by rw [eI411, dkU_n (by decide)] : I411 346 = _).trans ((funext fun j => hF359 346 j (dkNin_k rfl dkNin_nil)).trans ((funext fun j => hF346 346 j (dkNin_k rfl dkNin_nil)).trans ((funext fun j => hF288 346 j (dkNin_k rfl dkNin_nil)).trans ((by rw [eI287, dkU_n (by decide)] : I287 346 = _).trans ((by rw [eI286, dkU_n (by decide)] : I286 346 = _).trans z2_1)))))))) ((by rw [eI441, dkU_n (by decide)] : I441 340 17 = _).trans ((hF412 340 17 rfl).trans ((by rw [eI411, dkU_n (by decide)] : I411 340 17 = _).trans ((hF359 340 17 rfl).trans ((hF346 340 17 rfl).trans ((hF288 340 17 rfl).trans ((by rw [eI287, dkU_sn (by decide)] : I287 340 17 = _).trans ((by rw [eI286, dkU_sn (by decide)] : I286 340 17 = _).trans zp2_0)))))))) ((by rw [eI441, dkU_n (by decide)] : I441 340 6 = _).trans ((hF412 340 6 rfl).trans ((by rw [eI411, dkU_n (by decide)] : I411 340 6 = _).trans ((hF359 340 6 rfl).trans ((hF346 340 6 rfl).trans ((hF288 340 6 rfl).trans ((by rw [eI287, dkU_sn (by decide)] : I287 340 6 = _).trans ((by rw [eI286, dkU_sn (by decide)] : I286 340 6 = _).trans zp2_1)))))))) ((by rw [eI441, dkU_n (by decide)] : I441 346 0 = _).trans ((hF412 346 0 rfl).trans ((by rw [eI411, dkU_n (by decide)] : I411 346 0 = _).trans ((hF359 346 0 rfl).trans ((hF346 346 0 rfl).trans ((hF288 346 0 rfl).trans ((by rw [eI287, dkU_n (by decide)] : I287 346 0 = _).trans ((by rw [eI286, dkU_n (by decide)] : I286 346 0 = _).trans (by rw [z2_1]))))))))) ((by rw [eI441, dkU_n (by decide)] : I441 346 4 = _).trans ((hF412 346 4 rfl).trans ((by rw [eI411, dkU_n (by decide)] : I411 346 4 = _).trans ((hF359 346 4 rfl).trans ((hF346 346 4 rfl).trans ((hF288 346 4 rfl).trans ((by rw [eI287, dkU_n (by decide)] : I287 346 4 = _).trans ((by rw [eI286, dkU_n (by decide)] : I286 346 4 = _).trans (by rw [z2_1]))))))))) ((by rw [eI441, dkU_n (by decide)] : I441 346 5 = _).trans ((hF412 346 5 rfl).trans ((by rw [eI411, dkU_n (by decide)] : I411 346 5 = _).trans ((hF359 346 5 rfl).trans ((hF346 346 5 rfl).trans ((hF288 346 5 rfl).trans ((by rw [eI287, dkU_n (by decide)] : I287 346 5 = _).trans ((by rw [eI286, dkU_n (by decide)] : I286 346 5 = _).trans (by rw [z2_1]))))))))) ⟨(dkE_k e442 (by decide)), (((show I441 340 7 = 2 from ((by rw [eI441, dkU_n (by decide)] : I441 340 7 = _).trans y435))).trans (dkP_1 e442).symm), (((show I441 340 8 = dkTe (I0 345) (I0 340 6) (dkTe (I0 345) (I0 340 6) (dkTe (I0 345) (I0 340 6) (0))) from ((by rw [eI441, dkU_n (by decide)] : I441 340 8 = _).trans y436))).trans (dkP_2 e442).symm)⟩ (lv_sub hl [0, 1] rfl)
              rcases hc412 with ⟨dv412, f412_340_11, f412_340_12, f412_340_7, f412_340_8, x412_0, x412_1, x412_2, x412_3, x412_4, xr412, xh412_0, xh412_1, xh412_2, xh412_3, xh412_4, xh412_5, -⟩ | hc412
              ·
                have w443 : I411 340 11 = dkTk (I0 345) (I0 340 6) (dkTe (I0 345) (I0 340 6) (dkTe (I0 345) (I0 340 6) (0))) := ((by rw [eI411, dkU_n (by decide)] : I411 340 11 = _).trans y409)
                have q444 : (dkTk (I0 345) (I0 340 6) (dkTe (I0 345) (I0 340 6) (dkTe (I0 345) (I0 340 6) (0)))).toInt = (3 : Int) := by have h := x412_0; rw [w443] at h; exact h
                have w445 : I411 340 8 = (-1) := ((by rw [eI411, dkU_n (by decide)] : I411 340 8 = _).trans y403)
                have w446 : I411 345 = I0 345 := ((by rw [eI411, dkU_n (by decide)] : I411 345 = _).trans ((funext fun j => hF359 345 j (dkNin_k rfl dkNin_nil)).trans ((funext fun j => hF346 345 j (dkNin_k rfl dkNin_nil)).trans ((funext fun j => hF288 345 j (dkNin_k rfl dkNin_nil)).trans ((by rw [eI287, dkU_n (by decide)] : I287 345 = _).trans ((by rw [eI286, dkU_n (by decide)] : I286 345 = _).trans z2_0))))))
                have w447 : I411 340 6 = I0 340 6 := ((by rw [eI411, dkU_n (by decide)] : I411 340 6 = _).trans ((hF359 340 6 rfl).trans ((hF346 340 6 rfl).trans ((hF288 340 6 rfl).trans ((by rw [eI287, dkU_sn (by decide)] : I287 340 6 = _).trans ((by rw [eI286, dkU_sn (by decide)] : I286 340 6 = _).trans zp2_1))))))
                have w448 : I411 340 9 = dkTe (I0 345) (I0 340 6) (dkTe (I0 345) (I0 340 6) (dkTe (I0 345) (I0 340 6) (0))) := ((by rw [eI411, dkU_n (by decide)] : I411 340 9 = _).trans y407)
                have q449 : (dkTk (I0 345) (I0 340 6) (dkTe (I0 345) (I0 340 6) (dkTe (I0 345) (I0 340 6) (dkTe (I0 345) (I0 340 6) (0))))).toInt = (2 : Int) := by have h := x412_2; rw [w446, w447, w448] at h; exact h
                have q450 : (1 : Int) + 0 ≤ (dkTv (I0 345) (I0 340 6) (dkTe (I0 345) (I0 340 6) (dkTe (I0 345) (I0 340 6) (dkTe (I0 345) (I0 340 6) (0))))).toInt := by have h := x412_3; rw [w446, w447, w448] at h; exact h
                have q451 : (30 : Int) + 1 ≤ (dkTv (I0 345) (I0 340 6) (dkTe (I0 345) (I0 340 6) (dkTe (I0 345) (I0 340 6) (dkTe (I0 345) (I0 340 6) (0))))).toInt := by have h := x412_4; rw [w446, w447, w448] at h; exact h
                have y452 : I412 340 7 = 2 := by have h := xh412_0; exact h
                have y453 : I412 340 8 = dkTe (I0 345) (I0 340 6) (dkTe (I0 345) (I0 340 6) (dkTe (I0 345) (I0 340 6) (0))) := by have h := xh412_1; rw [w448] at h; exact h
                have y454 : I412 340 9 = dkTe (I0 345) (I0 340 6) (dkTe (I0 345) (I0 340 6) (dkTe (I0 345) (I0 340 6) (dkTe (I0 345) (I0 340 6) (0)))) := by have h := xh412_2; rw [w446, w447, w448] at h; exact h
                have y455 : I412 340 10 = dkTe (I0 345) (I0 340 6) (dkTe (I0 345) (I0 340 6) (dkTe (I0 345) (I0 340 6) (0))) := by have h := xh412_3; rw [w448] at h; exact h
                have y456 : I412 340 11 = dkTk (I0 345) (I0 340 6) (dkTe (I0 345) (I0 340 6) (dkTe (I0 345) (I0 340 6) (dkTe (I0 345) (I0 340 6) (0)))) := by have h := xh412_4; rw [w446, w447, w448] at h; exact h
                have y457 : I412 340 12 = dkTv (I0 345) (I0 340 6) (dkTe (I0 345) (I0 340 6) (dkTe (I0 345) (I0 340 6) (dkTe (I0 345) (I0 340 6) (0)))) := by have h := xh412_5; rw [w446, w447, w448] at h; exact h
                have xv412 : v412 = 0 := by have h := xr412; exact h
                refine dk_ist (k := 347) hx hb hK hW (fun _ => rfl) (by decide) hS (dkN_in (n := 54) (dkN_lit (x := 1) (1) rfl) rfl) dX6_town_88 (fun I458 H458 L458 eI458 hW hS => ?_)
                have eI458 : I458 = dkU I412 347 1 v412 := eI458
                have hO := dkO_set hO eI458 (dkN_sub dv412 rfl)
                have hF := dkF_set hF eI458 rfl
                have hP := dkPP_set hP eI458 rfl
                have i0 : (0 : Int32).toInt = 0 := rfl
                have i1 : (1 : Int32).toInt = 1 := rfl
                have i2 : (2 : Int32).toInt = 2 := rfl
                have i3 : (3 : Int32).toInt = 3 := rfl
                have i9 : (9 : Int32).toInt = 9 := rfl
                have i30 : (30 : Int32).toInt = 30 := rfl
                have i44 : (44 : Int32).toInt = 44 := rfl
                have i59 : (59 : Int32).toInt = 59 := rfl
                have i109 : (109 : Int32).toInt = 109 := rfl
                have i116 : (116 : Int32).toInt = 116 := rfl
                have e459 : dkTw (I0 345) (I0 340 6) = (2, dkTe (I0 345) (I0 340 6) (dkTe (I0 345) (I0 340 6) (dkTe (I0 345) (I0 340 6) (0)))) := dkTw_l ((dkTh_p (dkK_l (T := (I0 345)) (n := (I0 340 6)) (a := 0) (c := 116) q318 (by omega))).trans ((dkTh_p (dkK_0 (T := (I0 345)) (n := (I0 340 6)) (a := dkTe (I0 345) (I0 340 6) (0)) (lo := 3) (hi := 9) q397 (by omega) (by omega))).trans ((dkTh_p (dkK_c (T := (I0 345)) (n := (I0 340 6)) (a := dkTe (I0 345) (I0 340 6) (dkTe (I0 345) (I0 340 6) (0))) q444)).trans (dkTh_q (dkK_2 (T := (I0 345)) (n := (I0 340 6)) (a := dkTe (I0 345) (I0 340 6) (dkTe (I0 345) (I0 340 6) (dkTe (I0 345) (I0 340 6) (0)))) (lo := 1) (hi := 30) q449 (by omega)) (by decide))))) (by decide)
                exact C89 I458 _ _ ls x2_1 hW hS hF hO hP (dkN_sub d285 rfl) (show dkN [(1, 2)] (I458 340 7) from dkN_sub (by rw [eI458, dkU_n (by decide)]; exact f412_340_7) rfl) (show dkN [(0, 90)] (I458 340 8) from dkN_sub (by rw [eI458, dkU_n (by decide)]; exact f412_340_8) rfl) (show dkN [(0, 0), (3, 9)] (I458 347 0) from dkN_sub (by rw [eI458, dkU_sn (by decide)]; exact (by rw [hF412 347 0 rfl]; exact (by rw [eI411, dkU_ss]; exact dv359))) rfl) (show dkN [(0, 0)] (I458 347 1) from dkN_sub (by rw [eI458, dkU_ss]; exact dv412) rfl) (show dkN [(0, 0)] (I458 347 4) from dkN_sub (by rw [eI458, dkU_sn (by decide)]; exact (by rw [hF412 347 4 rfl]; exact (by rw [eI411, dkU_sn (by decide)]; exact (by rw [hF359 347 4 rfl]; exact (by rw [hF346 347 4 rfl]; exact (by rw [hF288 347 4 rfl]; exact (by rw [eI287, dkU_n (by decide)]; exact (by rw [eI286, dkU_n (by decide)]; exact (dkN_lit (0) (by rw [hz4]; rfl)))))))))) rfl) (show dkN [(0, 0)] (I458 347 5) from dkN_sub (by rw [eI458, dkU_sn (by decide)]; exact (by rw [hF412 347 5 rfl]; exact (by rw [eI411, dkU_sn (by decide)]; exact (by rw [hF359 347 5 rfl]; exact (by rw [hF346 347 5 rfl]; exact (by rw [hF288 347 5 rfl]; exact (by rw [eI287, dkU_n (by decide)]; exact (by rw [eI286, dkU_n (by decide)]; exact (dkN_lit (0) (by rw [hz5]; rfl)))))))))) rfl) ((by rw [eI458, dkU_n (by decide)] : I458 345 = _).trans ((funext fun j => hF412 345 j (dkNin_k rfl dkNin_nil)).trans ((by rw [eI411, dkU_n (by decide)] : I411 345 = _).trans ((funext fun j => hF359 345 j (dkNin_k rfl dkNin_nil)).trans ((funext fun j => hF346 345 j (dkNin_k rfl dkNin_nil)).trans ((funext fun j => hF288 345 j (dkNin_k rfl dkNin_nil)).trans ((by rw [eI287, dkU_n (by decide)] : I287 345 = _).trans ((by rw [eI286, dkU_n (by decide)] : I286 345 = _).trans z2_0)))))))) ((by rw [eI458, dkU_n (by decide)] : I458 346 = _).trans ((funext fun j => hF412 346 j (dkNin_k rfl dkNin_nil)).trans ((by rw [eI411, dkU_n (by decide)] : I411 346 = _).trans ((funext fun j => hF359 346 j (dkNin_k rfl dkNin_nil)).trans ((funext fun j => hF346 346 j (dkNin_k rfl dkNin_nil)).trans ((funext fun j => hF288 346 j (dkNin_k rfl dkNin_nil)).trans ((by rw [eI287, dkU_n (by decide)] : I287 346 = _).trans ((by rw [eI286, dkU_n (by decide)] : I286 346 = _).trans z2_1)))))))) ((by rw [eI458, dkU_n (by decide)] : I458 340 17 = _).trans ((hF412 340 17 rfl).trans ((by rw [eI411, dkU_n (by decide)] : I411 340 17 = _).trans ((hF359 340 17 rfl).trans ((hF346 340 17 rfl).trans ((hF288 340 17 rfl).trans ((by rw [eI287, dkU_sn (by decide)] : I287 340 17 = _).trans ((by rw [eI286, dkU_sn (by decide)] : I286 340 17 = _).trans zp2_0)))))))) ((by rw [eI458, dkU_n (by decide)] : I458 340 6 = _).trans ((hF412 340 6 rfl).trans ((by rw [eI411, dkU_n (by decide)] : I411 340 6 = _).trans ((hF359 340 6 rfl).trans ((hF346 340 6 rfl).trans ((hF288 340 6 rfl).trans ((by rw [eI287, dkU_sn (by decide)] : I287 340 6 = _).trans ((by rw [eI286, dkU_sn (by decide)] : I286 340 6 = _).trans zp2_1)))))))) ((by rw [eI458, dkU_n (by decide)] : I458 346 0 = _).trans ((hF412 346 0 rfl).trans ((by rw [eI411, dkU_n (by decide)] : I411 346 0 = _).trans ((hF359 346 0 rfl).trans ((hF346 346 0 rfl).trans ((hF288 346 0 rfl).trans ((by rw [eI287, dkU_n (by decide)] : I287 346 0 = _).trans ((by rw [eI286, dkU_n (by decide)] : I286 346 0 = _).trans (by rw [z2_1]))))))))) ((by rw [eI458, dkU_n (by decide)] : I458 346 4 = _).trans ((hF412 346 4 rfl).trans ((by rw [eI411, dkU_n (by decide)] : I411 346 4 = _).trans ((hF359 346 4 rfl).trans ((hF346 346 4 rfl).trans ((hF288 346 4 rfl).trans ((by rw [eI287, dkU_n (by decide)] : I287 346 4 = _).trans ((by rw [eI286, dkU_n (by decide)] : I286 346 4 = _).trans (by rw [z2_1]))))))))) ((by rw [eI458, dkU_n (by decide)] : I458 346 5 = _).trans ((hF412 346 5 rfl).trans ((by rw [eI411, dkU_n (by decide)] : I411 346 5 = _).trans ((hF359 346 5 rfl).trans ((hF346 346 5 rfl).trans ((hF288 346 5 rfl).trans ((by rw [eI287, dkU_n (by decide)] : I287 346 5 = _).trans ((by rw [eI286, dkU_n (by decide)] : I286 346 5 = _).trans (by rw [z2_1]))))))))) ⟨(dkE_k e459 (by decide)), (((show I458 340 7 = 2 from ((by rw [eI458, dkU_n (by decide)] : I458 340 7 = _).trans y452))).trans (dkP_1 e459).symm), (((show I458 340 8 = dkTe (I0 345) (I0 340 6) (dkTe (I0 345) (I0 340 6) (dkTe (I0 345) (I0 340 6) (0))) from ((by rw [eI458, dkU_n (by decide)] : I458 340 8 = _).trans y453))).trans (dkP_2 e459).symm)⟩ (lv_sub hl [0, 1] rfl)
              rcases hc412 with ⟨dv412, f412_340_11, f412_340_8, x412_0, x412_1, x412_2, x412_3, x412_4, xr412, xh412_0, xh412_1, xh412_2, xh412_3, xh412_4, xh412_5, -⟩ | hc412
              ·
                have w460 : I411 340 11 = dkTk (I0 345) (I0 340 6) (dkTe (I0 345) (I0 340 6) (dkTe (I0 345) (I0 340 6) (0))) := ((by rw [eI411, dkU_n (by decide)] : I411 340 11 = _).trans y409)
                have q461 : (dkTk (I0 345) (I0 340 6) (dkTe (I0 345) (I0 340 6) (dkTe (I0 345) (I0 340 6) (0)))).toInt = (3 : Int) := by have h := x412_0; rw [w460] at h; exact h
                have w462 : I411 340 8 = (-1) := ((by rw [eI411, dkU_n (by decide)] : I411 340 8 = _).trans y403)
                have w463 : I411 345 = I0 345 := ((by rw [eI411, dkU_n (by decide)] : I411 345 = _).trans ((funext fun j => hF359 345 j (dkNin_k rfl dkNin_nil)).trans ((funext fun j => hF346 345 j (dkNin_k rfl dkNin_nil)).trans ((funext fun j => hF288 345 j (dkNin_k rfl dkNin_nil)).trans ((by rw [eI287, dkU_n (by decide)] : I287 345 = _).trans ((by rw [eI286, dkU_n (by decide)] : I286 345 = _).trans z2_0))))))
                have w464 : I411 340 6 = I0 340 6 := ((by rw [eI411, dkU_n (by decide)] : I411 340 6 = _).trans ((hF359 340 6 rfl).trans ((hF346 340 6 rfl).trans ((hF288 340 6 rfl).trans ((by rw [eI287, dkU_sn (by decide)] : I287 340 6 = _).trans ((by rw [eI286, dkU_sn (by decide)] : I286 340 6 = _).trans zp2_1))))))
                have w465 : I411 340 9 = dkTe (I0 345) (I0 340 6) (dkTe (I0 345) (I0 340 6) (dkTe (I0 345) (I0 340 6) (0))) := ((by rw [eI411, dkU_n (by decide)] : I411 340 9 = _).trans y407)
                have q466 : (dkTk (I0 345) (I0 340 6) (dkTe (I0 345) (I0 340 6) (dkTe (I0 345) (I0 340 6) (dkTe (I0 345) (I0 340 6) (0))))).toInt = (2 : Int) := by have h := x412_2; rw [w463, w464, w465] at h; exact h
                have q467 : (1 : Int) + 0 ≤ (dkTv (I0 345) (I0 340 6) (dkTe (I0 345) (I0 340 6) (dkTe (I0 345) (I0 340 6) (dkTe (I0 345) (I0 340 6) (0))))).toInt := by have h := x412_3; rw [w463, w464, w465] at h; exact h
                have q468 : (dkTv (I0 345) (I0 340 6) (dkTe (I0 345) (I0 340 6) (dkTe (I0 345) (I0 340 6) (dkTe (I0 345) (I0 340 6) (0))))).toInt + 0 ≤ (30 : Int) := by have h := x412_4; rw [w463, w464, w465] at h; exact h
                have w469 : I411 340 7 = I0 340 7 := ((by rw [eI411, dkU_n (by decide)] : I411 340 7 = _).trans y402)
                have y470 : I412 340 7 = I0 340 7 := by have h := xh412_0; rw [w469] at h; exact h
                have y471 : I412 340 8 = (-1) := by have h := xh412_1; rw [w462] at h; exact h
                have y472 : I412 340 9 = dkTe (I0 345) (I0 340 6) (dkTe (I0 345) (I0 340 6) (dkTe (I0 345) (I0 340 6) (dkTe (I0 345) (I0 340 6) (dkTe (I0 345) (I0 340 6) (0))))) := by have h := xh412_2; rw [w463, w464, w465] at h; exact h
                have y473 : I412 340 10 = dkTe (I0 345) (I0 340 6) (dkTe (I0 345) (I0 340 6) (dkTe (I0 345) (I0 340 6) (dkTe (I0 345) (I0 340 6) (0)))) := by have h := xh412_3; rw [w463, w464, w465] at h; exact h
                have y474 : I412 340 11 = dkTk (I0 345) (I0 340 6) (dkTe (I0 345) (I0 340 6) (dkTe (I0 345) (I0 340 6) (dkTe (I0 345) (I0 340 6) (dkTe (I0 345) (I0 340 6) (0))))) := by have h := xh412_4; rw [w463, w464, w465] at h; exact h
                have y475 : I412 340 12 = dkTv (I0 345) (I0 340 6) (dkTe (I0 345) (I0 340 6) (dkTe (I0 345) (I0 340 6) (dkTe (I0 345) (I0 340 6) (dkTe (I0 345) (I0 340 6) (0))))) := by have h := xh412_5; rw [w463, w464, w465] at h; exact h
                have xv412 : v412 = dkTv (I0 345) (I0 340 6) (dkTe (I0 345) (I0 340 6) (dkTe (I0 345) (I0 340 6) (dkTe (I0 345) (I0 340 6) (0)))) := by have h := xr412; rw [w463, w464, w465] at h; exact h
                refine dk_ist (k := 347) hx hb hK hW (fun _ => rfl) (by decide) hS (dkN_in (n := 54) (dkN_lit (x := 1) (1) rfl) rfl) dX6_town_88 (fun I476 H476 L476 eI476 hW hS => ?_)
                have eI476 : I476 = dkU I412 347 1 v412 := eI476
                have hO := dkO_set hO eI476 (dkN_sub dv412 rfl)
                have hF := dkF_set hF eI476 rfl
                have hP := dkPP_set hP eI476 rfl
                refine lv_aload_n hx hb dX6_town_89 rfl (lv_at hl 0 rfl) ?_
                refine lv_aload_n hx hb dX6_town_90 rfl (lv_at hl 0 rfl) ?_
                refine dk_get (k := 340) hx hb hts iX6_town_6 hown hK (dk_at340 hW) rfl 11 (by decide) (hts (.fieldLink RX6 98 "DogKingsModel" "token" "I") (List.mem_of_getElem? (i := 4) rfl)) rfl dX6_town_91 ?_
                refine lv_topi (fun v477 ev477 => ?_)
                have dv477 : dkN [(0, 5)] v477 := by rw [ev477]; exact (by rw [eI476, dkU_n (by decide)]; exact f412_340_11)
                have xv477 : v477 = dkTk (I0 345) (I0 340 6) (dkTe (I0 345) (I0 340 6) (dkTe (I0 345) (I0 340 6) (dkTe (I0 345) (I0 340 6) (dkTe (I0 345) (I0 340 6) (0))))) := ev477.trans ((by rw [eI476, dkU_n (by decide)] : I476 340 11 = _).trans y474)
                refine lv_iconst (v := 4) hx hb dX6_town_94 (by decide) ?_
                refine lv_icmp_ne (tgt := 102) hx hb dX6_town_95 (by decide) (fun c478 => ?_) (fun c478 => ?_)
                ·
                  have q479 : (dkTk (I0 345) (I0 340 6) (dkTe (I0 345) (I0 340 6) (dkTe (I0 345) (I0 340 6) (dkTe (I0 345) (I0 340 6) (dkTe (I0 345) (I0 340 6) (0)))))).toInt ≠ (4 : Int) := by first | (rw [← xv477]; exact (dk_ne c478)) | (subst xv477; exact (dk_ne c478))
                  have d480 : dkN [(0, 3), (5, 5)] v477 := dkN_ne1 (4) dv477 (dkN_lit (x := 4) (4) rfl) (dk_ne c478) rfl
                  have f481 : dkN [(0, 3), (5, 5)] (I476 340 11) := by rw [← ev477]; exact d480
                  refine lv_iconst (v := 0) hx hb dX6_town_102 (by decide) ?_
                  refine lv_iconst (v := 1) hx hb dX6_town_103 (by decide) ?_
                  refine dk_Vi (As := [.int 0, .int 1]) (rest := []) ⟨hx, hb, hml, hown, hts⟩ (fx_X6_takes_31 l g z I476 0 1 (dkN_lit (x := 0) (0) rfl) (dkN_lit (x := 1) (1) rfl) (show dkN [(-1, -1)] (I476 340 8) from dkN_sub (by rw [eI476, dkU_n (by decide)]; exact f412_340_8) rfl) hO) (cwV 2 hts gX6_town_X6_takes rfl rfl rfl (by decide +kernel) ⟨Nat.le_of_ble_eq_true rfl, Nat.le_of_ble_eq_true rfl⟩) (dk_at340 hW) rfl hK hT hW hS rfl hl.1 rfl (Nat.le_of_ble_eq_true rfl) dX6_town_104 ⟨Nat.zero_le _, Nat.zero_le _⟩ (fun v482 I482 H482 L482 hp482 hW hS => ?_)
                  obtain ⟨hF482, hO, hc482⟩ := hp482
                  have hF := dkF_call hF hF482 rfl
                  have hP := dkPP_F hP hF482 rfl
                  obtain ⟨dv482, f482_340_7, f482_340_8, x482_0, x482_1, xr482, xh482_0, xh482_1, xh482_2, xh482_3, xh482_4, xh482_5, -⟩ := hc482
                  have w483 : I476 340 8 = (-1) := ((by rw [eI476, dkU_n (by decide)] : I476 340 8 = _).trans y471)
                  have y484 : I482 340 7 = 1 := by have h := xh482_0; exact h
                  have w485 : I476 340 10 = dkTe (I0 345) (I0 340 6) (dkTe (I0 345) (I0 340 6) (dkTe (I0 345) (I0 340 6) (dkTe (I0 345) (I0 340 6) (0)))) := ((by rw [eI476, dkU_n (by decide)] : I476 340 10 = _).trans y473)
                  have y486 : I482 340 8 = dkTe (I0 345) (I0 340 6) (dkTe (I0 345) (I0 340 6) (dkTe (I0 345) (I0 340 6) (dkTe (I0 345) (I0 340 6) (0)))) := by have h := xh482_1; rw [w485] at h; exact h
                  have w487 : I476 340 9 = dkTe (I0 345) (I0 340 6) (dkTe (I0 345) (I0 340 6) (dkTe (I0 345) (I0 340 6) (dkTe (I0 345) (I0 340 6) (dkTe (I0 345) (I0 340 6) (0))))) := ((by rw [eI476, dkU_n (by decide)] : I476 340 9 = _).trans y472)
                  have y488 : I482 340 9 = dkTe (I0 345) (I0 340 6) (dkTe (I0 345) (I0 340 6) (dkTe (I0 345) (I0 340 6) (dkTe (I0 345) (I0 340 6) (dkTe (I0 345) (I0 340 6) (0))))) := by have h := xh482_2; rw [w487] at h; exact h
                  have y489 : I482 340 10 = dkTe (I0 345) (I0 340 6) (dkTe (I0 345) (I0 340 6) (dkTe (I0 345) (I0 340 6) (dkTe (I0 345) (I0 340 6) (0)))) := by have h := xh482_3; rw [w485] at h; exact h
                  have w490 : I476 340 11 = dkTk (I0 345) (I0 340 6) (dkTe (I0 345) (I0 340 6) (dkTe (I0 345) (I0 340 6) (dkTe (I0 345) (I0 340 6) (dkTe (I0 345) (I0 340 6) (0))))) := ((by rw [eI476, dkU_n (by decide)] : I476 340 11 = _).trans y474)
                  have y491 : I482 340 11 = dkTk (I0 345) (I0 340 6) (dkTe (I0 345) (I0 340 6) (dkTe (I0 345) (I0 340 6) (dkTe (I0 345) (I0 340 6) (dkTe (I0 345) (I0 340 6) (0))))) := by have h := xh482_4; rw [w490] at h; exact h
                  have w492 : I476 340 12 = dkTv (I0 345) (I0 340 6) (dkTe (I0 345) (I0 340 6) (dkTe (I0 345) (I0 340 6) (dkTe (I0 345) (I0 340 6) (dkTe (I0 345) (I0 340 6) (0))))) := ((by rw [eI476, dkU_n (by decide)] : I476 340 12 = _).trans y475)
                  have y493 : I482 340 12 = dkTv (I0 345) (I0 340 6) (dkTe (I0 345) (I0 340 6) (dkTe (I0 345) (I0 340 6) (dkTe (I0 345) (I0 340 6) (dkTe (I0 345) (I0 340 6) (0))))) := by have h := xh482_5; rw [w492] at h; exact h
                  have xv482 : v482 = 0 := by have h := xr482; exact h
                  refine lv_pop hx hb dX6_town_107 rfl ?_
                  refine lv_aload_n hx hb dX6_town_108 rfl (lv_at hl 0 rfl) ?_
                  refine lv_aload_n hx hb dX6_town_109 rfl (lv_at hl 0 rfl) ?_
                  refine dk_get (k := 340) hx hb hts iX6_town_6 hown hK (dk_at340 hW) rfl 11 (by decide) (hts (.fieldLink RX6 98 "DogKingsModel" "token" "I") (List.mem_of_getElem? (i := 4) rfl)) rfl dX6_town_110 ?_
                  refine lv_topi (fun v494 ev494 => ?_)
                  have dv494 : dkN [(0, 3), (5, 5)] v494 := by rw [ev494]; exact (by rw [hF482 340 11 rfl]; exact f481)
                  have xv494 : v494 = dkTk (I0 345) (I0 340 6) (dkTe (I0 345) (I0 340 6) (dkTe (I0 345) (I0 340 6) (dkTe (I0 345) (I0 340 6) (dkTe (I0 345) (I0 340 6) (0))))) := ev494.trans y491
                  refine lv_iconst (v := 1) hx hb dX6_town_113 (by decide) ?_
                  refine lv_icmp_ne (tgt := 130) hx hb dX6_town_114 (by decide) (fun c495 => ?_) (fun c495 => ?_)
                  ·
                    have q496 : (dkTk (I0 345) (I0 340 6) (dkTe (I0 345) (I0 340 6) (dkTe (I0 345) (I0 340 6) (dkTe (I0 345) (I0 340 6) (dkTe (I0 345) (I0 340 6) (0)))))).toInt ≠ (1 : Int) := by first | (rw [← xv494]; exact (dk_ne c495)) | (subst xv494; exact (dk_ne c495))
                    have d497 : dkN [(0, 0), (2, 3), (5, 5)] v494 := dkN_ne1 (1) dv494 (dkN_lit (x := 1) (1) rfl) (dk_ne c495) rfl
                    have f498 : dkN [(0, 0), (2, 3), (5, 5)] (I482 340 11) := by rw [← ev494]; exact d497
                    refine lv_iconst (v := 0) hx hb dX6_town_130 (by decide) ?_
                    have i0 : (0 : Int32).toInt = 0 := rfl
                    have i1 : (1 : Int32).toInt = 1 := rfl
                    have i2 : (2 : Int32).toInt = 2 := rfl
                    have i3 : (3 : Int32).toInt = 3 := rfl
                    have i9 : (9 : Int32).toInt = 9 := rfl
                    have i30 : (30 : Int32).toInt = 30 := rfl
                    have i44 : (44 : Int32).toInt = 44 := rfl
                    have i59 : (59 : Int32).toInt = 59 := rfl
                    have i109 : (109 : Int32).toInt = 109 := rfl
                    have i116 : (116 : Int32).toInt = 116 := rfl
                    have e499 : dkTw (I0 345) (I0 340 6) = (1, dkTe (I0 345) (I0 340 6) (dkTe (I0 345) (I0 340 6) (dkTe (I0 345) (I0 340 6) (dkTe (I0 345) (I0 340 6) (0))))) := dkTw_l ((dkTh_p (dkK_l (T := (I0 345)) (n := (I0 340 6)) (a := 0) (c := 116) q318 (by omega))).trans ((dkTh_p (dkK_0 (T := (I0 345)) (n := (I0 340 6)) (a := dkTe (I0 345) (I0 340 6) (0)) (lo := 3) (hi := 9) q397 (by omega) (by omega))).trans ((dkTh_p (dkK_c (T := (I0 345)) (n := (I0 340 6)) (a := dkTe (I0 345) (I0 340 6) (dkTe (I0 345) (I0 340 6) (0))) q461)).trans ((dkTh_p (dkK_0 (T := (I0 345)) (n := (I0 340 6)) (a := dkTe (I0 345) (I0 340 6) (dkTe (I0 345) (I0 340 6) (dkTe (I0 345) (I0 340 6) (0)))) (lo := 1) (hi := 30) q466 (by omega) (by omega))).trans (dkK_sn (T := (I0 345)) (n := (I0 340 6)) (a := dkTe (I0 345) (I0 340 6) (dkTe (I0 345) (I0 340 6) (dkTe (I0 345) (I0 340 6) (dkTe (I0 345) (I0 340 6) (0))))) q479))))) (by decide)
                    exact C131 I482 _ _ ls x2_1 0 hW hS hF hO hP (dkN_sub d285 rfl) (dkN_sub (dkN_lit (x := 0) (0) rfl) rfl) (show dkN [(1, 2)] (I482 340 7) from dkN_sub f482_340_7 rfl) (show dkN [(0, 90)] (I482 340 8) from dkN_sub f482_340_8 rfl) (show dkN [(0, 0), (3, 9)] (I482 347 0) from dkN_sub (by rw [hF482 347 0 rfl]; exact (by rw [eI476, dkU_sn (by decide)]; exact (by rw [hF412 347 0 rfl]; exact (by rw [eI411, dkU_ss]; exact dv359)))) rfl) (show dkN [(0, 0)] (I482 347 4) from dkN_sub (by rw [hF482 347 4 rfl]; exact (by rw [eI476, dkU_sn (by decide)]; exact (by rw [hF412 347 4 rfl]; exact (by rw [eI411, dkU_sn (by decide)]; exact (by rw [hF359 347 4 rfl]; exact (by rw [hF346 347 4 rfl]; exact (by rw [hF288 347 4 rfl]; exact (by rw [eI287, dkU_n (by decide)]; exact (by rw [eI286, dkU_n (by decide)]; exact (dkN_lit (0) (by rw [hz4]; rfl))))))))))) rfl) (show dkN [(0, 0)] (I482 347 5) from dkN_sub (by rw [hF482 347 5 rfl]; exact (by rw [eI476, dkU_sn (by decide)]; exact (by rw [hF412 347 5 rfl]; exact (by rw [eI411, dkU_sn (by decide)]; exact (by rw [hF359 347 5 rfl]; exact (by rw [hF346 347 5 rfl]; exact (by rw [hF288 347 5 rfl]; exact (by rw [eI287, dkU_n (by decide)]; exact (by rw [eI286, dkU_n (by decide)]; exact (dkN_lit (0) (by rw [hz5]; rfl))))))))))) rfl) ((funext fun j => hF482 345 j (dkNin_k rfl dkNin_nil)).trans ((by rw [eI476, dkU_n (by decide)] : I476 345 = _).trans ((funext fun j => hF412 345 j (dkNin_k rfl dkNin_nil)).trans ((by rw [eI411, dkU_n (by decide)] : I411 345 = _).trans ((funext fun j => hF359 345 j (dkNin_k rfl dkNin_nil)).trans ((funext fun j => hF346 345 j (dkNin_k rfl dkNin_nil)).trans ((funext fun j => hF288 345 j (dkNin_k rfl dkNin_nil)).trans ((by rw [eI287, dkU_n (by decide)] : I287 345 = _).trans ((by rw [eI286, dkU_n (by decide)] : I286 345 = _).trans z2_0))))))))) ((funext fun j => hF482 346 j (dkNin_k rfl dkNin_nil)).trans ((by rw [eI476, dkU_n (by decide)] : I476 346 = _).trans ((funext fun j => hF412 346 j (dkNin_k rfl dkNin_nil)).trans ((by rw [eI411, dkU_n (by decide)] : I411 346 = _).trans ((funext fun j => hF359 346 j (dkNin_k rfl dkNin_nil)).trans ((funext fun j => hF346 346 j (dkNin_k rfl dkNin_nil)).trans ((funext fun j => hF288 346 j (dkNin_k rfl dkNin_nil)).trans ((by rw [eI287, dkU_n (by decide)] : I287 346 = _).trans ((by rw [eI286, dkU_n (by decide)] : I286 346 = _).trans z2_1))))))))) ((hF482 340 17 rfl).trans ((by rw [eI476, dkU_n (by decide)] : I476 340 17 = _).trans ((hF412 340 17 rfl).trans ((by rw [eI411, dkU_n (by decide)] : I411 340 17 = _).trans ((hF359 340 17 rfl).trans ((hF346 340 17 rfl).trans ((hF288 340 17 rfl).trans ((by rw [eI287, dkU_sn (by decide)] : I287 340 17 = _).trans ((by rw [eI286, dkU_sn (by decide)] : I286 340 17 = _).trans zp2_0))))))))) ((hF482 340 6 rfl).trans ((by rw [eI476, dkU_n (by decide)] : I476 340 6 = _).trans ((hF412 340 6 rfl).trans ((by rw [eI411, dkU_n (by decide)] : I411 340 6 = _).trans ((hF359 340 6 rfl).trans ((hF346 340 6 rfl).trans ((hF288 340 6 rfl).trans ((by rw [eI287, dkU_sn (by decide)] : I287 340 6 = _).trans ((by rw [eI286, dkU_sn (by decide)] : I286 340 6 = _).trans zp2_1))))))))) ((hF482 346 0 rfl).trans ((by rw [eI476, dkU_n (by decide)] : I476 346 0 = _).trans ((hF412 346 0 rfl).trans ((by rw [eI411, dkU_n (by decide)] : I411 346 0 = _).trans ((hF359 346 0 rfl).trans ((hF346 346 0 rfl).trans ((hF288 346 0 rfl).trans ((by rw [eI287, dkU_n (by decide)] : I287 346 0 = _).trans ((by rw [eI286, dkU_n (by decide)] : I286 346 0 = _).trans (by rw [z2_1])))))))))) ((hF482 346 4 rfl).trans ((by rw [eI476, dkU_n (by decide)] : I476 346 4 = _).trans ((hF412 346 4 rfl).trans ((by rw [eI411, dkU_n (by decide)] : I411 346 4 = _).trans ((hF359 346 4 rfl).trans ((hF346 346 4 rfl).trans ((hF288 346 4 rfl).trans ((by rw [eI287, dkU_n (by decide)] : I287 346 4 = _).trans ((by rw [eI286, dkU_n (by decide)] : I286 346 4 = _).trans (by rw [z2_1])))))))))) ((hF482 346 5 rfl).trans ((by rw [eI476, dkU_n (by decide)] : I476 346 5 = _).trans ((hF412 346 5 rfl).trans ((by rw [eI411, dkU_n (by decide)] : I411 346 5 = _).trans ((hF359 346 5 rfl).trans ((hF346 346 5 rfl).trans ((hF288 346 5 rfl).trans ((by rw [eI287, dkU_n (by decide)] : I287 346 5 = _).trans ((by rw [eI286, dkU_n (by decide)] : I286 346 5 = _).trans (by rw [z2_1])))))))))) ⟨(dkE_k e499 (by decide)), (((show I482 340 7 = 1 from y484)).trans (dkP_1 e499).symm), (((show I482 340 8 = dkTe (I0 345) (I0 340 6) (dkTe (I0 345) (I0 340 6) (dkTe (I0 345) (I0 340 6) (dkTe (I0 345) (I0 340 6) (0)))) from y486)).trans (dkP_2 e499).symm)⟩ (lv_sub hl [0, 1] rfl)
                  ·
                    have q500 : (dkTk (I0 345) (I0 340 6) (dkTe (I0 345) (I0 340 6) (dkTe (I0 345) (I0 340 6) (dkTe (I0 345) (I0 340 6) (dkTe (I0 345) (I0 340 6) (0)))))).toInt = (1 : Int) := by first | (rw [← xv494]; exact (congrArg Int32.toInt c495)) | (subst xv494; exact (congrArg Int32.toInt c495))
                    have d501 : dkN [(1, 1)] v494 := dkN_eq1 dv494 (dkN_lit (x := 1) (1) rfl) (congrArg Int32.toInt c495) rfl
                    have f502 : dkN [(1, 1)] (I482 340 11) := by rw [← ev494]; exact d501
                    refine lv_aload_n hx hb dX6_town_117 rfl (lv_at hl 0 rfl) ?_
                    refine dk_get (k := 340) hx hb hts iX6_town_6 hown hK (dk_at340 hW) rfl 12 (by decide) (hts (.fieldLink RX6 95 "DogKingsModel" "value" "I") (List.mem_of_getElem? (i := 5) rfl)) rfl dX6_town_118 ?_
                    refine lv_topi (fun v503 ev503 => ?_)
                    have xv503 : v503 = dkTv (I0 345) (I0 340 6) (dkTe (I0 345) (I0 340 6) (dkTe (I0 345) (I0 340 6) (dkTe (I0 345) (I0 340 6) (dkTe (I0 345) (I0 340 6) (0))))) := ev503.trans y493
                    refine lv_bipush (v := 109) hx hb dX6_town_121 (by decide) ?_
                    refine lv_icmp_ne (tgt := 130) hx hb dX6_town_123 (by decide) (fun c504 => ?_) (fun c504 => ?_)
                    ·
                      have q505 : (dkTv (I0 345) (I0 340 6) (dkTe (I0 345) (I0 340 6) (dkTe (I0 345) (I0 340 6) (dkTe (I0 345) (I0 340 6) (dkTe (I0 345) (I0 340 6) (0)))))).toInt ≠ (109 : Int) := by first | (rw [← xv503]; exact (dk_ne c504)) | (subst xv503; exact (dk_ne c504))
                      have d506 : dkN [(-2147483648, 108), (110, 2147483647)] v503 := dkN_ne1 (109) (dkN_top v503) (dkN_lit (x := 109) (109) rfl) (dk_ne c504) rfl
                      have f507 : dkN [(-2147483648, 108), (110, 2147483647)] (I482 340 12) := by rw [← ev503]; exact d506
                      refine lv_iconst (v := 0) hx hb dX6_town_130 (by decide) ?_
                      have i0 : (0 : Int32).toInt = 0 := rfl
                      have i1 : (1 : Int32).toInt = 1 := rfl
                      have i2 : (2 : Int32).toInt = 2 := rfl
                      have i3 : (3 : Int32).toInt = 3 := rfl
                      have i9 : (9 : Int32).toInt = 9 := rfl
                      have i30 : (30 : Int32).toInt = 30 := rfl
                      have i44 : (44 : Int32).toInt = 44 := rfl
                      have i59 : (59 : Int32).toInt = 59 := rfl
                      have i109 : (109 : Int32).toInt = 109 := rfl
                      have i116 : (116 : Int32).toInt = 116 := rfl
                      have e508 : dkTw (I0 345) (I0 340 6) = (1, dkTe (I0 345) (I0 340 6) (dkTe (I0 345) (I0 340 6) (dkTe (I0 345) (I0 340 6) (dkTe (I0 345) (I0 340 6) (0))))) := dkTw_l ((dkTh_p (dkK_l (T := (I0 345)) (n := (I0 340 6)) (a := 0) (c := 116) q318 (by omega))).trans ((dkTh_p (dkK_0 (T := (I0 345)) (n := (I0 340 6)) (a := dkTe (I0 345) (I0 340 6) (0)) (lo := 3) (hi := 9) q397 (by omega) (by omega))).trans ((dkTh_p (dkK_c (T := (I0 345)) (n := (I0 340 6)) (a := dkTe (I0 345) (I0 340 6) (dkTe (I0 345) (I0 340 6) (0))) q461)).trans ((dkTh_p (dkK_0 (T := (I0 345)) (n := (I0 340 6)) (a := dkTe (I0 345) (I0 340 6) (dkTe (I0 345) (I0 340 6) (dkTe (I0 345) (I0 340 6) (0)))) (lo := 1) (hi := 30) q466 (by omega) (by omega))).trans (dkK_sn (T := (I0 345)) (n := (I0 340 6)) (a := dkTe (I0 345) (I0 340 6) (dkTe (I0 345) (I0 340 6) (dkTe (I0 345) (I0 340 6) (dkTe (I0 345) (I0 340 6) (0))))) q479))))) (by decide)
                      exact C131 I482 _ _ ls x2_1 0 hW hS hF hO hP (dkN_sub d285 rfl) (dkN_sub (dkN_lit (x := 0) (0) rfl) rfl) (show dkN [(1, 2)] (I482 340 7) from dkN_sub f482_340_7 rfl) (show dkN [(0, 90)] (I482 340 8) from dkN_sub f482_340_8 rfl) (show dkN [(0, 0), (3, 9)] (I482 347 0) from dkN_sub (by rw [hF482 347 0 rfl]; exact (by rw [eI476, dkU_sn (by decide)]; exact (by rw [hF412 347 0 rfl]; exact (by rw [eI411, dkU_ss]; exact dv359)))) rfl) (show dkN [(0, 0)] (I482 347 4) from dkN_sub (by rw [hF482 347 4 rfl]; exact (by rw [eI476, dkU_sn (by decide)]; exact (by rw [hF412 347 4 rfl]; exact (by rw [eI411, dkU_sn (by decide)]; exact (by rw [hF359 347 4 rfl]; exact (by rw [hF346 347 4 rfl]; exact (by rw [hF288 347 4 rfl]; exact (by rw [eI287, dkU_n (by decide)]; exact (by rw [eI286, dkU_n (by decide)]; exact (dkN_lit (0) (by rw [hz4]; rfl))))))))))) rfl) (show dkN [(0, 0)] (I482 347 5) from dkN_sub (by rw [hF482 347 5 rfl]; exact (by rw [eI476, dkU_sn (by decide)]; exact (by rw [hF412 347 5 rfl]; exact (by rw [eI411, dkU_sn (by decide)]; exact (by rw [hF359 347 5 rfl]; exact (by rw [hF346 347 5 rfl]; exact (by rw [hF288 347 5 rfl]; exact (by rw [eI287, dkU_n (by decide)]; exact (by rw [eI286, dkU_n (by decide)]; exact (dkN_lit (0) (by rw [hz5]; rfl))))))))))) rfl) ((funext fun j => hF482 345 j (dkNin_k rfl dkNin_nil)).trans ((by rw [eI476, dkU_n (by decide)] : I476 345 = _).trans ((funext fun j => hF412 345 j (dkNin_k rfl dkNin_nil)).trans ((by rw [eI411, dkU_n (by decide)] : I411 345 = _).trans ((funext fun j => hF359 345 j (dkNin_k rfl dkNin_nil)).trans ((funext fun j => hF346 345 j (dkNin_k rfl dkNin_nil)).trans ((funext fun j => hF288 345 j (dkNin_k rfl dkNin_nil)).trans ((by rw [eI287, dkU_n (by decide)] : I287 345 = _).trans ((by rw [eI286, dkU_n (by decide)] : I286 345 = _).trans z2_0))))))))) ((funext fun j => hF482 346 j (dkNin_k rfl dkNin_nil)).trans ((by rw [eI476, dkU_n (by decide)] : I476 346 = _).trans ((funext fun j => hF412 346 j (dkNin_k rfl dkNin_nil)).trans ((by rw [eI411, dkU_n (by decide)] : I411 346 = _).trans ((funext fun j => hF359 346 j (dkNin_k rfl dkNin_nil)).trans ((funext fun j => hF346 346 j (dkNin_k rfl dkNin_nil)).trans ((funext fun j => hF288 346 j (dkNin_k rfl dkNin_nil)).trans ((by rw [eI287, dkU_n (by decide)] : I287 346 = _).trans ((by rw [eI286, dkU_n (by decide)] : I286 346 = _).trans z2_1))))))))) ((hF482 340 17 rfl).trans ((by rw [eI476, dkU_n (by decide)] : I476 340 17 = _).trans ((hF412 340 17 rfl).trans ((by rw [eI411, dkU_n (by decide)] : I411 340 17 = _).trans ((hF359 340 17 rfl).trans ((hF346 340 17 rfl).trans ((hF288 340 17 rfl).trans ((by rw [eI287, dkU_sn (by decide)] : I287 340 17 = _).trans ((by rw [eI286, dkU_sn (by decide)] : I286 340 17 = _).trans zp2_0))))))))) ((hF482 340 6 rfl).trans ((by rw [eI476, dkU_n (by decide)] : I476 340 6 = _).trans ((hF412 340 6 rfl).trans ((by rw [eI411, dkU_n (by decide)] : I411 340 6 = _).trans ((hF359 340 6 rfl).trans ((hF346 340 6 rfl).trans ((hF288 340 6 rfl).trans ((by rw [eI287, dkU_sn (by decide)] : I287 340 6 = _).trans ((by rw [eI286, dkU_sn (by decide)] : I286 340 6 = _).trans zp2_1))))))))) ((hF482 346 0 rfl).trans ((by rw [eI476, dkU_n (by decide)] : I476 346 0 = _).trans ((hF412 346 0 rfl).trans ((by rw [eI411, dkU_n (by decide)] : I411 346 0 = _).trans ((hF359 346 0 rfl).trans ((hF346 346 0 rfl).trans ((hF288 346 0 rfl).trans ((by rw [eI287, dkU_n (by decide)] : I287 346 0 = _).trans ((by rw [eI286, dkU_n (by decide)] : I286 346 0 = _).trans (by rw [z2_1])))))))))) ((hF482 346 4 rfl).trans ((by rw [eI476, dkU_n (by decide)] : I476 346 4 = _).trans ((hF412 346 4 rfl).trans ((by rw [eI411, dkU_n (by decide)] : I411 346 4 = _).trans ((hF359 346 4 rfl).trans ((hF346 346 4 rfl).trans ((hF288 346 4 rfl).trans ((by rw [eI287, dkU_n (by decide)] : I287 346 4 = _).trans ((by rw [eI286, dkU_n (by decide)] : I286 346 4 = _).trans (by rw [z2_1])))))))))) ((hF482 346 5 rfl).trans ((by rw [eI476, dkU_n (by decide)] : I476 346 5 = _).trans ((hF412 346 5 rfl).trans ((by rw [eI411, dkU_n (by decide)] : I411 346 5 = _).trans ((hF359 346 5 rfl).trans ((hF346 346 5 rfl).trans ((hF288 346 5 rfl).trans ((by rw [eI287, dkU_n (by decide)] : I287 346 5 = _).trans ((by rw [eI286, dkU_n (by decide)] : I286 346 5 = _).trans (by rw [z2_1])))))))))) ⟨(dkE_k e508 (by decide)), (((show I482 340 7 = 1 from y484)).trans (dkP_1 e508).symm), (((show I482 340 8 = dkTe (I0 345) (I0 340 6) (dkTe (I0 345) (I0 340 6) (dkTe (I0 345) (I0 340 6) (dkTe (I0 345) (I0 340 6) (0)))) from y486)).trans (dkP_2 e508).symm)⟩ (lv_sub hl [0, 1] rfl)
                    ·
                      have q509 : (dkTv (I0 345) (I0 340 6) (dkTe (I0 345) (I0 340 6) (dkTe (I0 345) (I0 340 6) (dkTe (I0 345) (I0 340 6) (dkTe (I0 345) (I0 340 6) (0)))))).toInt = (109 : Int) := by first | (rw [← xv503]; exact (congrArg Int32.toInt c504)) | (subst xv503; exact (congrArg Int32.toInt c504))
                      have d510 : dkN [(109, 109)] v503 := dkN_eq1 (dkN_top v503) (dkN_lit (x := 109) (109) rfl) (congrArg Int32.toInt c504) rfl
                      have f511 : dkN [(109, 109)] (I482 340 12) := by rw [← ev503]; exact d510
                      refine lv_iconst (v := 1) hx hb dX6_town_126 (by decide) ?_
                      refine lv_goto (tgt := 131) hx hb dX6_town_127 (by decide) ?_
                      have i0 : (0 : Int32).toInt = 0 := rfl
                      have i1 : (1 : Int32).toInt = 1 := rfl
                      have i2 : (2 : Int32).toInt = 2 := rfl
                      have i3 : (3 : Int32).toInt = 3 := rfl
                      have i9 : (9 : Int32).toInt = 9 := rfl
                      have i30 : (30 : Int32).toInt = 30 := rfl
                      have i44 : (44 : Int32).toInt = 44 := rfl
                      have i59 : (59 : Int32).toInt = 59 := rfl
                      have i109 : (109 : Int32).toInt = 109 := rfl
                      have i116 : (116 : Int32).toInt = 116 := rfl
                      have e512 : dkTw (I0 345) (I0 340 6) = (1, dkTe (I0 345) (I0 340 6) (dkTe (I0 345) (I0 340 6) (dkTe (I0 345) (I0 340 6) (dkTe (I0 345) (I0 340 6) (0))))) := dkTw_l ((dkTh_p (dkK_l (T := (I0 345)) (n := (I0 340 6)) (a := 0) (c := 116) q318 (by omega))).trans ((dkTh_p (dkK_0 (T := (I0 345)) (n := (I0 340 6)) (a := dkTe (I0 345) (I0 340 6) (0)) (lo := 3) (hi := 9) q397 (by omega) (by omega))).trans ((dkTh_p (dkK_c (T := (I0 345)) (n := (I0 340 6)) (a := dkTe (I0 345) (I0 340 6) (dkTe (I0 345) (I0 340 6) (0))) q461)).trans ((dkTh_p (dkK_0 (T := (I0 345)) (n := (I0 340 6)) (a := dkTe (I0 345) (I0 340 6) (dkTe (I0 345) (I0 340 6) (dkTe (I0 345) (I0 340 6) (0)))) (lo := 1) (hi := 30) q466 (by omega) (by omega))).trans (dkK_sn (T := (I0 345)) (n := (I0 340 6)) (a := dkTe (I0 345) (I0 340 6) (dkTe (I0 345) (I0 340 6) (dkTe (I0 345) (I0 340 6) (dkTe (I0 345) (I0 340 6) (0))))) q479))))) (by decide)
                      exact C131 I482 _ _ ls x2_1 1 hW hS hF hO hP (dkN_sub d285 rfl) (dkN_sub (dkN_lit (x := 1) (1) rfl) rfl) (show dkN [(1, 2)] (I482 340 7) from dkN_sub f482_340_7 rfl) (show dkN [(0, 90)] (I482 340 8) from dkN_sub f482_340_8 rfl) (show dkN [(0, 0), (3, 9)] (I482 347 0) from dkN_sub (by rw [hF482 347 0 rfl]; exact (by rw [eI476, dkU_sn (by decide)]; exact (by rw [hF412 347 0 rfl]; exact (by rw [eI411, dkU_ss]; exact dv359)))) rfl) (show dkN [(0, 0)] (I482 347 4) from dkN_sub (by rw [hF482 347 4 rfl]; exact (by rw [eI476, dkU_sn (by decide)]; exact (by rw [hF412 347 4 rfl]; exact (by rw [eI411, dkU_sn (by decide)]; exact (by rw [hF359 347 4 rfl]; exact (by rw [hF346 347 4 rfl]; exact (by rw [hF288 347 4 rfl]; exact (by rw [eI287, dkU_n (by decide)]; exact (by rw [eI286, dkU_n (by decide)]; exact (dkN_lit (0) (by rw [hz4]; rfl))))))))))) rfl) (show dkN [(0, 0)] (I482 347 5) from dkN_sub (by rw [hF482 347 5 rfl]; exact (by rw [eI476, dkU_sn (by decide)]; exact (by rw [hF412 347 5 rfl]; exact (by rw [eI411, dkU_sn (by decide)]; exact (by rw [hF359 347 5 rfl]; exact (by rw [hF346 347 5 rfl]; exact (by rw [hF288 347 5 rfl]; exact (by rw [eI287, dkU_n (by decide)]; exact (by rw [eI286, dkU_n (by decide)]; exact (dkN_lit (0) (by rw [hz5]; rfl))))))))))) rfl) ((funext fun j => hF482 345 j (dkNin_k rfl dkNin_nil)).trans ((by rw [eI476, dkU_n (by decide)] : I476 345 = _).trans ((funext fun j => hF412 345 j (dkNin_k rfl dkNin_nil)).trans ((by rw [eI411, dkU_n (by decide)] : I411 345 = _).trans ((funext fun j => hF359 345 j (dkNin_k rfl dkNin_nil)).trans ((funext fun j => hF346 345 j (dkNin_k rfl dkNin_nil)).trans ((funext fun j => hF288 345 j (dkNin_k rfl dkNin_nil)).trans ((by rw [eI287, dkU_n (by decide)] : I287 345 = _).trans ((by rw [eI286, dkU_n (by decide)] : I286 345 = _).trans z2_0))))))))) ((funext fun j => hF482 346 j (dkNin_k rfl dkNin_nil)).trans ((by rw [eI476, dkU_n (by decide)] : I476 346 = _).trans ((funext fun j => hF412 346 j (dkNin_k rfl dkNin_nil)).trans ((by rw [eI411, dkU_n (by decide)] : I411 346 = _).trans ((funext fun j => hF359 346 j (dkNin_k rfl dkNin_nil)).trans ((funext fun j => hF346 346 j (dkNin_k rfl dkNin_nil)).trans ((funext fun j => hF288 346 j (dkNin_k rfl dkNin_nil)).trans ((by rw [eI287, dkU_n (by decide)] : I287 346 = _).trans ((by rw [eI286, dkU_n (by decide)] : I286 346 = _).trans z2_1))))))))) ((hF482 340 17 rfl).trans ((by rw [eI476, dkU_n (by decide)] : I476 340 17 = _).trans ((hF412 340 17 rfl).trans ((by rw [eI411, dkU_n (by decide)] : I411 340 17 = _).trans ((hF359 340 17 rfl).trans ((hF346 340 17 rfl).trans ((hF288 340 17 rfl).trans ((by rw [eI287, dkU_sn (by decide)] : I287 340 17 = _).trans ((by rw [eI286, dkU_sn (by decide)] : I286 340 17 = _).trans zp2_0))))))))) ((hF482 340 6 rfl).trans ((by rw [eI476, dkU_n (by decide)] : I476 340 6 = _).trans ((hF412 340 6 rfl).trans ((by rw [eI411, dkU_n (by decide)] : I411 340 6 = _).trans ((hF359 340 6 rfl).trans ((hF346 340 6 rfl).trans ((hF288 340 6 rfl).trans ((by rw [eI287, dkU_sn (by decide)] : I287 340 6 = _).trans ((by rw [eI286, dkU_sn (by decide)] : I286 340 6 = _).trans zp2_1))))))))) ((hF482 346 0 rfl).trans ((by rw [eI476, dkU_n (by decide)] : I476 346 0 = _).trans ((hF412 346 0 rfl).trans ((by rw [eI411, dkU_n (by decide)] : I411 346 0 = _).trans ((hF359 346 0 rfl).trans ((hF346 346 0 rfl).trans ((hF288 346 0 rfl).trans ((by rw [eI287, dkU_n (by decide)] : I287 346 0 = _).trans ((by rw [eI286, dkU_n (by decide)] : I286 346 0 = _).trans (by rw [z2_1])))))))))) ((hF482 346 4 rfl).trans ((by rw [eI476, dkU_n (by decide)] : I476 346 4 = _).trans ((hF412 346 4 rfl).trans ((by rw [eI411, dkU_n (by decide)] : I411 346 4 = _).trans ((hF359 346 4 rfl).trans ((hF346 346 4 rfl).trans ((hF288 346 4 rfl).trans ((by rw [eI287, dkU_n (by decide)] : I287 346 4 = _).trans ((by rw [eI286, dkU_n (by decide)] : I286 346 4 = _).trans (by rw [z2_1])))))))))) ((hF482 346 5 rfl).trans ((by rw [eI476, dkU_n (by decide)] : I476 346 5 = _).trans ((hF412 346 5 rfl).trans ((by rw [eI411, dkU_n (by decide)] : I411 346 5 = _).trans ((hF359 346 5 rfl).trans ((hF346 346 5 rfl).trans ((hF288 346 5 rfl).trans ((by rw [eI287, dkU_n (by decide)] : I287 346 5 = _).trans ((by rw [eI286, dkU_n (by decide)] : I286 346 5 = _).trans (by rw [z2_1])))))))))) ⟨(dkE_k e512 (by decide)), (((show I482 340 7 = 1 from y484)).trans (dkP_1 e512).symm), (((show I482 340 8 = dkTe (I0 345) (I0 340 6) (dkTe (I0 345) (I0 340 6) (dkTe (I0 345) (I0 340 6) (dkTe (I0 345) (I0 340 6) (0)))) from y486)).trans (dkP_2 e512).symm)⟩ (lv_sub hl [0, 1] rfl)
                ·
                  have q513 : (dkTk (I0 345) (I0 340 6) (dkTe (I0 345) (I0 340 6) (dkTe (I0 345) (I0 340 6) (dkTe (I0 345) (I0 340 6) (dkTe (I0 345) (I0 340 6) (0)))))).toInt = (4 : Int) := by first | (rw [← xv477]; exact (congrArg Int32.toInt c478)) | (subst xv477; exact (congrArg Int32.toInt c478))
                  have d514 : dkN [(4, 4)] v477 := dkN_eq1 dv477 (dkN_lit (x := 4) (4) rfl) (congrArg Int32.toInt c478) rfl
                  have f515 : dkN [(4, 4)] (I476 340 11) := by rw [← ev477]; exact d514
                  refine lv_iconst (v := 1) hx hb dX6_town_98 (by decide) ?_
                  refine lv_goto (tgt := 103) hx hb dX6_town_99 (by decide) ?_
                  refine lv_iconst (v := 1) hx hb dX6_town_103 (by decide) ?_
                  refine dk_Vi (As := [.int 1, .int 1]) (rest := []) ⟨hx, hb, hml, hown, hts⟩ (fx_X6_takes_38 l g z I476 1 1 (dkN_lit (x := 1) (1) rfl) (dkN_lit (x := 1) (1) rfl) (show dkN [(-1, -1)] (I476 340 8) from dkN_sub (by rw [eI476, dkU_n (by decide)]; exact f412_340_8) rfl) hO) (cwV 2 hts gX6_town_X6_takes rfl rfl rfl (by decide +kernel) ⟨Nat.le_of_ble_eq_true rfl, Nat.le_of_ble_eq_true rfl⟩) (dk_at340 hW) rfl hK hT hW hS rfl hl.1 rfl (Nat.le_of_ble_eq_true rfl) dX6_town_104 ⟨Nat.zero_le _, Nat.zero_le _⟩ (fun v516 I516 H516 L516 hp516 hW hS => ?_)
                  obtain ⟨hF516, hO, hc516⟩ := hp516
                  have hF := dkF_call hF hF516 rfl
                  have hP := dkPP_F hP hF516 rfl
                  obtain ⟨_, f516_340_11, f516_340_8, x516_0, x516_1, xr516, xh516_0, xh516_1, xh516_2, xh516_3, xh516_4, xh516_5, -⟩ := hc516
                  have w517 : I476 340 8 = (-1) := ((by rw [eI476, dkU_n (by decide)] : I476 340 8 = _).trans y471)
                  have w518 : I476 340 7 = I0 340 7 := ((by rw [eI476, dkU_n (by decide)] : I476 340 7 = _).trans y470)
                  have y519 : I516 340 7 = I0 340 7 := by have h := xh516_0; rw [w518] at h; exact h
                  have y520 : I516 340 8 = (-1) := by have h := xh516_1; rw [w517] at h; exact h
                  have w521 : I476 345 = I0 345 := ((by rw [eI476, dkU_n (by decide)] : I476 345 = _).trans ((funext fun j => hF412 345 j (dkNin_k rfl dkNin_nil)).trans ((by rw [eI411, dkU_n (by decide)] : I411 345 = _).trans ((funext fun j => hF359 345 j (dkNin_k rfl dkNin_nil)).trans ((funext fun j => hF346 345 j (dkNin_k rfl dkNin_nil)).trans ((funext fun j => hF288 345 j (dkNin_k rfl dkNin_nil)).trans ((by rw [eI287, dkU_n (by decide)] : I287 345 = _).trans ((by rw [eI286, dkU_n (by decide)] : I286 345 = _).trans z2_0))))))))
                  have w522 : I476 340 6 = I0 340 6 := ((by rw [eI476, dkU_n (by decide)] : I476 340 6 = _).trans ((hF412 340 6 rfl).trans ((by rw [eI411, dkU_n (by decide)] : I411 340 6 = _).trans ((hF359 340 6 rfl).trans ((hF346 340 6 rfl).trans ((hF288 340 6 rfl).trans ((by rw [eI287, dkU_sn (by decide)] : I287 340 6 = _).trans ((by rw [eI286, dkU_sn (by decide)] : I286 340 6 = _).trans zp2_1))))))))
                  have w523 : I476 340 9 = dkTe (I0 345) (I0 340 6) (dkTe (I0 345) (I0 340 6) (dkTe (I0 345) (I0 340 6) (dkTe (I0 345) (I0 340 6) (dkTe (I0 345) (I0 340 6) (0))))) := ((by rw [eI476, dkU_n (by decide)] : I476 340 9 = _).trans y472)
                  have y524 : I516 340 9 = dkTe (I0 345) (I0 340 6) (dkTe (I0 345) (I0 340 6) (dkTe (I0 345) (I0 340 6) (dkTe (I0 345) (I0 340 6) (dkTe (I0 345) (I0 340 6) (dkTe (I0 345) (I0 340 6) (0)))))) := by have h := xh516_2; rw [w521, w522, w523] at h; exact h
                  have y525 : I516 340 10 = dkTe (I0 345) (I0 340 6) (dkTe (I0 345) (I0 340 6) (dkTe (I0 345) (I0 340 6) (dkTe (I0 345) (I0 340 6) (dkTe (I0 345) (I0 340 6) (0))))) := by have h := xh516_3; rw [w523] at h; exact h
                  have y526 : I516 340 11 = dkTk (I0 345) (I0 340 6) (dkTe (I0 345) (I0 340 6) (dkTe (I0 345) (I0 340 6) (dkTe (I0 345) (I0 340 6) (dkTe (I0 345) (I0 340 6) (dkTe (I0 345) (I0 340 6) (0)))))) := by have h := xh516_4; rw [w521, w522, w523] at h; exact h
                  have y527 : I516 340 12 = dkTv (I0 345) (I0 340 6) (dkTe (I0 345) (I0 340 6) (dkTe (I0 345) (I0 340 6) (dkTe (I0 345) (I0 340 6) (dkTe (I0 345) (I0 340 6) (dkTe (I0 345) (I0 340 6) (0)))))) := by have h := xh516_5; rw [w521, w522, w523] at h; exact h
                  have w528 : I476 340 12 = dkTv (I0 345) (I0 340 6) (dkTe (I0 345) (I0 340 6) (dkTe (I0 345) (I0 340 6) (dkTe (I0 345) (I0 340 6) (dkTe (I0 345) (I0 340 6) (0))))) := ((by rw [eI476, dkU_n (by decide)] : I476 340 12 = _).trans y475)
                  have xv516 : v516 = dkTv (I0 345) (I0 340 6) (dkTe (I0 345) (I0 340 6) (dkTe (I0 345) (I0 340 6) (dkTe (I0 345) (I0 340 6) (dkTe (I0 345) (I0 340 6) (0))))) := by have h := xr516; rw [w528] at h; exact h
                  refine lv_pop hx hb dX6_town_107 rfl ?_
                  refine lv_aload_n hx hb dX6_town_108 rfl (lv_at hl 0 rfl) ?_
                  refine lv_aload_n hx hb dX6_town_109 rfl (lv_at hl 0 rfl) ?_
                  refine dk_get (k := 340) hx hb hts iX6_town_6 hown hK (dk_at340 hW) rfl 11 (by decide) (hts (.fieldLink RX6 98 "DogKingsModel" "token" "I") (List.mem_of_getElem? (i := 4) rfl)) rfl dX6_town_110 ?_
                  refine lv_topi (fun v529 ev529 => ?_)
                  have dv529 : dkN [(0, 5)] v529 := by rw [ev529]; exact f516_340_11
                  have xv529 : v529 = dkTk (I0 345) (I0 340 6) (dkTe (I0 345) (I0 340 6) (dkTe (I0 345) (I0 340 6) (dkTe (I0 345) (I0 340 6) (dkTe (I0 345) (I0 340 6) (dkTe (I0 345) (I0 340 6) (0)))))) := ev529.trans y526
                  refine lv_iconst (v := 1) hx hb dX6_town_113 (by decide) ?_
                  refine lv_icmp_ne (tgt := 130) hx hb dX6_town_114 (by decide) (fun c530 => ?_) (fun c530 => ?_)
                  ·
                    have q531 : (dkTk (I0 345) (I0 340 6) (dkTe (I0 345) (I0 340 6) (dkTe (I0 345) (I0 340 6) (dkTe (I0 345) (I0 340 6) (dkTe (I0 345) (I0 340 6) (dkTe (I0 345) (I0 340 6) (0))))))).toInt ≠ (1 : Int) := by first | (rw [← xv529]; exact (dk_ne c530)) | (subst xv529; exact (dk_ne c530))
                    have d532 : dkN [(0, 0), (2, 5)] v529 := dkN_ne1 (1) dv529 (dkN_lit (x := 1) (1) rfl) (dk_ne c530) rfl
                    have f533 : dkN [(0, 0), (2, 5)] (I516 340 11) := by rw [← ev529]; exact d532
                    refine lv_iconst (v := 0) hx hb dX6_town_130 (by decide) ?_
                    refine dk_Vv (As := [.int 0]) (rest := []) ⟨hx, hb, hml, hown, hts⟩ (fx_X6_must_8 l g z I516 0 (dkN_lit (x := 0) (0) rfl) (show dkN [(-1, -1)] (I516 340 8) from dkN_sub f516_340_8 rfl) hO) (cwV 1 hts gX6_town_X6_must rfl rfl rfl (by decide +kernel) ⟨Nat.le_of_ble_eq_true rfl, Nat.le_of_ble_eq_true rfl⟩) (dk_at340 hW) rfl hK hT hW hS rfl hl.1 rfl (Nat.le_of_ble_eq_true rfl) dX6_town_131 ⟨Nat.zero_le _, Nat.zero_le _⟩ (fun I534 H534 L534 hp534 hW hS => ?_)
                    obtain ⟨hF534, hO, hc534⟩ := hp534
                    have hF := dkF_call hF hF534 rfl
                    have hP := dkPP_F hP hF534 rfl
                    obtain ⟨f534_340_7, f534_340_8, x534_0, x534_1, xh534_0, xh534_1, xh534_2, xh534_3, xh534_4, xh534_5, -⟩ := hc534
                    have w535 : I516 340 8 = (-1) := y520
                    have y536 : I534 340 7 = 1 := by have h := xh534_0; exact h
                    have w537 : I516 340 10 = dkTe (I0 345) (I0 340 6) (dkTe (I0 345) (I0 340 6) (dkTe (I0 345) (I0 340 6) (dkTe (I0 345) (I0 340 6) (dkTe (I0 345) (I0 340 6) (0))))) := y525
                    have y538 : I534 340 8 = dkTe (I0 345) (I0 340 6) (dkTe (I0 345) (I0 340 6) (dkTe (I0 345) (I0 340 6) (dkTe (I0 345) (I0 340 6) (dkTe (I0 345) (I0 340 6) (0))))) := by have h := xh534_1; rw [w537] at h; exact h
                    have w539 : I516 340 9 = dkTe (I0 345) (I0 340 6) (dkTe (I0 345) (I0 340 6) (dkTe (I0 345) (I0 340 6) (dkTe (I0 345) (I0 340 6) (dkTe (I0 345) (I0 340 6) (dkTe (I0 345) (I0 340 6) (0)))))) := y524
                    have y540 : I534 340 9 = dkTe (I0 345) (I0 340 6) (dkTe (I0 345) (I0 340 6) (dkTe (I0 345) (I0 340 6) (dkTe (I0 345) (I0 340 6) (dkTe (I0 345) (I0 340 6) (dkTe (I0 345) (I0 340 6) (0)))))) := by have h := xh534_2; rw [w539] at h; exact h
                    have y541 : I534 340 10 = dkTe (I0 345) (I0 340 6) (dkTe (I0 345) (I0 340 6) (dkTe (I0 345) (I0 340 6) (dkTe (I0 345) (I0 340 6) (dkTe (I0 345) (I0 340 6) (0))))) := by have h := xh534_3; rw [w537] at h; exact h
                    have w542 : I516 340 11 = dkTk (I0 345) (I0 340 6) (dkTe (I0 345) (I0 340 6) (dkTe (I0 345) (I0 340 6) (dkTe (I0 345) (I0 340 6) (dkTe (I0 345) (I0 340 6) (dkTe (I0 345) (I0 340 6) (0)))))) := y526
                    have y543 : I534 340 11 = dkTk (I0 345) (I0 340 6) (dkTe (I0 345) (I0 340 6) (dkTe (I0 345) (I0 340 6) (dkTe (I0 345) (I0 340 6) (dkTe (I0 345) (I0 340 6) (dkTe (I0 345) (I0 340 6) (0)))))) := by have h := xh534_4; rw [w542] at h; exact h
                    have w544 : I516 340 12 = dkTv (I0 345) (I0 340 6) (dkTe (I0 345) (I0 340 6) (dkTe (I0 345) (I0 340 6) (dkTe (I0 345) (I0 340 6) (dkTe (I0 345) (I0 340 6) (dkTe (I0 345) (I0 340 6) (0)))))) := y527
                    have y545 : I534 340 12 = dkTv (I0 345) (I0 340 6) (dkTe (I0 345) (I0 340 6) (dkTe (I0 345) (I0 340 6) (dkTe (I0 345) (I0 340 6) (dkTe (I0 345) (I0 340 6) (dkTe (I0 345) (I0 340 6) (0)))))) := by have h := xh534_5; rw [w544] at h; exact h
                    refine lv_aload_n hx hb dX6_town_134 rfl (lv_at hl 0 rfl) ?_
                    refine dk_Vi (As := []) (rest := []) ⟨hx, hb, hml, hown, hts⟩ (fx_X6_isWell_7 l g z I534 (show dkN [(0, 90)] (I534 340 8) from dkN_sub f534_340_8 rfl) hO) (cwV 0 hts gX6_town_X6_isWell rfl rfl rfl (by decide +kernel) ⟨Nat.le_of_ble_eq_true rfl, Nat.le_of_ble_eq_true rfl⟩) (dk_at340 hW) rfl hK hT hW hS rfl hl.1 rfl (Nat.le_of_ble_eq_true rfl) dX6_town_135 ⟨Nat.zero_le _, Nat.zero_le _⟩ (fun v546 I546 H546 L546 hp546 hW hS => ?_)
                    obtain ⟨hF546, hO, hc546⟩ := hp546
                    have hF := dkF_call hF hF546 rfl
                    have hP := dkPP_F hP hF546 rfl
                    have eI546 : I534 = I546 := (dkF_nil hF546).symm
                    subst eI546
                    obtain ⟨dv546, f546_340_8, x546_0, xr546, -⟩ := hc546
                    have w547 : I534 340 8 = dkTe (I0 345) (I0 340 6) (dkTe (I0 345) (I0 340 6) (dkTe (I0 345) (I0 340 6) (dkTe (I0 345) (I0 340 6) (dkTe (I0 345) (I0 340 6) (0))))) := y538
                    have q548 : (0 : Int) + 0 ≤ (dkTe (I0 345) (I0 340 6) (dkTe (I0 345) (I0 340 6) (dkTe (I0 345) (I0 340 6) (dkTe (I0 345) (I0 340 6) (dkTe (I0 345) (I0 340 6) (0)))))).toInt := by have h := x546_0; rw [w547] at h; exact h
                    have xv546 : v546 = 0 := by have h := xr546; exact h
                    refine lv_if_eq (tgt := 165) hx hb dX6_town_138 (by decide) (fun c549 => ?_) (fun c549 => ?_)
                    ·
                      refine lv_aload_n hx hb dX6_town_165 rfl (lv_at hl 0 rfl) ?_
                      refine dk_Vi (As := []) (rest := []) ⟨hx, hb, hml, hown, hts⟩ (fx_X6_isWell_7 l g z I534 (show dkN [(0, 90)] (I534 340 8) from dkN_sub f546_340_8 rfl) hO) (cwV 0 hts gX6_town_X6_isWell rfl rfl rfl (by decide +kernel) ⟨Nat.le_of_ble_eq_true rfl, Nat.le_of_ble_eq_true rfl⟩) (dk_at340 hW) rfl hK hT hW hS rfl hl.1 rfl (Nat.le_of_ble_eq_true rfl) dX6_town_166 ⟨Nat.zero_le _, Nat.zero_le _⟩ (fun v550 I550 H550 L550 hp550 hW hS => ?_)
                      obtain ⟨hF550, hO, hc550⟩ := hp550
                      have hF := dkF_call hF hF550 rfl
                      have hP := dkPP_F hP hF550 rfl
                      have eI550 : I534 = I550 := (dkF_nil hF550).symm
                      subst eI550
                      obtain ⟨dv550, f550_340_8, x550_0, xr550, -⟩ := hc550
                      have w551 : I534 340 8 = dkTe (I0 345) (I0 340 6) (dkTe (I0 345) (I0 340 6) (dkTe (I0 345) (I0 340 6) (dkTe (I0 345) (I0 340 6) (dkTe (I0 345) (I0 340 6) (0))))) := ((hF546 340 8 rfl).trans y538)
                      have xv550 : v550 = 0 := by have h := xr550; exact h
                      refine lv_if_eq (tgt := 197) hx hb dX6_town_169 (by decide) (fun c552 => ?_) (fun c552 => ?_)
                      ·
                        have i0 : (0 : Int32).toInt = 0 := rfl
                        have i1 : (1 : Int32).toInt = 1 := rfl
                        have i2 : (2 : Int32).toInt = 2 := rfl
                        have i3 : (3 : Int32).toInt = 3 := rfl
                        have i9 : (9 : Int32).toInt = 9 := rfl
                        have i30 : (30 : Int32).toInt = 30 := rfl
                        have i44 : (44 : Int32).toInt = 44 := rfl
                        have i59 : (59 : Int32).toInt = 59 := rfl
                        have i109 : (109 : Int32).toInt = 109 := rfl
                        have i116 : (116 : Int32).toInt = 116 := rfl
                        have hlw : dkLw (I0 345) (I0 340 6) 0 = (0, dkTe (I0 345) (I0 340 6) (dkTe (I0 345) (I0 340 6) (dkTe (I0 345) (I0 340 6) (dkTe (I0 345) (I0 340 6) (dkTe (I0 345) (I0 340 6) (0)))))) := ((dkTh_p (dkK_l (T := (I0 345)) (n := (I0 340 6)) (a := 0) (c := 116) q318 (by omega))).trans ((dkTh_p (dkK_0 (T := (I0 345)) (n := (I0 340 6)) (a := dkTe (I0 345) (I0 340 6) (0)) (lo := 3) (hi := 9) q397 (by omega) (by omega))).trans ((dkTh_p (dkK_c (T := (I0 345)) (n := (I0 340 6)) (a := dkTe (I0 345) (I0 340 6) (dkTe (I0 345) (I0 340 6) (0))) q461)).trans ((dkTh_p (dkK_0 (T := (I0 345)) (n := (I0 340 6)) (a := dkTe (I0 345) (I0 340 6) (dkTe (I0 345) (I0 340 6) (dkTe (I0 345) (I0 340 6) (0)))) (lo := 1) (hi := 30) q466 (by omega) (by omega))).trans (dkK_s (T := (I0 345)) (n := (I0 340 6)) (a := dkTe (I0 345) (I0 340 6) (dkTe (I0 345) (I0 340 6) (dkTe (I0 345) (I0 340 6) (dkTe (I0 345) (I0 340 6) (0))))) q513)))))
                        have hhh : dkHh (I0 345) (I0 340 6) = (dkTv (I0 345) (I0 340 6) (dkTe (I0 345) (I0 340 6) (0))) := (by unfold dkHh; rw [show dkSg (I0 345) (I0 340 6) 116 0 = (0, dkTe (I0 345) (I0 340 6) (0)) from dkK_l (T := (I0 345)) (n := (I0 340 6)) (a := 0) (c := 116) q318 (by omega)]; exact (dkK_v (T := (I0 345)) (n := (I0 340 6)) (a := dkTe (I0 345) (I0 340 6) (0)) (by omega)).symm)
                        have e553 : dkTw (I0 345) (I0 340 6) = (1, dkTe (I0 345) (I0 340 6) (dkTe (I0 345) (I0 340 6) (dkTe (I0 345) (I0 340 6) (dkTe (I0 345) (I0 340 6) (dkTe (I0 345) (I0 340 6) (0)))))) := dkTw_p hlw hhh (dkPs_1 (dkK_ln (T := (I0 345)) (n := (I0 340 6)) (a := dkTe (I0 345) (I0 340 6) (dkTe (I0 345) (I0 340 6) (dkTe (I0 345) (I0 340 6) (dkTe (I0 345) (I0 340 6) (dkTe (I0 345) (I0 340 6) (0)))))) (c := 109) (by omega) (by omega))) (by decide)
                        exact C197 I534 _ _ ls x2_1 hW hS hF hO hP (dkN_sub d285 rfl) (show dkN [(1, 3)] (I534 340 7) from dkN_sub (by rw [hF550 340 7 rfl]; exact (by rw [hF546 340 7 rfl]; exact f534_340_7)) rfl) (show dkN [(0, 90)] (I534 340 8) from dkN_sub f550_340_8 rfl) (show dkN [(0, 0), (3, 9)] (I534 347 0) from dkN_sub (by rw [hF550 347 0 rfl]; exact (by rw [hF546 347 0 rfl]; exact (by rw [hF534 347 0 rfl]; exact (by rw [hF516 347 0 rfl]; exact (by rw [eI476, dkU_sn (by decide)]; exact (by rw [hF412 347 0 rfl]; exact (by rw [eI411, dkU_ss]; exact dv359))))))) rfl) ((funext fun j => hF550 345 j dkNin_nil).trans ((funext fun j => hF546 345 j dkNin_nil).trans ((funext fun j => hF534 345 j (dkNin_k rfl dkNin_nil)).trans ((funext fun j => hF516 345 j (dkNin_k rfl dkNin_nil)).trans ((by rw [eI476, dkU_n (by decide)] : I476 345 = _).trans ((funext fun j => hF412 345 j (dkNin_k rfl dkNin_nil)).trans ((by rw [eI411, dkU_n (by decide)] : I411 345 = _).trans ((funext fun j => hF359 345 j (dkNin_k rfl dkNin_nil)).trans ((funext fun j => hF346 345 j (dkNin_k rfl dkNin_nil)).trans ((funext fun j => hF288 345 j (dkNin_k rfl dkNin_nil)).trans ((by rw [eI287, dkU_n (by decide)] : I287 345 = _).trans ((by rw [eI286, dkU_n (by decide)] : I286 345 = _).trans z2_0)))))))))))) ((funext fun j => hF550 346 j dkNin_nil).trans ((funext fun j => hF546 346 j dkNin_nil).trans ((funext fun j => hF534 346 j (dkNin_k rfl dkNin_nil)).trans ((funext fun j => hF516 346 j (dkNin_k rfl dkNin_nil)).trans ((by rw [eI476, dkU_n (by decide)] : I476 346 = _).trans ((funext fun j => hF412 346 j (dkNin_k rfl dkNin_nil)).trans ((by rw [eI411, dkU_n (by decide)] : I411 346 = _).trans ((funext fun j => hF359 346 j (dkNin_k rfl dkNin_nil)).trans ((funext fun j => hF346 346 j (dkNin_k rfl dkNin_nil)).trans ((funext fun j => hF288 346 j (dkNin_k rfl dkNin_nil)).trans ((by rw [eI287, dkU_n (by decide)] : I287 346 = _).trans ((by rw [eI286, dkU_n (by decide)] : I286 346 = _).trans z2_1)))))))))))) ((hF550 340 17 rfl).trans ((hF546 340 17 rfl).trans ((hF534 340 17 rfl).trans ((hF516 340 17 rfl).trans ((by rw [eI476, dkU_n (by decide)] : I476 340 17 = _).trans ((hF412 340 17 rfl).trans ((by rw [eI411, dkU_n (by decide)] : I411 340 17 = _).trans ((hF359 340 17 rfl).trans ((hF346 340 17 rfl).trans ((hF288 340 17 rfl).trans ((by rw [eI287, dkU_sn (by decide)] : I287 340 17 = _).trans ((by rw [eI286, dkU_sn (by decide)] : I286 340 17 = _).trans zp2_0)))))))))))) ((hF550 340 6 rfl).trans ((hF546 340 6 rfl).trans ((hF534 340 6 rfl).trans ((hF516 340 6 rfl).trans ((by rw [eI476, dkU_n (by decide)] : I476 340 6 = _).trans ((hF412 340 6 rfl).trans ((by rw [eI411, dkU_n (by decide)] : I411 340 6 = _).trans ((hF359 340 6 rfl).trans ((hF346 340 6 rfl).trans ((hF288 340 6 rfl).trans ((by rw [eI287, dkU_sn (by decide)] : I287 340 6 = _).trans ((by rw [eI286, dkU_sn (by decide)] : I286 340 6 = _).trans zp2_1)))))))))))) ((hF550 346 0 rfl).trans ((hF546 346 0 rfl).trans ((hF534 346 0 rfl).trans ((hF516 346 0 rfl).trans ((by rw [eI476, dkU_n (by decide)] : I476 346 0 = _).trans ((hF412 346 0 rfl).trans ((by rw [eI411, dkU_n (by decide)] : I411 346 0 = _).trans ((hF359 346 0 rfl).trans ((hF346 346 0 rfl).trans ((hF288 346 0 rfl).trans ((by rw [eI287, dkU_n (by decide)] : I287 346 0 = _).trans ((by rw [eI286, dkU_n (by decide)] : I286 346 0 = _).trans (by rw [z2_1]))))))))))))) ((hF550 346 4 rfl).trans ((hF546 346 4 rfl).trans ((hF534 346 4 rfl).trans ((hF516 346 4 rfl).trans ((by rw [eI476, dkU_n (by decide)] : I476 346 4 = _).trans ((hF412 346 4 rfl).trans ((by rw [eI411, dkU_n (by decide)] : I411 346 4 = _).trans ((hF359 346 4 rfl).trans ((hF346 346 4 rfl).trans ((hF288 346 4 rfl).trans ((by rw [eI287, dkU_n (by decide)] : I287 346 4 = _).trans ((by rw [eI286, dkU_n (by decide)] : I286 346 4 = _).trans (by rw [z2_1]))))))))))))) ((hF550 346 5 rfl).trans ((hF546 346 5 rfl).trans ((hF534 346 5 rfl).trans ((hF516 346 5 rfl).trans ((by rw [eI476, dkU_n (by decide)] : I476 346 5 = _).trans ((hF412 346 5 rfl).trans ((by rw [eI411, dkU_n (by decide)] : I411 346 5 = _).trans ((hF359 346 5 rfl).trans ((hF346 346 5 rfl).trans ((hF288 346 5 rfl).trans ((by rw [eI287, dkU_n (by decide)] : I287 346 5 = _).trans ((by rw [eI286, dkU_n (by decide)] : I286 346 5 = _).trans (by rw [z2_1]))))))))))))) ⟨(dkE_k e553 (by decide)), (((show I534 340 7 = 1 from ((hF550 340 7 rfl).trans ((hF546 340 7 rfl).trans y536)))).trans (dkP_1 e553).symm), (((show I534 340 8 = dkTe (I0 345) (I0 340 6) (dkTe (I0 345) (I0 340 6) (dkTe (I0 345) (I0 340 6) (dkTe (I0 345) (I0 340 6) (dkTe (I0 345) (I0 340 6) (0))))) from ((hF550 340 8 rfl).trans ((hF546 340 8 rfl).trans y538)))).trans (dkP_2 e553).symm)⟩ (lv_sub hl [0, 1] rfl)
                      ·
                        exact absurd ((xv550).trans (rfl).symm) c552
                    ·
                      exact absurd ((xv546).trans (rfl).symm) c549
                  ·
                    have q554 : (dkTk (I0 345) (I0 340 6) (dkTe (I0 345) (I0 340 6) (dkTe (I0 345) (I0 340 6) (dkTe (I0 345) (I0 340 6) (dkTe (I0 345) (I0 340 6) (dkTe (I0 345) (I0 340 6) (0))))))).toInt = (1 : Int) := by first | (rw [← xv529]; exact (congrArg Int32.toInt c530)) | (subst xv529; exact (congrArg Int32.toInt c530))
                    have d555 : dkN [(1, 1)] v529 := dkN_eq1 dv529 (dkN_lit (x := 1) (1) rfl) (congrArg Int32.toInt c530) rfl
                    have f556 : dkN [(1, 1)] (I516 340 11) := by rw [← ev529]; exact d555
                    refine lv_aload_n hx hb dX6_town_117 rfl (lv_at hl 0 rfl) ?_
                    refine dk_get (k := 340) hx hb hts iX6_town_6 hown hK (dk_at340 hW) rfl 12 (by decide) (hts (.fieldLink RX6 95 "DogKingsModel" "value" "I") (List.mem_of_getElem? (i := 5) rfl)) rfl dX6_town_118 ?_
                    refine lv_topi (fun v557 ev557 => ?_)
                    have xv557 : v557 = dkTv (I0 345) (I0 340 6) (dkTe (I0 345) (I0 340 6) (dkTe (I0 345) (I0 340 6) (dkTe (I0 345) (I0 340 6) (dkTe (I0 345) (I0 340 6) (dkTe (I0 345) (I0 340 6) (0)))))) := ev557.trans y527
                    refine lv_bipush (v := 109) hx hb dX6_town_121 (by decide) ?_
                    refine lv_icmp_ne (tgt := 130) hx hb dX6_town_123 (by decide) (fun c558 => ?_) (fun c558 => ?_)
                    ·
                      have q559 : (dkTv (I0 345) (I0 340 6) (dkTe (I0 345) (I0 340 6) (dkTe (I0 345) (I0 340 6) (dkTe (I0 345) (I0 340 6) (dkTe (I0 345) (I0 340 6) (dkTe (I0 345) (I0 340 6) (0))))))).toInt ≠ (109 : Int) := by first | (rw [← xv557]; exact (dk_ne c558)) | (subst xv557; exact (dk_ne c558))
                      have d560 : dkN [(-2147483648, 108), (110, 2147483647)] v557 := dkN_ne1 (109) (dkN_top v557) (dkN_lit (x := 109) (109) rfl) (dk_ne c558) rfl
                      have f561 : dkN [(-2147483648, 108), (110, 2147483647)] (I516 340 12) := by rw [← ev557]; exact d560
                      refine lv_iconst (v := 0) hx hb dX6_town_130 (by decide) ?_
                      refine dk_Vv (As := [.int 0]) (rest := []) ⟨hx, hb, hml, hown, hts⟩ (fx_X6_must_8 l g z I516 0 (dkN_lit (x := 0) (0) rfl) (show dkN [(-1, -1)] (I516 340 8) from dkN_sub f516_340_8 rfl) hO) (cwV 1 hts gX6_town_X6_must rfl rfl rfl (by decide +kernel) ⟨Nat.le_of_ble_eq_true rfl, Nat.le_of_ble_eq_true rfl⟩) (dk_at340 hW) rfl hK hT hW hS rfl hl.1 rfl (Nat.le_of_ble_eq_true rfl) dX6_town_131 ⟨Nat.zero_le _, Nat.zero_le _⟩ (fun I562 H562 L562 hp562 hW hS => ?_)
                      obtain ⟨hF562, hO, hc562⟩ := hp562
                      have hF := dkF_call hF hF562 rfl
                      have hP := dkPP_F hP hF562 rfl
                      obtain ⟨f562_340_7, f562_340_8, x562_0, x562_1, xh562_0, xh562_1, xh562_2, xh562_3, xh562_4, xh562_5, -⟩ := hc562
                      have w563 : I516 340 8 = (-1) := y520
                      have y564 : I562 340 7 = 1 := by have h := xh562_0; exact h
                      have w565 : I516 340 10 = dkTe (I0 345) (I0 340 6) (dkTe (I0 345) (I0 340 6) (dkTe (I0 345) (I0 340 6) (dkTe (I0 345) (I0 340 6) (dkTe (I0 345) (I0 340 6) (0))))) := y525
                      have y566 : I562 340 8 = dkTe (I0 345) (I0 340 6) (dkTe (I0 345) (I0 340 6) (dkTe (I0 345) (I0 340 6) (dkTe (I0 345) (I0 340 6) (dkTe (I0 345) (I0 340 6) (0))))) := by have h := xh562_1; rw [w565] at h; exact h
                      have w567 : I516 340 9 = dkTe (I0 345) (I0 340 6) (dkTe (I0 345) (I0 340 6) (dkTe (I0 345) (I0 340 6) (dkTe (I0 345) (I0 340 6) (dkTe (I0 345) (I0 340 6) (dkTe (I0 345) (I0 340 6) (0)))))) := y524
                      have y568 : I562 340 9 = dkTe (I0 345) (I0 340 6) (dkTe (I0 345) (I0 340 6) (dkTe (I0 345) (I0 340 6) (dkTe (I0 345) (I0 340 6) (dkTe (I0 345) (I0 340 6) (dkTe (I0 345) (I0 340 6) (0)))))) := by have h := xh562_2; rw [w567] at h; exact h
                      have y569 : I562 340 10 = dkTe (I0 345) (I0 340 6) (dkTe (I0 345) (I0 340 6) (dkTe (I0 345) (I0 340 6) (dkTe (I0 345) (I0 340 6) (dkTe (I0 345) (I0 340 6) (0))))) := by have h := xh562_3; rw [w565] at h; exact h
                      have w570 : I516 340 11 = dkTk (I0 345) (I0 340 6) (dkTe (I0 345) (I0 340 6) (dkTe (I0 345) (I0 340 6) (dkTe (I0 345) (I0 340 6) (dkTe (I0 345) (I0 340 6) (dkTe (I0 345) (I0 340 6) (0)))))) := y526
                      have y571 : I562 340 11 = dkTk (I0 345) (I0 340 6) (dkTe (I0 345) (I0 340 6) (dkTe (I0 345) (I0 340 6) (dkTe (I0 345) (I0 340 6) (dkTe (I0 345) (I0 340 6) (dkTe (I0 345) (I0 340 6) (0)))))) := by have h := xh562_4; rw [w570] at h; exact h
                      have w572 : I516 340 12 = dkTv (I0 345) (I0 340 6) (dkTe (I0 345) (I0 340 6) (dkTe (I0 345) (I0 340 6) (dkTe (I0 345) (I0 340 6) (dkTe (I0 345) (I0 340 6) (dkTe (I0 345) (I0 340 6) (0)))))) := y527
                      have y573 : I562 340 12 = dkTv (I0 345) (I0 340 6) (dkTe (I0 345) (I0 340 6) (dkTe (I0 345) (I0 340 6) (dkTe (I0 345) (I0 340 6) (dkTe (I0 345) (I0 340 6) (dkTe (I0 345) (I0 340 6) (0)))))) := by have h := xh562_5; rw [w572] at h; exact h
                      refine lv_aload_n hx hb dX6_town_134 rfl (lv_at hl 0 rfl) ?_
                      refine dk_Vi (As := []) (rest := []) ⟨hx, hb, hml, hown, hts⟩ (fx_X6_isWell_7 l g z I562 (show dkN [(0, 90)] (I562 340 8) from dkN_sub f562_340_8 rfl) hO) (cwV 0 hts gX6_town_X6_isWell rfl rfl rfl (by decide +kernel) ⟨Nat.le_of_ble_eq_true rfl, Nat.le_of_ble_eq_true rfl⟩) (dk_at340 hW) rfl hK hT hW hS rfl hl.1 rfl (Nat.le_of_ble_eq_true rfl) dX6_town_135 ⟨Nat.zero_le _, Nat.zero_le _⟩ (fun v574 I574 H574 L574 hp574 hW hS => ?_)
                      obtain ⟨hF574, hO, hc574⟩ := hp574
                      have hF := dkF_call hF hF574 rfl
                      have hP := dkPP_F hP hF574 rfl
                      have eI574 : I562 = I574 := (dkF_nil hF574).symm
                      subst eI574
                      obtain ⟨dv574, f574_340_8, x574_0, xr574, -⟩ := hc574
                      have w575 : I562 340 8 = dkTe (I0 345) (I0 340 6) (dkTe (I0 345) (I0 340 6) (dkTe (I0 345) (I0 340 6) (dkTe (I0 345) (I0 340 6) (dkTe (I0 345) (I0 340 6) (0))))) := y566
                      have q576 : (0 : Int) + 0 ≤ (dkTe (I0 345) (I0 340 6) (dkTe (I0 345) (I0 340 6) (dkTe (I0 345) (I0 340 6) (dkTe (I0 345) (I0 340 6) (dkTe (I0 345) (I0 340 6) (0)))))).toInt := by have h := x574_0; rw [w575] at h; exact h
                      have xv574 : v574 = 0 := by have h := xr574; exact h
                      refine lv_if_eq (tgt := 165) hx hb dX6_town_138 (by decide) (fun c577 => ?_) (fun c577 => ?_)
                      ·
                        refine lv_aload_n hx hb dX6_town_165 rfl (lv_at hl 0 rfl) ?_
                        refine dk_Vi (As := []) (rest := []) ⟨hx, hb, hml, hown, hts⟩ (fx_X6_isWell_7 l g z I562 (show dkN [(0, 90)] (I562 340 8) from dkN_sub f574_340_8 rfl) hO) (cwV 0 hts gX6_town_X6_isWell rfl rfl rfl (by decide +kernel) ⟨Nat.le_of_ble_eq_true rfl, Nat.le_of_ble_eq_true rfl⟩) (dk_at340 hW) rfl hK hT hW hS rfl hl.1 rfl (Nat.le_of_ble_eq_true rfl) dX6_town_166 ⟨Nat.zero_le _, Nat.zero_le _⟩ (fun v578 I578 H578 L578 hp578 hW hS => ?_)
                        obtain ⟨hF578, hO, hc578⟩ := hp578
                        have hF := dkF_call hF hF578 rfl
                        have hP := dkPP_F hP hF578 rfl
                        have eI578 : I562 = I578 := (dkF_nil hF578).symm
                        subst eI578
                        obtain ⟨dv578, f578_340_8, x578_0, xr578, -⟩ := hc578
                        have w579 : I562 340 8 = dkTe (I0 345) (I0 340 6) (dkTe (I0 345) (I0 340 6) (dkTe (I0 345) (I0 340 6) (dkTe (I0 345) (I0 340 6) (dkTe (I0 345) (I0 340 6) (0))))) := ((hF574 340 8 rfl).trans y566)
                        have xv578 : v578 = 0 := by have h := xr578; exact h
                        refine lv_if_eq (tgt := 197) hx hb dX6_town_169 (by decide) (fun c580 => ?_) (fun c580 => ?_)
                        ·
                          have i0 : (0 : Int32).toInt = 0 := rfl
                          have i1 : (1 : Int32).toInt = 1 := rfl
                          have i2 : (2 : Int32).toInt = 2 := rfl
                          have i3 : (3 : Int32).toInt = 3 := rfl
                          have i9 : (9 : Int32).toInt = 9 := rfl
                          have i30 : (30 : Int32).toInt = 30 := rfl
                          have i44 : (44 : Int32).toInt = 44 := rfl
                          have i59 : (59 : Int32).toInt = 59 := rfl
                          have i109 : (109 : Int32).toInt = 109 := rfl
                          have i116 : (116 : Int32).toInt = 116 := rfl
                          have hlw : dkLw (I0 345) (I0 340 6) 0 = (0, dkTe (I0 345) (I0 340 6) (dkTe (I0 345) (I0 340 6) (dkTe (I0 345) (I0 340 6) (dkTe (I0 345) (I0 340 6) (dkTe (I0 345) (I0 340 6) (0)))))) := ((dkTh_p (dkK_l (T := (I0 345)) (n := (I0 340 6)) (a := 0) (c := 116) q318 (by omega))).trans ((dkTh_p (dkK_0 (T := (I0 345)) (n := (I0 340 6)) (a := dkTe (I0 345) (I0 340 6) (0)) (lo := 3) (hi := 9) q397 (by omega) (by omega))).trans ((dkTh_p (dkK_c (T := (I0 345)) (n := (I0 340 6)) (a := dkTe (I0 345) (I0 340 6) (dkTe (I0 345) (I0 340 6) (0))) q461)).trans ((dkTh_p (dkK_0 (T := (I0 345)) (n := (I0 340 6)) (a := dkTe (I0 345) (I0 340 6) (dkTe (I0 345) (I0 340 6) (dkTe (I0 345) (I0 340 6) (0)))) (lo := 1) (hi := 30) q466 (by omega) (by omega))).trans (dkK_s (T := (I0 345)) (n := (I0 340 6)) (a := dkTe (I0 345) (I0 340 6) (dkTe (I0 345) (I0 340 6) (dkTe (I0 345) (I0 340 6) (dkTe (I0 345) (I0 340 6) (0))))) q513)))))
                          have hhh : dkHh (I0 345) (I0 340 6) = (dkTv (I0 345) (I0 340 6) (dkTe (I0 345) (I0 340 6) (0))) := (by unfold dkHh; rw [show dkSg (I0 345) (I0 340 6) 116 0 = (0, dkTe (I0 345) (I0 340 6) (0)) from dkK_l (T := (I0 345)) (n := (I0 340 6)) (a := 0) (c := 116) q318 (by omega)]; exact (dkK_v (T := (I0 345)) (n := (I0 340 6)) (a := dkTe (I0 345) (I0 340 6) (0)) (by omega)).symm)
                          have e581 : dkTw (I0 345) (I0 340 6) = (1, dkTe (I0 345) (I0 340 6) (dkTe (I0 345) (I0 340 6) (dkTe (I0 345) (I0 340 6) (dkTe (I0 345) (I0 340 6) (dkTe (I0 345) (I0 340 6) (0)))))) := dkTw_p hlw hhh (dkPs_1 (dkK_ln (T := (I0 345)) (n := (I0 340 6)) (a := dkTe (I0 345) (I0 340 6) (dkTe (I0 345) (I0 340 6) (dkTe (I0 345) (I0 340 6) (dkTe (I0 345) (I0 340 6) (dkTe (I0 345) (I0 340 6) (0)))))) (c := 109) (by omega) (by omega))) (by decide)
                          exact C197 I562 _ _ ls x2_1 hW hS hF hO hP (dkN_sub d285 rfl) (show dkN [(1, 3)] (I562 340 7) from dkN_sub (by rw [hF578 340 7 rfl]; exact (by rw [hF574 340 7 rfl]; exact f562_340_7)) rfl) (show dkN [(0, 90)] (I562 340 8) from dkN_sub f578_340_8 rfl) (show dkN [(0, 0), (3, 9)] (I562 347 0) from dkN_sub (by rw [hF578 347 0 rfl]; exact (by rw [hF574 347 0 rfl]; exact (by rw [hF562 347 0 rfl]; exact (by rw [hF516 347 0 rfl]; exact (by rw [eI476, dkU_sn (by decide)]; exact (by rw [hF412 347 0 rfl]; exact (by rw [eI411, dkU_ss]; exact dv359))))))) rfl) ((funext fun j => hF578 345 j dkNin_nil).trans ((funext fun j => hF574 345 j dkNin_nil).trans ((funext fun j => hF562 345 j (dkNin_k rfl dkNin_nil)).trans ((funext fun j => hF516 345 j (dkNin_k rfl dkNin_nil)).trans ((by rw [eI476, dkU_n (by decide)] : I476 345 = _).trans ((funext fun j => hF412 345 j (dkNin_k rfl dkNin_nil)).trans ((by rw [eI411, dkU_n (by decide)] : I411 345 = _).trans ((funext fun j => hF359 345 j (dkNin_k rfl dkNin_nil)).trans ((funext fun j => hF346 345 j (dkNin_k rfl dkNin_nil)).trans ((funext fun j => hF288 345 j (dkNin_k rfl dkNin_nil)).trans ((by rw [eI287, dkU_n (by decide)] : I287 345 = _).trans ((by rw [eI286, dkU_n (by decide)] : I286 345 = _).trans z2_0)))))))))))) ((funext fun j => hF578 346 j dkNin_nil).trans ((funext fun j => hF574 346 j dkNin_nil).trans ((funext fun j => hF562 346 j (dkNin_k rfl dkNin_nil)).trans ((funext fun j => hF516 346 j (dkNin_k rfl dkNin_nil)).trans ((by rw [eI476, dkU_n (by decide)] : I476 346 = _).trans ((funext fun j => hF412 346 j (dkNin_k rfl dkNin_nil)).trans ((by rw [eI411, dkU_n (by decide)] : I411 346 = _).trans ((funext fun j => hF359 346 j (dkNin_k rfl dkNin_nil)).trans ((funext fun j => hF346 346 j (dkNin_k rfl dkNin_nil)).trans ((funext fun j => hF288 346 j (dkNin_k rfl dkNin_nil)).trans ((by rw [eI287, dkU_n (by decide)] : I287 346 = _).trans ((by rw [eI286, dkU_n (by decide)] : I286 346 = _).trans z2_1)))))))))))) ((hF578 340 17 rfl).trans ((hF574 340 17 rfl).trans ((hF562 340 17 rfl).trans ((hF516 340 17 rfl).trans ((by rw [eI476, dkU_n (by decide)] : I476 340 17 = _).trans ((hF412 340 17 rfl).trans ((by rw [eI411, dkU_n (by decide)] : I411 340 17 = _).trans ((hF359 340 17 rfl).trans ((hF346 340 17 rfl).trans ((hF288 340 17 rfl).trans ((by rw [eI287, dkU_sn (by decide)] : I287 340 17 = _).trans ((by rw [eI286, dkU_sn (by decide)] : I286 340 17 = _).trans zp2_0)))))))))))) ((hF578 340 6 rfl).trans ((hF574 340 6 rfl).trans ((hF562 340 6 rfl).trans ((hF516 340 6 rfl).trans ((by rw [eI476, dkU_n (by decide)] : I476 340 6 = _).trans ((hF412 340 6 rfl).trans ((by rw [eI411, dkU_n (by decide)] : I411 340 6 = _).trans ((hF359 340 6 rfl).trans ((hF346 340 6 rfl).trans ((hF288 340 6 rfl).trans ((by rw [eI287, dkU_sn (by decide)] : I287 340 6 = _).trans ((by rw [eI286, dkU_sn (by decide)] : I286 340 6 = _).trans zp2_1)))))))))))) ((hF578 346 0 rfl).trans ((hF574 346 0 rfl).trans ((hF562 346 0 rfl).trans ((hF516 346 0 rfl).trans ((by rw [eI476, dkU_n (by decide)] : I476 346 0 = _).trans ((hF412 346 0 rfl).trans ((by rw [eI411, dkU_n (by decide)] : I411 346 0 = _).trans ((hF359 346 0 rfl).trans ((hF346 346 0 rfl).trans ((hF288 346 0 rfl).trans ((by rw [eI287, dkU_n (by decide)] : I287 346 0 = _).trans ((by rw [eI286, dkU_n (by decide)] : I286 346 0 = _).trans (by rw [z2_1]))))))))))))) ((hF578 346 4 rfl).trans ((hF574 346 4 rfl).trans ((hF562 346 4 rfl).trans ((hF516 346 4 rfl).trans ((by rw [eI476, dkU_n (by decide)] : I476 346 4 = _).trans ((hF412 346 4 rfl).trans ((by rw [eI411, dkU_n (by decide)] : I411 346 4 = _).trans ((hF359 346 4 rfl).trans ((hF346 346 4 rfl).trans ((hF288 346 4 rfl).trans ((by rw [eI287, dkU_n (by decide)] : I287 346 4 = _).trans ((by rw [eI286, dkU_n (by decide)] : I286 346 4 = _).trans (by rw [z2_1]))))))))))))) ((hF578 346 5 rfl).trans ((hF574 346 5 rfl).trans ((hF562 346 5 rfl).trans ((hF516 346 5 rfl).trans ((by rw [eI476, dkU_n (by decide)] : I476 346 5 = _).trans ((hF412 346 5 rfl).trans ((by rw [eI411, dkU_n (by decide)] : I411 346 5 = _).trans ((hF359 346 5 rfl).trans ((hF346 346 5 rfl).trans ((hF288 346 5 rfl).trans ((by rw [eI287, dkU_n (by decide)] : I287 346 5 = _).trans ((by rw [eI286, dkU_n (by decide)] : I286 346 5 = _).trans (by rw [z2_1]))))))))))))) ⟨(dkE_k e581 (by decide)), (((show I562 340 7 = 1 from ((hF578 340 7 rfl).trans ((hF574 340 7 rfl).trans y564)))).trans (dkP_1 e581).symm), (((show I562 340 8 = dkTe (I0 345) (I0 340 6) (dkTe (I0 345) (I0 340 6) (dkTe (I0 345) (I0 340 6) (dkTe (I0 345) (I0 340 6) (dkTe (I0 345) (I0 340 6) (0))))) from ((hF578 340 8 rfl).trans ((hF574 340 8 rfl).trans y566)))).trans (dkP_2 e581).symm)⟩ (lv_sub hl [0, 1] rfl)
                        ·
                          exact absurd ((xv578).trans (rfl).symm) c580
                      ·
                        exact absurd ((xv574).trans (rfl).symm) c577
                    ·
                      have q582 : (dkTv (I0 345) (I0 340 6) (dkTe (I0 345) (I0 340 6) (dkTe (I0 345) (I0 340 6) (dkTe (I0 345) (I0 340 6) (dkTe (I0 345) (I0 340 6) (dkTe (I0 345) (I0 340 6) (0))))))).toInt = (109 : Int) := by first | (rw [← xv557]; exact (congrArg Int32.toInt c558)) | (subst xv557; exact (congrArg Int32.toInt c558))
                      have d583 : dkN [(109, 109)] v557 := dkN_eq1 (dkN_top v557) (dkN_lit (x := 109) (109) rfl) (congrArg Int32.toInt c558) rfl
                      have f584 : dkN [(109, 109)] (I516 340 12) := by rw [← ev557]; exact d583
                      refine lv_iconst (v := 1) hx hb dX6_town_126 (by decide) ?_
                      refine lv_goto (tgt := 131) hx hb dX6_town_127 (by decide) ?_
                      refine dk_Vv (As := [.int 1]) (rest := []) ⟨hx, hb, hml, hown, hts⟩ (fx_X6_must_9 l g z I516 1 (dkN_lit (x := 1) (1) rfl) (show dkN [(-1, -1)] (I516 340 8) from dkN_sub f516_340_8 rfl) hO) (cwV 1 hts gX6_town_X6_must rfl rfl rfl (by decide +kernel) ⟨Nat.le_of_ble_eq_true rfl, Nat.le_of_ble_eq_true rfl⟩) (dk_at340 hW) rfl hK hT hW hS rfl hl.1 rfl (Nat.le_of_ble_eq_true rfl) dX6_town_131 ⟨Nat.zero_le _, Nat.zero_le _⟩ (fun I585 H585 L585 hp585 hW hS => ?_)
                      obtain ⟨hF585, hO, hc585⟩ := hp585
                      have hF := dkF_call hF hF585 rfl
                      have hP := dkPP_F hP hF585 rfl
                      have eI585 : I516 = I585 := (dkF_nil hF585).symm
                      subst eI585
                      obtain ⟨f585_340_8, x585_0, x585_1, xh585_0, xh585_1, xh585_2, xh585_3, xh585_4, xh585_5, -⟩ := hc585
                      have w586 : I516 340 8 = (-1) := y520
                      refine lv_aload_n hx hb dX6_town_134 rfl (lv_at hl 0 rfl) ?_
                      refine dk_Vi (As := []) (rest := []) ⟨hx, hb, hml, hown, hts⟩ (fx_X6_isWell_6 l g z I516 (show dkN [(-1, -1)] (I516 340 8) from dkN_sub f585_340_8 rfl) hO) (cwV 0 hts gX6_town_X6_isWell rfl rfl rfl (by decide +kernel) ⟨Nat.le_of_ble_eq_true rfl, Nat.le_of_ble_eq_true rfl⟩) (dk_at340 hW) rfl hK hT hW hS rfl hl.1 rfl (Nat.le_of_ble_eq_true rfl) dX6_town_135 ⟨Nat.zero_le _, Nat.zero_le _⟩ (fun v587 I587 H587 L587 hp587 hW hS => ?_)
                      obtain ⟨hF587, hO, hc587⟩ := hp587
                      have hF := dkF_call hF hF587 rfl
                      have hP := dkPP_F hP hF587 rfl
                      have eI587 : I516 = I587 := (dkF_nil hF587).symm
                      subst eI587
                      obtain ⟨dv587, f587_340_8, x587_0, xr587, -⟩ := hc587
                      have w588 : I516 340 8 = (-1) := ((hF585 340 8 rfl).trans y520)
                      have xv587 : v587 = 1 := by have h := xr587; exact h
                      refine lv_if_eq (tgt := 165) hx hb dX6_town_138 (by decide) (fun c589 => ?_) (fun c589 => ?_)
                      ·
                        exact (dkN_nil (show dkN [] v587 from dkN_eq1 dv587 (dkN_lit (x := 0) (0) rfl) (congrArg Int32.toInt c589) rfl)).elim
                      ·
                        refine lv_aload_n hx hb dX6_town_141 rfl (lv_at hl 0 rfl) ?_
                        refine dk_get (k := 340) hx hb hts iX6_town_6 hown hK (dk_at340 hW) rfl 11 (by decide) (hts (.fieldLink RX6 98 "DogKingsModel" "token" "I") (List.mem_of_getElem? (i := 4) rfl)) rfl dX6_town_142 ?_
                        refine lv_topi (fun v590 ev590 => ?_)
                        have dv590 : dkN [(1, 1)] v590 := by rw [ev590]; exact (by rw [hF587 340 11 rfl]; exact (by rw [hF585 340 11 rfl]; exact f556))
                        have xv590 : v590 = dkTk (I0 345) (I0 340 6) (dkTe (I0 345) (I0 340 6) (dkTe (I0 345) (I0 340 6) (dkTe (I0 345) (I0 340 6) (dkTe (I0 345) (I0 340 6) (dkTe (I0 345) (I0 340 6) (0)))))) := ev590.trans ((hF587 340 11 rfl).trans ((hF585 340 11 rfl).trans y526))
                        refine lv_iconst (v := 1) hx hb dX6_town_145 (by decide) ?_
                        refine lv_icmp_ne (tgt := 165) hx hb dX6_town_146 (by decide) (fun c591 => ?_) (fun c591 => ?_)
                        ·
                          exact (dkN_nil (show dkN [] v590 from dkN_ne1 (1) dv590 (dkN_lit (x := 1) (1) rfl) (dk_ne c591) rfl)).elim
                        ·
                          refine lv_aload_n hx hb dX6_town_149 rfl (lv_at hl 0 rfl) ?_
                          refine dk_get (k := 340) hx hb hts iX6_town_6 hown hK (dk_at340 hW) rfl 12 (by decide) (hts (.fieldLink RX6 95 "DogKingsModel" "value" "I") (List.mem_of_getElem? (i := 5) rfl)) rfl dX6_town_150 ?_
                          refine lv_topi (fun v592 ev592 => ?_)
                          have dv592 : dkN [(109, 109)] v592 := by rw [ev592]; exact (by rw [hF587 340 12 rfl]; exact (by rw [hF585 340 12 rfl]; exact f584))
                          have xv592 : v592 = dkTv (I0 345) (I0 340 6) (dkTe (I0 345) (I0 340 6) (dkTe (I0 345) (I0 340 6) (dkTe (I0 345) (I0 340 6) (dkTe (I0 345) (I0 340 6) (dkTe (I0 345) (I0 340 6) (0)))))) := ev592.trans ((hF587 340 12 rfl).trans ((hF585 340 12 rfl).trans y527))
                          refine lv_bipush (v := 109) hx hb dX6_town_153 (by decide) ?_
                          refine lv_icmp_ne (tgt := 165) hx hb dX6_town_155 (by decide) (fun c593 => ?_) (fun c593 => ?_)
                          ·
                            exact (dkN_nil (show dkN [] v592 from dkN_ne1 (109) dv592 (dkN_lit (x := 109) (109) rfl) (dk_ne c593) rfl)).elim
                          ·
                            refine lv_aload_n hx hb dX6_town_158 rfl (lv_at hl 0 rfl) ?_
                            refine dk_Vv (As := []) (rest := []) ⟨hx, hb, hml, hown, hts⟩ (fx_X6_readsPerson_1 l g z I516 (show dkN [(-1, -1)] (I516 340 8) from dkN_sub f587_340_8 rfl) (show dkN [(3, 9)] (I516 347 0) from dkN_sub (by rw [hF587 347 0 rfl]; exact (by rw [hF585 347 0 rfl]; exact (by rw [hF516 347 0 rfl]; exact (by rw [eI476, dkU_sn (by decide)]; exact (by rw [hF412 347 0 rfl]; exact (by rw [eI411, dkU_ss]; exact dv359)))))) rfl) hO) (cwV 0 hts gX6_town_X6_readsPerson rfl rfl rfl (by decide +kernel) ⟨Nat.le_of_ble_eq_true rfl, Nat.le_of_ble_eq_true rfl⟩) (dk_at340 hW) rfl hK hT hW hS rfl hl.1 rfl (Nat.le_of_ble_eq_true rfl) dX6_town_159 ⟨Nat.zero_le _, Nat.zero_le _⟩ (fun I594 H594 L594 hp594 hW hS => ?_)
                            obtain ⟨hF594, hO, hc594⟩ := hp594
                            have hF := dkF_call hF hF594 rfl
                            have hP := dkPP_F hP hF594 rfl
                            rcases hc594 with ⟨f594_340_7, f594_340_8, f594_347_0, f594_347_4, x594_0, xh594_0, xh594_1, xh594_2, xh594_3, xh594_4, -⟩ | hc594
                            ·
                              have w595 : I516 347 4 = 0 := ((hF587 347 4 rfl).trans ((hF585 347 4 rfl).trans ((hF516 347 4 rfl).trans ((by rw [eI476, dkU_sn (by decide)] : I476 347 4 = _).trans ((hF412 347 4 rfl).trans ((by rw [eI411, dkU_sn (by decide)] : I411 347 4 = _).trans ((hF359 347 4 rfl).trans ((hF346 347 4 rfl).trans ((hF288 347 4 rfl).trans ((by rw [eI287, dkU_n (by decide)] : I287 347 4 = _).trans ((by rw [eI286, dkU_n (by decide)] : I286 347 4 = _).trans hz4)))))))))))
                              exact absurd (by have h := x594_0; rw [w595] at h; exact h : (5 : Int) + 0 ≤ (0 : Int)) (by decide)
                            rcases hc594 with ⟨f594_340_7, f594_340_8, f594_347_0, f594_347_4, x594_0, x594_1, xh594_0, xh594_1, xh594_2, xh594_3, xh594_4, -⟩ | hc594
                            ·
                              have w596 : I516 347 4 = 0 := ((hF587 347 4 rfl).trans ((hF585 347 4 rfl).trans ((hF516 347 4 rfl).trans ((by rw [eI476, dkU_sn (by decide)] : I476 347 4 = _).trans ((hF412 347 4 rfl).trans ((by rw [eI411, dkU_sn (by decide)] : I411 347 4 = _).trans ((hF359 347 4 rfl).trans ((hF346 347 4 rfl).trans ((hF288 347 4 rfl).trans ((by rw [eI287, dkU_n (by decide)] : I287 347 4 = _).trans ((by rw [eI286, dkU_n (by decide)] : I286 347 4 = _).trans hz4)))))))))))
                              have w597 : I516 345 = I0 345 := ((funext fun j => hF587 345 j dkNin_nil).trans ((funext fun j => hF585 345 j dkNin_nil).trans ((funext fun j => hF516 345 j (dkNin_k rfl dkNin_nil)).trans ((by rw [eI476, dkU_n (by decide)] : I476 345 = _).trans ((funext fun j => hF412 345 j (dkNin_k rfl dkNin_nil)).trans ((by rw [eI411, dkU_n (by decide)] : I411 345 = _).trans ((funext fun j => hF359 345 j (dkNin_k rfl dkNin_nil)).trans ((funext fun j => hF346 345 j (dkNin_k rfl dkNin_nil)).trans ((funext fun j => hF288 345 j (dkNin_k rfl dkNin_nil)).trans ((by rw [eI287, dkU_n (by decide)] : I287 345 = _).trans ((by rw [eI286, dkU_n (by decide)] : I286 345 = _).trans z2_0)))))))))))
                              have w598 : I516 340 6 = I0 340 6 := ((hF587 340 6 rfl).trans ((hF585 340 6 rfl).trans ((hF516 340 6 rfl).trans ((by rw [eI476, dkU_n (by decide)] : I476 340 6 = _).trans ((hF412 340 6 rfl).trans ((by rw [eI411, dkU_n (by decide)] : I411 340 6 = _).trans ((hF359 340 6 rfl).trans ((hF346 340 6 rfl).trans ((hF288 340 6 rfl).trans ((by rw [eI287, dkU_sn (by decide)] : I287 340 6 = _).trans ((by rw [eI286, dkU_sn (by decide)] : I286 340 6 = _).trans zp2_1)))))))))))
                              have w599 : I516 347 0 = dkTv (I0 345) (I0 340 6) (dkTe (I0 345) (I0 340 6) (0)) := ((hF587 347 0 rfl).trans ((hF585 347 0 rfl).trans ((hF516 347 0 rfl).trans ((by rw [eI476, dkU_sn (by decide)] : I476 347 0 = _).trans ((hF412 347 0 rfl).trans (by rw [eI411, dkU_ss, xv359]))))))
                              have w600 : I516 340 9 = dkTe (I0 345) (I0 340 6) (dkTe (I0 345) (I0 340 6) (dkTe (I0 345) (I0 340 6) (dkTe (I0 345) (I0 340 6) (dkTe (I0 345) (I0 340 6) (dkTe (I0 345) (I0 340 6) (0)))))) := ((hF587 340 9 rfl).trans ((hF585 340 9 rfl).trans y524))
                              have q601 : (dkMb (I0 345) (I0 340 6) (dkTv (I0 345) (I0 340 6) (dkTe (I0 345) (I0 340 6) (0))) (dkTe (I0 345) (I0 340 6) (dkTe (I0 345) (I0 340 6) (dkTe (I0 345) (I0 340 6) (dkTe (I0 345) (I0 340 6) (dkTe (I0 345) (I0 340 6) (dkTe (I0 345) (I0 340 6) (0)))))))).1 ≠ 0 := by have h := x594_1; rw [w597, w598, w599, w600] at h; exact h
                              have y602 : I594 340 7 = (dkMb (I0 345) (I0 340 6) (dkTv (I0 345) (I0 340 6) (dkTe (I0 345) (I0 340 6) (0))) (dkTe (I0 345) (I0 340 6) (dkTe (I0 345) (I0 340 6) (dkTe (I0 345) (I0 340 6) (dkTe (I0 345) (I0 340 6) (dkTe (I0 345) (I0 340 6) (dkTe (I0 345) (I0 340 6) (0)))))))).1 := by have h := xh594_0; rw [w597, w598, w599, w600] at h; exact h
                              have y603 : I594 340 8 = (dkMb (I0 345) (I0 340 6) (dkTv (I0 345) (I0 340 6) (dkTe (I0 345) (I0 340 6) (0))) (dkTe (I0 345) (I0 340 6) (dkTe (I0 345) (I0 340 6) (dkTe (I0 345) (I0 340 6) (dkTe (I0 345) (I0 340 6) (dkTe (I0 345) (I0 340 6) (dkTe (I0 345) (I0 340 6) (0)))))))).2 := by have h := xh594_1; rw [w597, w598, w599, w600] at h; exact h
                              have y604 : I594 347 0 = dkTv (I0 345) (I0 340 6) (dkTe (I0 345) (I0 340 6) (0)) := by have h := xh594_2; rw [w599] at h; exact h
                              have y605 : I594 347 4 = 0 := by have h := xh594_3; rw [w596] at h; exact h
                              have w606 : I516 347 5 = 0 := ((hF587 347 5 rfl).trans ((hF585 347 5 rfl).trans ((hF516 347 5 rfl).trans ((by rw [eI476, dkU_sn (by decide)] : I476 347 5 = _).trans ((hF412 347 5 rfl).trans ((by rw [eI411, dkU_sn (by decide)] : I411 347 5 = _).trans ((hF359 347 5 rfl).trans ((hF346 347 5 rfl).trans ((hF288 347 5 rfl).trans ((by rw [eI287, dkU_n (by decide)] : I287 347 5 = _).trans ((by rw [eI286, dkU_n (by decide)] : I286 347 5 = _).trans hz5)))))))))))
                              have y607 : I594 347 5 = 0 := by have h := xh594_4; rw [w606] at h; exact h
                              refine lv_goto (tgt := 134) hx hb dX6_town_162 (by decide) ?_
                              refine lv_aload_n hx hb dX6_town_134 rfl (lv_at hl 0 rfl) ?_
                              refine dk_Vi (As := []) (rest := []) ⟨hx, hb, hml, hown, hts⟩ (fx_X6_isWell_7 l g z I594 (show dkN [(0, 90)] (I594 340 8) from dkN_sub f594_340_8 rfl) hO) (cwV 0 hts gX6_town_X6_isWell rfl rfl rfl (by decide +kernel) ⟨Nat.le_of_ble_eq_true rfl, Nat.le_of_ble_eq_true rfl⟩) (dk_at340 hW) rfl hK hT hW hS rfl hl.1 rfl (Nat.le_of_ble_eq_true rfl) dX6_town_135 ⟨Nat.zero_le _, Nat.zero_le _⟩ (fun v608 I608 H608 L608 hp608 hW hS => ?_)
                              obtain ⟨hF608, hO, hc608⟩ := hp608
                              have hF := dkF_call hF hF608 rfl
                              have hP := dkPP_F hP hF608 rfl
                              have eI608 : I594 = I608 := (dkF_nil hF608).symm
                              subst eI608
                              obtain ⟨dv608, f608_340_8, x608_0, xr608, -⟩ := hc608
                              have w609 : I594 340 8 = (dkMb (I0 345) (I0 340 6) (dkTv (I0 345) (I0 340 6) (dkTe (I0 345) (I0 340 6) (0))) (dkTe (I0 345) (I0 340 6) (dkTe (I0 345) (I0 340 6) (dkTe (I0 345) (I0 340 6) (dkTe (I0 345) (I0 340 6) (dkTe (I0 345) (I0 340 6) (dkTe (I0 345) (I0 340 6) (0)))))))).2 := y603
                              have q610 : (0 : Int) + 0 ≤ ((dkMb (I0 345) (I0 340 6) (dkTv (I0 345) (I0 340 6) (dkTe (I0 345) (I0 340 6) (0))) (dkTe (I0 345) (I0 340 6) (dkTe (I0 345) (I0 340 6) (dkTe (I0 345) (I0 340 6) (dkTe (I0 345) (I0 340 6) (dkTe (I0 345) (I0 340 6) (dkTe (I0 345) (I0 340 6) (0)))))))).2).toInt := by have h := x608_0; rw [w609] at h; exact h
                              have xv608 : v608 = 0 := by have h := xr608; exact h
                              refine lv_if_eq (tgt := 165) hx hb dX6_town_138 (by decide) (fun c611 => ?_) (fun c611 => ?_)
                              ·
                                refine lv_aload_n hx hb dX6_town_165 rfl (lv_at hl 0 rfl) ?_
                                refine dk_Vi (As := []) (rest := []) ⟨hx, hb, hml, hown, hts⟩ (fx_X6_isWell_7 l g z I594 (show dkN [(0, 90)] (I594 340 8) from dkN_sub f608_340_8 rfl) hO) (cwV 0 hts gX6_town_X6_isWell rfl rfl rfl (by decide +kernel) ⟨Nat.le_of_ble_eq_true rfl, Nat.le_of_ble_eq_true rfl⟩) (dk_at340 hW) rfl hK hT hW hS rfl hl.1 rfl (Nat.le_of_ble_eq_true rfl) dX6_town_166 ⟨Nat.zero_le _, Nat.zero_le _⟩ (fun v612 I612 H612 L612 hp612 hW hS => ?_)
                                obtain ⟨hF612, hO, hc612⟩ := hp612
                                have hF := dkF_call hF hF612 rfl
                                have hP := dkPP_F hP hF612 rfl
                                have eI612 : I594 = I612 := (dkF_nil hF612).symm
                                subst eI612
                                obtain ⟨dv612, f612_340_8, x612_0, xr612, -⟩ := hc612
                                have w613 : I594 340 8 = (dkMb (I0 345) (I0 340 6) (dkTv (I0 345) (I0 340 6) (dkTe (I0 345) (I0 340 6) (0))) (dkTe (I0 345) (I0 340 6) (dkTe (I0 345) (I0 340 6) (dkTe (I0 345) (I0 340 6) (dkTe (I0 345) (I0 340 6) (dkTe (I0 345) (I0 340 6) (dkTe (I0 345) (I0 340 6) (0)))))))).2 := ((hF608 340 8 rfl).trans y603)
                                have xv612 : v612 = 0 := by have h := xr612; exact h
                                refine lv_if_eq (tgt := 197) hx hb dX6_town_169 (by decide) (fun c614 => ?_) (fun c614 => ?_)
                                ·
                                  have i0 : (0 : Int32).toInt = 0 := rfl
                                  have i1 : (1 : Int32).toInt = 1 := rfl
                                  have i2 : (2 : Int32).toInt = 2 := rfl
                                  have i3 : (3 : Int32).toInt = 3 := rfl
                                  have i9 : (9 : Int32).toInt = 9 := rfl
                                  have i30 : (30 : Int32).toInt = 30 := rfl
                                  have i44 : (44 : Int32).toInt = 44 := rfl
                                  have i59 : (59 : Int32).toInt = 59 := rfl
                                  have i109 : (109 : Int32).toInt = 109 := rfl
                                  have i116 : (116 : Int32).toInt = 116 := rfl
                                  have hlw : dkLw (I0 345) (I0 340 6) 0 = (0, dkTe (I0 345) (I0 340 6) (dkTe (I0 345) (I0 340 6) (dkTe (I0 345) (I0 340 6) (dkTe (I0 345) (I0 340 6) (dkTe (I0 345) (I0 340 6) (0)))))) := ((dkTh_p (dkK_l (T := (I0 345)) (n := (I0 340 6)) (a := 0) (c := 116) q318 (by omega))).trans ((dkTh_p (dkK_0 (T := (I0 345)) (n := (I0 340 6)) (a := dkTe (I0 345) (I0 340 6) (0)) (lo := 3) (hi := 9) q397 (by omega) (by omega))).trans ((dkTh_p (dkK_c (T := (I0 345)) (n := (I0 340 6)) (a := dkTe (I0 345) (I0 340 6) (dkTe (I0 345) (I0 340 6) (0))) q461)).trans ((dkTh_p (dkK_0 (T := (I0 345)) (n := (I0 340 6)) (a := dkTe (I0 345) (I0 340 6) (dkTe (I0 345) (I0 340 6) (dkTe (I0 345) (I0 340 6) (0)))) (lo := 1) (hi := 30) q466 (by omega) (by omega))).trans (dkK_s (T := (I0 345)) (n := (I0 340 6)) (a := dkTe (I0 345) (I0 340 6) (dkTe (I0 345) (I0 340 6) (dkTe (I0 345) (I0 340 6) (dkTe (I0 345) (I0 340 6) (0))))) q513)))))
                                  have hhh : dkHh (I0 345) (I0 340 6) = (dkTv (I0 345) (I0 340 6) (dkTe (I0 345) (I0 340 6) (0))) := (by unfold dkHh; rw [show dkSg (I0 345) (I0 340 6) 116 0 = (0, dkTe (I0 345) (I0 340 6) (0)) from dkK_l (T := (I0 345)) (n := (I0 340 6)) (a := 0) (c := 116) q318 (by omega)]; exact (dkK_v (T := (I0 345)) (n := (I0 340 6)) (a := dkTe (I0 345) (I0 340 6) (0)) (by omega)).symm)
                                  have hps : dkPs (I0 345) (I0 340 6) (dkTv (I0 345) (I0 340 6) (dkTe (I0 345) (I0 340 6) (0))) (dkTe (I0 345) (I0 340 6) (dkTe (I0 345) (I0 340 6) (dkTe (I0 345) (I0 340 6) (dkTe (I0 345) (I0 340 6) (dkTe (I0 345) (I0 340 6) (0)))))) = dkPw (I0 345) (I0 340 6) (dkTv (I0 345) (I0 340 6) (dkTe (I0 345) (I0 340 6) (0))) 5 (dkTe (I0 345) (I0 340 6) (dkTe (I0 345) (I0 340 6) (dkTe (I0 345) (I0 340 6) (dkTe (I0 345) (I0 340 6) (dkTe (I0 345) (I0 340 6) (0)))))) := dkPs_w (dkK_l (T := (I0 345)) (n := (I0 340 6)) (a := dkTe (I0 345) (I0 340 6) (dkTe (I0 345) (I0 340 6) (dkTe (I0 345) (I0 340 6) (dkTe (I0 345) (I0 340 6) (dkTe (I0 345) (I0 340 6) (0)))))) (c := 109) q554 (by omega))
                                  have e6150 := dkX1_f (dkX1_0 (T := (I0 345)) (n := (I0 340 6)) (h := (dkTv (I0 345) (I0 340 6) (dkTe (I0 345) (I0 340 6) (0)))) (a := dkTe (I0 345) (I0 340 6) (dkTe (I0 345) (I0 340 6) (dkTe (I0 345) (I0 340 6) (dkTe (I0 345) (I0 340 6) (dkTe (I0 345) (I0 340 6) (0))))))) (by omega) (by omega) (by decide) q601
                                  have e615 : dkTw (I0 345) (I0 340 6) = ((dkMb (I0 345) (I0 340 6) (dkTv (I0 345) (I0 340 6) (dkTe (I0 345) (I0 340 6) (0))) (dkTe (I0 345) (I0 340 6) (dkTe (I0 345) (I0 340 6) (dkTe (I0 345) (I0 340 6) (dkTe (I0 345) (I0 340 6) (dkTe (I0 345) (I0 340 6) (dkTe (I0 345) (I0 340 6) (0)))))))).1, (dkMb (I0 345) (I0 340 6) (dkTv (I0 345) (I0 340 6) (dkTe (I0 345) (I0 340 6) (0))) (dkTe (I0 345) (I0 340 6) (dkTe (I0 345) (I0 340 6) (dkTe (I0 345) (I0 340 6) (dkTe (I0 345) (I0 340 6) (dkTe (I0 345) (I0 340 6) (dkTe (I0 345) (I0 340 6) (0)))))))).2) := dkTw_p hlw hhh (hps.trans e6150) q601
                                  exact C197 I594 _ _ ls x2_1 hW hS hF hO hP (dkN_sub d285 rfl) (show dkN [(1, 3)] (I594 340 7) from dkN_sub (by rw [hF612 340 7 rfl]; exact (by rw [hF608 340 7 rfl]; exact f594_340_7)) rfl) (show dkN [(0, 90)] (I594 340 8) from dkN_sub f612_340_8 rfl) (show dkN [(0, 0), (3, 9)] (I594 347 0) from dkN_sub (by rw [hF612 347 0 rfl]; exact (by rw [hF608 347 0 rfl]; exact f594_347_0)) rfl) ((funext fun j => hF612 345 j dkNin_nil).trans ((funext fun j => hF608 345 j dkNin_nil).trans ((funext fun j => hF594 345 j (dkNin_k rfl (dkNin_k rfl (dkNin_k rfl dkNin_nil)))).trans ((funext fun j => hF587 345 j dkNin_nil).trans ((funext fun j => hF585 345 j dkNin_nil).trans ((funext fun j => hF516 345 j (dkNin_k rfl dkNin_nil)).trans ((by rw [eI476, dkU_n (by decide)] : I476 345 = _).trans ((funext fun j => hF412 345 j (dkNin_k rfl dkNin_nil)).trans ((by rw [eI411, dkU_n (by decide)] : I411 345 = _).trans ((funext fun j => hF359 345 j (dkNin_k rfl dkNin_nil)).trans ((funext fun j => hF346 345 j (dkNin_k rfl dkNin_nil)).trans ((funext fun j => hF288 345 j (dkNin_k rfl dkNin_nil)).trans ((by rw [eI287, dkU_n (by decide)] : I287 345 = _).trans ((by rw [eI286, dkU_n (by decide)] : I286 345 = _).trans z2_0)))))))))))))) ((funext fun j => hF612 346 j dkNin_nil).trans ((funext fun j => hF608 346 j dkNin_nil).trans ((funext fun j => hF594 346 j (dkNin_k rfl (dkNin_k rfl (dkNin_k rfl dkNin_nil)))).trans ((funext fun j => hF587 346 j dkNin_nil).trans ((funext fun j => hF585 346 j dkNin_nil).trans ((funext fun j => hF516 346 j (dkNin_k rfl dkNin_nil)).trans ((by rw [eI476, dkU_n (by decide)] : I476 346 = _).trans ((funext fun j => hF412 346 j (dkNin_k rfl dkNin_nil)).trans ((by rw [eI411, dkU_n (by decide)] : I411 346 = _).trans ((funext fun j => hF359 346 j (dkNin_k rfl dkNin_nil)).trans ((funext fun j => hF346 346 j (dkNin_k rfl dkNin_nil)).trans ((funext fun j => hF288 346 j (dkNin_k rfl dkNin_nil)).trans ((by rw [eI287, dkU_n (by decide)] : I287 346 = _).trans ((by rw [eI286, dkU_n (by decide)] : I286 346 = _).trans z2_1)))))))))))))) ((hF612 340 17 rfl).trans ((hF608 340 17 rfl).trans ((hF594 340 17 rfl).trans ((hF587 340 17 rfl).trans ((hF585 340 17 rfl).trans ((hF516 340 17 rfl).trans ((by rw [eI476, dkU_n (by decide)] : I476 340 17 = _).trans ((hF412 340 17 rfl).trans ((by rw [eI411, dkU_n (by decide)] : I411 340 17 = _).trans ((hF359 340 17 rfl).trans ((hF346 340 17 rfl).trans ((hF288 340 17 rfl).trans ((by rw [eI287, dkU_sn (by decide)] : I287 340 17 = _).trans ((by rw [eI286, dkU_sn (by decide)] : I286 340 17 = _).trans zp2_0)))))))))))))) ((hF612 340 6 rfl).trans ((hF608 340 6 rfl).trans ((hF594 340 6 rfl).trans ((hF587 340 6 rfl).trans ((hF585 340 6 rfl).trans ((hF516 340 6 rfl).trans ((by rw [eI476, dkU_n (by decide)] : I476 340 6 = _).trans ((hF412 340 6 rfl).trans ((by rw [eI411, dkU_n (by decide)] : I411 340 6 = _).trans ((hF359 340 6 rfl).trans ((hF346 340 6 rfl).trans ((hF288 340 6 rfl).trans ((by rw [eI287, dkU_sn (by decide)] : I287 340 6 = _).trans ((by rw [eI286, dkU_sn (by decide)] : I286 340 6 = _).trans zp2_1)))))))))))))) ((hF612 346 0 rfl).trans ((hF608 346 0 rfl).trans ((hF594 346 0 rfl).trans ((hF587 346 0 rfl).trans ((hF585 346 0 rfl).trans ((hF516 346 0 rfl).trans ((by rw [eI476, dkU_n (by decide)] : I476 346 0 = _).trans ((hF412 346 0 rfl).trans ((by rw [eI411, dkU_n (by decide)] : I411 346 0 = _).trans ((hF359 346 0 rfl).trans ((hF346 346 0 rfl).trans ((hF288 346 0 rfl).trans ((by rw [eI287, dkU_n (by decide)] : I287 346 0 = _).trans ((by rw [eI286, dkU_n (by decide)] : I286 346 0 = _).trans (by rw [z2_1]))))))))))))))) ((hF612 346 4 rfl).trans ((hF608 346 4 rfl).trans ((hF594 346 4 rfl).trans ((hF587 346 4 rfl).trans ((hF585 346 4 rfl).trans ((hF516 346 4 rfl).trans ((by rw [eI476, dkU_n (by decide)] : I476 346 4 = _).trans ((hF412 346 4 rfl).trans ((by rw [eI411, dkU_n (by decide)] : I411 346 4 = _).trans ((hF359 346 4 rfl).trans ((hF346 346 4 rfl).trans ((hF288 346 4 rfl).trans ((by rw [eI287, dkU_n (by decide)] : I287 346 4 = _).trans ((by rw [eI286, dkU_n (by decide)] : I286 346 4 = _).trans (by rw [z2_1]))))))))))))))) ((hF612 346 5 rfl).trans ((hF608 346 5 rfl).trans ((hF594 346 5 rfl).trans ((hF587 346 5 rfl).trans ((hF585 346 5 rfl).trans ((hF516 346 5 rfl).trans ((by rw [eI476, dkU_n (by decide)] : I476 346 5 = _).trans ((hF412 346 5 rfl).trans ((by rw [eI411, dkU_n (by decide)] : I411 346 5 = _).trans ((hF359 346 5 rfl).trans ((hF346 346 5 rfl).trans ((hF288 346 5 rfl).trans ((by rw [eI287, dkU_n (by decide)] : I287 346 5 = _).trans ((by rw [eI286, dkU_n (by decide)] : I286 346 5 = _).trans (by rw [z2_1]))))))))))))))) ⟨(fun q => q601 ((dkP_1 e615).symm.trans q)), (((show I594 340 7 = (dkMb (I0 345) (I0 340 6) (dkTv (I0 345) (I0 340 6) (dkTe (I0 345) (I0 340 6) (0))) (dkTe (I0 345) (I0 340 6) (dkTe (I0 345) (I0 340 6) (dkTe (I0 345) (I0 340 6) (dkTe (I0 345) (I0 340 6) (dkTe (I0 345) (I0 340 6) (dkTe (I0 345) (I0 340 6) (0)))))))).1 from ((hF612 340 7 rfl).trans ((hF608 340 7 rfl).trans y602)))).trans (dkP_1 e615).symm), (((show I594 340 8 = (dkMb (I0 345) (I0 340 6) (dkTv (I0 345) (I0 340 6) (dkTe (I0 345) (I0 340 6) (0))) (dkTe (I0 345) (I0 340 6) (dkTe (I0 345) (I0 340 6) (dkTe (I0 345) (I0 340 6) (dkTe (I0 345) (I0 340 6) (dkTe (I0 345) (I0 340 6) (dkTe (I0 345) (I0 340 6) (0)))))))).2 from ((hF612 340 8 rfl).trans ((hF608 340 8 rfl).trans y603)))).trans (dkP_2 e615).symm)⟩ (lv_sub hl [0, 1] rfl)
                                ·
                                  exact absurd ((xv612).trans (rfl).symm) c614
                              ·
                                exact absurd ((xv608).trans (rfl).symm) c611
                            ·
                              obtain ⟨f594_340_11, f594_340_8, f594_347_0, f594_347_4, x594_0, x594_1, xh594_0, xh594_1, xh594_2, xh594_3, xh594_4, xh594_5, xh594_6, xh594_7, xh594_8, ci594_0, -⟩ := hc594
                              have w616 : I516 347 4 = 0 := ((hF587 347 4 rfl).trans ((hF585 347 4 rfl).trans ((hF516 347 4 rfl).trans ((by rw [eI476, dkU_sn (by decide)] : I476 347 4 = _).trans ((hF412 347 4 rfl).trans ((by rw [eI411, dkU_sn (by decide)] : I411 347 4 = _).trans ((hF359 347 4 rfl).trans ((hF346 347 4 rfl).trans ((hF288 347 4 rfl).trans ((by rw [eI287, dkU_n (by decide)] : I287 347 4 = _).trans ((by rw [eI286, dkU_n (by decide)] : I286 347 4 = _).trans hz4)))))))))))
                              have w617 : I516 345 = I0 345 := ((funext fun j => hF587 345 j dkNin_nil).trans ((funext fun j => hF585 345 j dkNin_nil).trans ((funext fun j => hF516 345 j (dkNin_k rfl dkNin_nil)).trans ((by rw [eI476, dkU_n (by decide)] : I476 345 = _).trans ((funext fun j => hF412 345 j (dkNin_k rfl dkNin_nil)).trans ((by rw [eI411, dkU_n (by decide)] : I411 345 = _).trans ((funext fun j => hF359 345 j (dkNin_k rfl dkNin_nil)).trans ((funext fun j => hF346 345 j (dkNin_k rfl dkNin_nil)).trans ((funext fun j => hF288 345 j (dkNin_k rfl dkNin_nil)).trans ((by rw [eI287, dkU_n (by decide)] : I287 345 = _).trans ((by rw [eI286, dkU_n (by decide)] : I286 345 = _).trans z2_0)))))))))))
                              have w618 : I516 340 6 = I0 340 6 := ((hF587 340 6 rfl).trans ((hF585 340 6 rfl).trans ((hF516 340 6 rfl).trans ((by rw [eI476, dkU_n (by decide)] : I476 340 6 = _).trans ((hF412 340 6 rfl).trans ((by rw [eI411, dkU_n (by decide)] : I411 340 6 = _).trans ((hF359 340 6 rfl).trans ((hF346 340 6 rfl).trans ((hF288 340 6 rfl).trans ((by rw [eI287, dkU_sn (by decide)] : I287 340 6 = _).trans ((by rw [eI286, dkU_sn (by decide)] : I286 340 6 = _).trans zp2_1)))))))))))
                              have w619 : I516 347 0 = dkTv (I0 345) (I0 340 6) (dkTe (I0 345) (I0 340 6) (0)) := ((hF587 347 0 rfl).trans ((hF585 347 0 rfl).trans ((hF516 347 0 rfl).trans ((by rw [eI476, dkU_sn (by decide)] : I476 347 0 = _).trans ((hF412 347 0 rfl).trans (by rw [eI411, dkU_ss, xv359]))))))
                              have w620 : I516 340 9 = dkTe (I0 345) (I0 340 6) (dkTe (I0 345) (I0 340 6) (dkTe (I0 345) (I0 340 6) (dkTe (I0 345) (I0 340 6) (dkTe (I0 345) (I0 340 6) (dkTe (I0 345) (I0 340 6) (0)))))) := ((hF587 340 9 rfl).trans ((hF585 340 9 rfl).trans y524))
                              have q621 : (dkMb (I0 345) (I0 340 6) (dkTv (I0 345) (I0 340 6) (dkTe (I0 345) (I0 340 6) (0))) (dkTe (I0 345) (I0 340 6) (dkTe (I0 345) (I0 340 6) (dkTe (I0 345) (I0 340 6) (dkTe (I0 345) (I0 340 6) (dkTe (I0 345) (I0 340 6) (dkTe (I0 345) (I0 340 6) (0)))))))).1 = 0 := by have h := x594_1; rw [w617, w618, w619, w620] at h; exact h
                              have w622 : I516 340 7 = I0 340 7 := ((hF587 340 7 rfl).trans ((hF585 340 7 rfl).trans y519))
                              have y623 : I594 340 7 = I0 340 7 := by have h := xh594_0; rw [w622] at h; exact h
                              have w624 : I516 340 8 = (-1) := ((hF587 340 8 rfl).trans ((hF585 340 8 rfl).trans y520))
                              have y625 : I594 340 8 = (-1) := by have h := xh594_1; rw [w624] at h; exact h
                              have y626 : I594 340 9 = dkTe (I0 345) (I0 340 6) (dkMb (I0 345) (I0 340 6) (dkTv (I0 345) (I0 340 6) (dkTe (I0 345) (I0 340 6) (0))) (dkTe (I0 345) (I0 340 6) (dkTe (I0 345) (I0 340 6) (dkTe (I0 345) (I0 340 6) (dkTe (I0 345) (I0 340 6) (dkTe (I0 345) (I0 340 6) (dkTe (I0 345) (I0 340 6) (0)))))))).2 := by have h := xh594_2; rw [w617, w618, w619, w620] at h; exact h
                              have y627 : I594 340 10 = (dkMb (I0 345) (I0 340 6) (dkTv (I0 345) (I0 340 6) (dkTe (I0 345) (I0 340 6) (0))) (dkTe (I0 345) (I0 340 6) (dkTe (I0 345) (I0 340 6) (dkTe (I0 345) (I0 340 6) (dkTe (I0 345) (I0 340 6) (dkTe (I0 345) (I0 340 6) (dkTe (I0 345) (I0 340 6) (0)))))))).2 := by have h := xh594_3; rw [w617, w618, w619, w620] at h; exact h
                              have y628 : I594 340 11 = dkTk (I0 345) (I0 340 6) (dkMb (I0 345) (I0 340 6) (dkTv (I0 345) (I0 340 6) (dkTe (I0 345) (I0 340 6) (0))) (dkTe (I0 345) (I0 340 6) (dkTe (I0 345) (I0 340 6) (dkTe (I0 345) (I0 340 6) (dkTe (I0 345) (I0 340 6) (dkTe (I0 345) (I0 340 6) (dkTe (I0 345) (I0 340 6) (0)))))))).2 := by have h := xh594_4; rw [w617, w618, w619, w620] at h; exact h
                              have y629 : I594 340 12 = dkTv (I0 345) (I0 340 6) (dkMb (I0 345) (I0 340 6) (dkTv (I0 345) (I0 340 6) (dkTe (I0 345) (I0 340 6) (0))) (dkTe (I0 345) (I0 340 6) (dkTe (I0 345) (I0 340 6) (dkTe (I0 345) (I0 340 6) (dkTe (I0 345) (I0 340 6) (dkTe (I0 345) (I0 340 6) (dkTe (I0 345) (I0 340 6) (0)))))))).2 := by have h := xh594_5; rw [w617, w618, w619, w620] at h; exact h
                              have y630 : I594 347 0 = dkTv (I0 345) (I0 340 6) (dkTe (I0 345) (I0 340 6) (0)) := by have h := xh594_6; rw [w619] at h; exact h
                              have w631 : I516 347 5 = 0 := ((hF587 347 5 rfl).trans ((hF585 347 5 rfl).trans ((hF516 347 5 rfl).trans ((by rw [eI476, dkU_sn (by decide)] : I476 347 5 = _).trans ((hF412 347 5 rfl).trans ((by rw [eI411, dkU_sn (by decide)] : I411 347 5 = _).trans ((hF359 347 5 rfl).trans ((hF346 347 5 rfl).trans ((hF288 347 5 rfl).trans ((by rw [eI287, dkU_n (by decide)] : I287 347 5 = _).trans ((by rw [eI286, dkU_n (by decide)] : I286 347 5 = _).trans hz5)))))))))))
                              have y632 : I594 347 5 = 0 := by have h := xh594_7; rw [w631] at h; exact h
                              have k633 : dkN [(1, 1)] (I594 347 4) := by rw [xh594_8]; exact dkN_add (by rw [hF587 347 4 rfl]; exact (by rw [hF585 347 4 rfl]; exact (by rw [hF516 347 4 rfl]; exact (by rw [eI476, dkU_sn (by decide)]; exact (by rw [hF412 347 4 rfl]; exact (by rw [eI411, dkU_sn (by decide)]; exact (by rw [hF359 347 4 rfl]; exact (by rw [hF346 347 4 rfl]; exact (by rw [hF288 347 4 rfl]; exact (by rw [eI287, dkU_n (by decide)]; exact (by rw [eI286, dkU_n (by decide)]; exact (dkN_lit (0) (by rw [hz4]; rfl))))))))))))) (dkN_lit (x := 1) (1) rfl) rfl
                              have y634 : I594 347 4 = 0 + 1 := by have h := xh594_8; rw [w616] at h; exact h
                              refine lv_goto (tgt := 134) hx hb dX6_town_162 (by decide) ?_
                              exact C134 _ I594 _ _ ls x2_1 (Nat.lt_succ_self _) hW hS hF hO hP (dkN_sub d285 rfl) (show dkN [(0, 5)] (I594 340 11) from dkN_sub f594_340_11 rfl) (show dkN [(-1, -1)] (I594 340 8) from dkN_sub f594_340_8 rfl) (show dkN [(3, 9)] (I594 347 0) from dkN_sub f594_347_0 rfl) (show dkN [(1, 30)] (I594 347 1) from dkN_sub (by rw [hF594 347 1 rfl]; exact (by rw [hF587 347 1 rfl]; exact (by rw [hF585 347 1 rfl]; exact (by rw [hF516 347 1 rfl]; exact (by rw [eI476, dkU_ss]; exact dv412))))) rfl) (show dkN [(1, 5)] (I594 347 4) from dkN_sub k633 rfl) (show dkN [(0, 0)] (I594 347 5) from dkN_sub (by rw [hF594 347 5 rfl]; exact (by rw [hF587 347 5 rfl]; exact (by rw [hF585 347 5 rfl]; exact (by rw [hF516 347 5 rfl]; exact (by rw [eI476, dkU_sn (by decide)]; exact (by rw [hF412 347 5 rfl]; exact (by rw [eI411, dkU_sn (by decide)]; exact (by rw [hF359 347 5 rfl]; exact (by rw [hF346 347 5 rfl]; exact (by rw [hF288 347 5 rfl]; exact (by rw [eI287, dkU_n (by decide)]; exact (by rw [eI286, dkU_n (by decide)]; exact (dkN_lit (0) (by rw [hz5]; rfl)))))))))))))) rfl) ((funext fun j => hF594 345 j (dkNin_k rfl (dkNin_k rfl (dkNin_k rfl dkNin_nil)))).trans ((funext fun j => hF587 345 j dkNin_nil).trans ((funext fun j => hF585 345 j dkNin_nil).trans ((funext fun j => hF516 345 j (dkNin_k rfl dkNin_nil)).trans ((by rw [eI476, dkU_n (by decide)] : I476 345 = _).trans ((funext fun j => hF412 345 j (dkNin_k rfl dkNin_nil)).trans ((by rw [eI411, dkU_n (by decide)] : I411 345 = _).trans ((funext fun j => hF359 345 j (dkNin_k rfl dkNin_nil)).trans ((funext fun j => hF346 345 j (dkNin_k rfl dkNin_nil)).trans ((funext fun j => hF288 345 j (dkNin_k rfl dkNin_nil)).trans ((by rw [eI287, dkU_n (by decide)] : I287 345 = _).trans ((by rw [eI286, dkU_n (by decide)] : I286 345 = _).trans z2_0)))))))))))) ((funext fun j => hF594 346 j (dkNin_k rfl (dkNin_k rfl (dkNin_k rfl dkNin_nil)))).trans ((funext fun j => hF587 346 j dkNin_nil).trans ((funext fun j => hF585 346 j dkNin_nil).trans ((funext fun j => hF516 346 j (dkNin_k rfl dkNin_nil)).trans ((by rw [eI476, dkU_n (by decide)] : I476 346 = _).trans ((funext fun j => hF412 346 j (dkNin_k rfl dkNin_nil)).trans ((by rw [eI411, dkU_n (by decide)] : I411 346 = _).trans ((funext fun j => hF359 346 j (dkNin_k rfl dkNin_nil)).trans ((funext fun j => hF346 346 j (dkNin_k rfl dkNin_nil)).trans ((funext fun j => hF288 346 j (dkNin_k rfl dkNin_nil)).trans ((by rw [eI287, dkU_n (by decide)] : I287 346 = _).trans ((by rw [eI286, dkU_n (by decide)] : I286 346 = _).trans z2_1)))))))))))) ((hF594 340 17 rfl).trans ((hF587 340 17 rfl).trans ((hF585 340 17 rfl).trans ((hF516 340 17 rfl).trans ((by rw [eI476, dkU_n (by decide)] : I476 340 17 = _).trans ((hF412 340 17 rfl).trans ((by rw [eI411, dkU_n (by decide)] : I411 340 17 = _).trans ((hF359 340 17 rfl).trans ((hF346 340 17 rfl).trans ((hF288 340 17 rfl).trans ((by rw [eI287, dkU_sn (by decide)] : I287 340 17 = _).trans ((by rw [eI286, dkU_sn (by decide)] : I286 340 17 = _).trans zp2_0)))))))))))) ((hF594 340 6 rfl).trans ((hF587 340 6 rfl).trans ((hF585 340 6 rfl).trans ((hF516 340 6 rfl).trans ((by rw [eI476, dkU_n (by decide)] : I476 340 6 = _).trans ((hF412 340 6 rfl).trans ((by rw [eI411, dkU_n (by decide)] : I411 340 6 = _).trans ((hF359 340 6 rfl).trans ((hF346 340 6 rfl).trans ((hF288 340 6 rfl).trans ((by rw [eI287, dkU_sn (by decide)] : I287 340 6 = _).trans ((by rw [eI286, dkU_sn (by decide)] : I286 340 6 = _).trans zp2_1)))))))))))) y623 ((hF594 346 0 rfl).trans ((hF587 346 0 rfl).trans ((hF585 346 0 rfl).trans ((hF516 346 0 rfl).trans ((by rw [eI476, dkU_n (by decide)] : I476 346 0 = _).trans ((hF412 346 0 rfl).trans ((by rw [eI411, dkU_n (by decide)] : I411 346 0 = _).trans ((hF359 346 0 rfl).trans ((hF346 346 0 rfl).trans ((hF288 346 0 rfl).trans ((by rw [eI287, dkU_n (by decide)] : I287 346 0 = _).trans ((by rw [eI286, dkU_n (by decide)] : I286 346 0 = _).trans (by rw [z2_1]))))))))))))) ((hF594 346 4 rfl).trans ((hF587 346 4 rfl).trans ((hF585 346 4 rfl).trans ((hF516 346 4 rfl).trans ((by rw [eI476, dkU_n (by decide)] : I476 346 4 = _).trans ((hF412 346 4 rfl).trans ((by rw [eI411, dkU_n (by decide)] : I411 346 4 = _).trans ((hF359 346 4 rfl).trans ((hF346 346 4 rfl).trans ((hF288 346 4 rfl).trans ((by rw [eI287, dkU_n (by decide)] : I287 346 4 = _).trans ((by rw [eI286, dkU_n (by decide)] : I286 346 4 = _).trans (by rw [z2_1]))))))))))))) ((hF594 346 5 rfl).trans ((hF587 346 5 rfl).trans ((hF585 346 5 rfl).trans ((hF516 346 5 rfl).trans ((by rw [eI476, dkU_n (by decide)] : I476 346 5 = _).trans ((hF412 346 5 rfl).trans ((by rw [eI411, dkU_n (by decide)] : I411 346 5 = _).trans ((hF359 346 5 rfl).trans ((hF346 346 5 rfl).trans ((hF288 346 5 rfl).trans ((by rw [eI287, dkU_n (by decide)] : I287 346 5 = _).trans ((by rw [eI286, dkU_n (by decide)] : I286 346 5 = _).trans (by rw [z2_1]))))))))))))) y630 q318 q343 q397 q399 q400 q461 q466 q467 q468 q513 q554 q582 q621 ⟨⟨(((show I594 340 11 = dkTk (I0 345) (I0 340 6) (dkMb (I0 345) (I0 340 6) (dkTv (I0 345) (I0 340 6) (dkTe (I0 345) (I0 340 6) (0))) (dkTe (I0 345) (I0 340 6) (dkTe (I0 345) (I0 340 6) (dkTe (I0 345) (I0 340 6) (dkTe (I0 345) (I0 340 6) (dkTe (I0 345) (I0 340 6) (dkTe (I0 345) (I0 340 6) (0)))))))).2 from y628)).trans (congrArg (dkTk (I0 345) (I0 340 6)) ((show I594 340 10 = (dkMb (I0 345) (I0 340 6) (dkTv (I0 345) (I0 340 6) (dkTe (I0 345) (I0 340 6) (0))) (dkTe (I0 345) (I0 340 6) (dkTe (I0 345) (I0 340 6) (dkTe (I0 345) (I0 340 6) (dkTe (I0 345) (I0 340 6) (dkTe (I0 345) (I0 340 6) (dkTe (I0 345) (I0 340 6) (0)))))))).2 from y627)).symm)), (((show I594 340 12 = dkTv (I0 345) (I0 340 6) (dkMb (I0 345) (I0 340 6) (dkTv (I0 345) (I0 340 6) (dkTe (I0 345) (I0 340 6) (0))) (dkTe (I0 345) (I0 340 6) (dkTe (I0 345) (I0 340 6) (dkTe (I0 345) (I0 340 6) (dkTe (I0 345) (I0 340 6) (dkTe (I0 345) (I0 340 6) (dkTe (I0 345) (I0 340 6) (0)))))))).2 from y629)).trans (congrArg (dkTv (I0 345) (I0 340 6)) ((show I594 340 10 = (dkMb (I0 345) (I0 340 6) (dkTv (I0 345) (I0 340 6) (dkTe (I0 345) (I0 340 6) (0))) (dkTe (I0 345) (I0 340 6) (dkTe (I0 345) (I0 340 6) (dkTe (I0 345) (I0 340 6) (dkTe (I0 345) (I0 340 6) (dkTe (I0 345) (I0 340 6) (dkTe (I0 345) (I0 340 6) (0)))))))).2 from y627)).symm)), (((show I594 340 9 = dkTe (I0 345) (I0 340 6) (dkMb (I0 345) (I0 340 6) (dkTv (I0 345) (I0 340 6) (dkTe (I0 345) (I0 340 6) (0))) (dkTe (I0 345) (I0 340 6) (dkTe (I0 345) (I0 340 6) (dkTe (I0 345) (I0 340 6) (dkTe (I0 345) (I0 340 6) (dkTe (I0 345) (I0 340 6) (dkTe (I0 345) (I0 340 6) (0)))))))).2 from y626)).trans (congrArg (dkTe (I0 345) (I0 340 6)) ((show I594 340 10 = (dkMb (I0 345) (I0 340 6) (dkTv (I0 345) (I0 340 6) (dkTe (I0 345) (I0 340 6) (0))) (dkTe (I0 345) (I0 340 6) (dkTe (I0 345) (I0 340 6) (dkTe (I0 345) (I0 340 6) (dkTe (I0 345) (I0 340 6) (dkTe (I0 345) (I0 340 6) (dkTe (I0 345) (I0 340 6) (0)))))))).2 from y627)).symm))⟩, (by rw [show I594 340 10 = (dkMb (I0 345) (I0 340 6) (dkTv (I0 345) (I0 340 6) (dkTe (I0 345) (I0 340 6) (0))) (dkTe (I0 345) (I0 340 6) (dkTe (I0 345) (I0 340 6) (dkTe (I0 345) (I0 340 6) (dkTe (I0 345) (I0 340 6) (dkTe (I0 345) (I0 340 6) (dkTe (I0 345) (I0 340 6) (0)))))))).2 from y627, show I594 347 4 = 0 + 1 from y634]; exact dkX1_s dkX1_0 (by omega) (by omega) (by decide) (by decide) q621), (show I594 347 5 = 0 from y632)⟩ (lv_sub hl [0, 1] rfl)
              ·
                obtain ⟨dv412, f412_340_11, f412_340_7, f412_340_8, x412_0, x412_1, x412_2, xr412, xh412_0, xh412_1, xh412_2, xh412_3, xh412_4, xh412_5, -⟩ := hc412
                have w635 : I411 340 11 = dkTk (I0 345) (I0 340 6) (dkTe (I0 345) (I0 340 6) (dkTe (I0 345) (I0 340 6) (0))) := ((by rw [eI411, dkU_n (by decide)] : I411 340 11 = _).trans y409)
                have q636 : (dkTk (I0 345) (I0 340 6) (dkTe (I0 345) (I0 340 6) (dkTe (I0 345) (I0 340 6) (0)))).toInt = (3 : Int) := by have h := x412_0; rw [w635] at h; exact h
                have w637 : I411 340 8 = (-1) := ((by rw [eI411, dkU_n (by decide)] : I411 340 8 = _).trans y403)
                have w638 : I411 345 = I0 345 := ((by rw [eI411, dkU_n (by decide)] : I411 345 = _).trans ((funext fun j => hF359 345 j (dkNin_k rfl dkNin_nil)).trans ((funext fun j => hF346 345 j (dkNin_k rfl dkNin_nil)).trans ((funext fun j => hF288 345 j (dkNin_k rfl dkNin_nil)).trans ((by rw [eI287, dkU_n (by decide)] : I287 345 = _).trans ((by rw [eI286, dkU_n (by decide)] : I286 345 = _).trans z2_0))))))
                have w639 : I411 340 6 = I0 340 6 := ((by rw [eI411, dkU_n (by decide)] : I411 340 6 = _).trans ((hF359 340 6 rfl).trans ((hF346 340 6 rfl).trans ((hF288 340 6 rfl).trans ((by rw [eI287, dkU_sn (by decide)] : I287 340 6 = _).trans ((by rw [eI286, dkU_sn (by decide)] : I286 340 6 = _).trans zp2_1))))))
                have w640 : I411 340 9 = dkTe (I0 345) (I0 340 6) (dkTe (I0 345) (I0 340 6) (dkTe (I0 345) (I0 340 6) (0))) := ((by rw [eI411, dkU_n (by decide)] : I411 340 9 = _).trans y407)
                have q641 : (dkTk (I0 345) (I0 340 6) (dkTe (I0 345) (I0 340 6) (dkTe (I0 345) (I0 340 6) (dkTe (I0 345) (I0 340 6) (0))))).toInt ≠ (2 : Int) := by have h := x412_2; rw [w638, w639, w640] at h; exact h
                have y642 : I412 340 7 = 1 := by have h := xh412_0; exact h
                have y643 : I412 340 8 = dkTe (I0 345) (I0 340 6) (dkTe (I0 345) (I0 340 6) (dkTe (I0 345) (I0 340 6) (0))) := by have h := xh412_1; rw [w640] at h; exact h
                have y644 : I412 340 9 = dkTe (I0 345) (I0 340 6) (dkTe (I0 345) (I0 340 6) (dkTe (I0 345) (I0 340 6) (dkTe (I0 345) (I0 340 6) (0)))) := by have h := xh412_2; rw [w638, w639, w640] at h; exact h
                have y645 : I412 340 10 = dkTe (I0 345) (I0 340 6) (dkTe (I0 345) (I0 340 6) (dkTe (I0 345) (I0 340 6) (0))) := by have h := xh412_3; rw [w640] at h; exact h
                have y646 : I412 340 11 = dkTk (I0 345) (I0 340 6) (dkTe (I0 345) (I0 340 6) (dkTe (I0 345) (I0 340 6) (dkTe (I0 345) (I0 340 6) (0)))) := by have h := xh412_4; rw [w638, w639, w640] at h; exact h
                have y647 : I412 340 12 = dkTv (I0 345) (I0 340 6) (dkTe (I0 345) (I0 340 6) (dkTe (I0 345) (I0 340 6) (dkTe (I0 345) (I0 340 6) (0)))) := by have h := xh412_5; rw [w638, w639, w640] at h; exact h
                have xv412 : v412 = 0 := by have h := xr412; exact h
                refine dk_ist (k := 347) hx hb hK hW (fun _ => rfl) (by decide) hS (dkN_in (n := 54) (dkN_lit (x := 1) (1) rfl) rfl) dX6_town_88 (fun I648 H648 L648 eI648 hW hS => ?_)
                have eI648 : I648 = dkU I412 347 1 v412 := eI648
                have hO := dkO_set hO eI648 (dkN_sub dv412 rfl)
                have hF := dkF_set hF eI648 rfl
                have hP := dkPP_set hP eI648 rfl
                have i0 : (0 : Int32).toInt = 0 := rfl
                have i1 : (1 : Int32).toInt = 1 := rfl
                have i2 : (2 : Int32).toInt = 2 := rfl
                have i3 : (3 : Int32).toInt = 3 := rfl
                have i9 : (9 : Int32).toInt = 9 := rfl
                have i30 : (30 : Int32).toInt = 30 := rfl
                have i44 : (44 : Int32).toInt = 44 := rfl
                have i59 : (59 : Int32).toInt = 59 := rfl
                have i109 : (109 : Int32).toInt = 109 := rfl
                have i116 : (116 : Int32).toInt = 116 := rfl
                have e649 : dkTw (I0 345) (I0 340 6) = (1, dkTe (I0 345) (I0 340 6) (dkTe (I0 345) (I0 340 6) (dkTe (I0 345) (I0 340 6) (0)))) := dkTw_l ((dkTh_p (dkK_l (T := (I0 345)) (n := (I0 340 6)) (a := 0) (c := 116) q318 (by omega))).trans ((dkTh_p (dkK_0 (T := (I0 345)) (n := (I0 340 6)) (a := dkTe (I0 345) (I0 340 6) (0)) (lo := 3) (hi := 9) q397 (by omega) (by omega))).trans ((dkTh_p (dkK_c (T := (I0 345)) (n := (I0 340 6)) (a := dkTe (I0 345) (I0 340 6) (dkTe (I0 345) (I0 340 6) (0))) q636)).trans (dkTh_q (dkK_1 (T := (I0 345)) (n := (I0 340 6)) (a := dkTe (I0 345) (I0 340 6) (dkTe (I0 345) (I0 340 6) (dkTe (I0 345) (I0 340 6) (0)))) (lo := 1) (hi := 30) q641) (by decide))))) (by decide)
                exact C89 I648 _ _ ls x2_1 hW hS hF hO hP (dkN_sub d285 rfl) (show dkN [(1, 2)] (I648 340 7) from dkN_sub (by rw [eI648, dkU_n (by decide)]; exact f412_340_7) rfl) (show dkN [(0, 90)] (I648 340 8) from dkN_sub (by rw [eI648, dkU_n (by decide)]; exact f412_340_8) rfl) (show dkN [(0, 0), (3, 9)] (I648 347 0) from dkN_sub (by rw [eI648, dkU_sn (by decide)]; exact (by rw [hF412 347 0 rfl]; exact (by rw [eI411, dkU_ss]; exact dv359))) rfl) (show dkN [(0, 0)] (I648 347 1) from dkN_sub (by rw [eI648, dkU_ss]; exact dv412) rfl) (show dkN [(0, 0)] (I648 347 4) from dkN_sub (by rw [eI648, dkU_sn (by decide)]; exact (by rw [hF412 347 4 rfl]; exact (by rw [eI411, dkU_sn (by decide)]; exact (by rw [hF359 347 4 rfl]; exact (by rw [hF346 347 4 rfl]; exact (by rw [hF288 347 4 rfl]; exact (by rw [eI287, dkU_n (by decide)]; exact (by rw [eI286, dkU_n (by decide)]; exact (dkN_lit (0) (by rw [hz4]; rfl)))))))))) rfl) (show dkN [(0, 0)] (I648 347 5) from dkN_sub (by rw [eI648, dkU_sn (by decide)]; exact (by rw [hF412 347 5 rfl]; exact (by rw [eI411, dkU_sn (by decide)]; exact (by rw [hF359 347 5 rfl]; exact (by rw [hF346 347 5 rfl]; exact (by rw [hF288 347 5 rfl]; exact (by rw [eI287, dkU_n (by decide)]; exact (by rw [eI286, dkU_n (by decide)]; exact (dkN_lit (0) (by rw [hz5]; rfl)))))))))) rfl) ((by rw [eI648, dkU_n (by decide)] : I648 345 = _).trans ((funext fun j => hF412 345 j (dkNin_k rfl dkNin_nil)).trans ((by rw [eI411, dkU_n (by decide)] : I411 345 = _).trans ((funext fun j => hF359 345 j (dkNin_k rfl dkNin_nil)).trans ((funext fun j => hF346 345 j (dkNin_k rfl dkNin_nil)).trans ((funext fun j => hF288 345 j (dkNin_k rfl dkNin_nil)).trans ((by rw [eI287, dkU_n (by decide)] : I287 345 = _).trans ((by rw [eI286, dkU_n (by decide)] : I286 345 = _).trans z2_0)))))))) ((by rw [eI648, dkU_n (by decide)] : I648 346 = _).trans ((funext fun j => hF412 346 j (dkNin_k rfl dkNin_nil)).trans ((by rw [eI411, dkU_n (by decide)] : I411 346 = _).trans ((funext fun j => hF359 346 j (dkNin_k rfl dkNin_nil)).trans ((funext fun j => hF346 346 j (dkNin_k rfl dkNin_nil)).trans ((funext fun j => hF288 346 j (dkNin_k rfl dkNin_nil)).trans ((by rw [eI287, dkU_n (by decide)] : I287 346 = _).trans ((by rw [eI286, dkU_n (by decide)] : I286 346 = _).trans z2_1)))))))) ((by rw [eI648, dkU_n (by decide)] : I648 340 17 = _).trans ((hF412 340 17 rfl).trans ((by rw [eI411, dkU_n (by decide)] : I411 340 17 = _).trans ((hF359 340 17 rfl).trans ((hF346 340 17 rfl).trans ((hF288 340 17 rfl).trans ((by rw [eI287, dkU_sn (by decide)] : I287 340 17 = _).trans ((by rw [eI286, dkU_sn (by decide)] : I286 340 17 = _).trans zp2_0)))))))) ((by rw [eI648, dkU_n (by decide)] : I648 340 6 = _).trans ((hF412 340 6 rfl).trans ((by rw [eI411, dkU_n (by decide)] : I411 340 6 = _).trans ((hF359 340 6 rfl).trans ((hF346 340 6 rfl).trans ((hF288 340 6 rfl).trans ((by rw [eI287, dkU_sn (by decide)] : I287 340 6 = _).trans ((by rw [eI286, dkU_sn (by decide)] : I286 340 6 = _).trans zp2_1)))))))) ((by rw [eI648, dkU_n (by decide)] : I648 346 0 = _).trans ((hF412 346 0 rfl).trans ((by rw [eI411, dkU_n (by decide)] : I411 346 0 = _).trans ((hF359 346 0 rfl).trans ((hF346 346 0 rfl).trans ((hF288 346 0 rfl).trans ((by rw [eI287, dkU_n (by decide)] : I287 346 0 = _).trans ((by rw [eI286, dkU_n (by decide)] : I286 346 0 = _).trans (by rw [z2_1]))))))))) ((by rw [eI648, dkU_n (by decide)] : I648 346 4 = _).trans ((hF412 346 4 rfl).trans ((by rw [eI411, dkU_n (by decide)] : I411 346 4 = _).trans ((hF359 346 4 rfl).trans ((hF346 346 4 rfl).trans ((hF288 346 4 rfl).trans ((by rw [eI287, dkU_n (by decide)] : I287 346 4 = _).trans ((by rw [eI286, dkU_n (by decide)] : I286 346 4 = _).trans (by rw [z2_1]))))))))) ((by rw [eI648, dkU_n (by decide)] : I648 346 5 = _).trans ((hF412 346 5 rfl).trans ((by rw [eI411, dkU_n (by decide)] : I411 346 5 = _).trans ((hF359 346 5 rfl).trans ((hF346 346 5 rfl).trans ((hF288 346 5 rfl).trans ((by rw [eI287, dkU_n (by decide)] : I287 346 5 = _).trans ((by rw [eI286, dkU_n (by decide)] : I286 346 5 = _).trans (by rw [z2_1]))))))))) ⟨(dkE_k e649 (by decide)), (((show I648 340 7 = 1 from ((by rw [eI648, dkU_n (by decide)] : I648 340 7 = _).trans y642))).trans (dkP_1 e649).symm), (((show I648 340 8 = dkTe (I0 345) (I0 340 6) (dkTe (I0 345) (I0 340 6) (dkTe (I0 345) (I0 340 6) (0))) from ((by rw [eI648, dkU_n (by decide)] : I648 340 8 = _).trans y643))).trans (dkP_2 e649).symm)⟩ (lv_sub hl [0, 1] rfl)
            ·
              obtain ⟨dv359, f359_340_11, f359_340_7, f359_340_8, x359_0, x359_1, xr359, xh359_0, xh359_1, xh359_2, xh359_3, xh359_4, xh359_5, -⟩ := hc359
              have w650 : I346 340 8 = (-1) := y350
              have w651 : I346 340 11 = dkTk (I0 345) (I0 340 6) (dkTe (I0 345) (I0 340 6) (0)) := y356
              have q652 : (dkTk (I0 345) (I0 340 6) (dkTe (I0 345) (I0 340 6) (0))).toInt ≠ (2 : Int) := by have h := x359_1; rw [w651] at h; exact h
              have y653 : I359 340 7 = 1 := by have h := xh359_0; exact h
              have w654 : I346 340 10 = dkTe (I0 345) (I0 340 6) (0) := y355
              have y655 : I359 340 8 = dkTe (I0 345) (I0 340 6) (0) := by have h := xh359_1; rw [w654] at h; exact h
              have w656 : I346 340 9 = dkTe (I0 345) (I0 340 6) (dkTe (I0 345) (I0 340 6) (0)) := y354
              have y657 : I359 340 9 = dkTe (I0 345) (I0 340 6) (dkTe (I0 345) (I0 340 6) (0)) := by have h := xh359_2; rw [w656] at h; exact h
              have y658 : I359 340 10 = dkTe (I0 345) (I0 340 6) (0) := by have h := xh359_3; rw [w654] at h; exact h
              have y659 : I359 340 11 = dkTk (I0 345) (I0 340 6) (dkTe (I0 345) (I0 340 6) (0)) := by have h := xh359_4; rw [w651] at h; exact h
              have w660 : I346 340 12 = dkTv (I0 345) (I0 340 6) (dkTe (I0 345) (I0 340 6) (0)) := y357
              have y661 : I359 340 12 = dkTv (I0 345) (I0 340 6) (dkTe (I0 345) (I0 340 6) (0)) := by have h := xh359_5; rw [w660] at h; exact h
              have xv359 : v359 = 0 := by have h := xr359; exact h
              refine dk_ist (k := 347) hx hb hK hW (fun _ => rfl) (by decide) hS (dkN_in (n := 54) (dkN_lit (x := 0) (0) rfl) rfl) dX6_town_75 (fun I662 H662 L662 eI662 hW hS => ?_)
              have eI662 : I662 = dkU I359 347 0 v359 := eI662
              have hO := dkO_set hO eI662 (dkN_sub dv359 rfl)
              have hF := dkF_set hF eI662 rfl
              have hP := dkPP_set hP eI662 rfl
              refine lv_aload_n hx hb dX6_town_76 rfl (lv_at hl 0 rfl) ?_
              refine dk_get (k := 340) hx hb hts iX6_town_6 hown hK (dk_at340 hW) rfl 14 (by decide) (hts (.fieldLink RX6 28 "DogKingsModel" "draft" "[I") (List.mem_of_getElem? (i := 1) rfl)) rfl dX6_town_77 ?_
              refine lv_iconst (v := 1) hx hb dX6_town_80 (by decide) ?_
              refine lv_aload_n hx hb dX6_town_81 rfl (lv_at hl 0 rfl) ?_
              refine lv_iconst (v := 1) hx hb dX6_town_82 (by decide) ?_
              refine lv_bipush (v := 30) hx hb dX6_town_83 (by decide) ?_
              refine dk_Vi (As := [.int 1, .int 30]) (rest := [.int 1, .ref (z + 347)]) ⟨hx, hb, hml, hown, hts⟩ (h_X6_follows_0 l g z I662 1 30 (show dkN [(0, 90)] (I662 340 8) from dkN_sub (by rw [eI662, dkU_n (by decide)]; exact f359_340_8) rfl) hO) (cwV 2 hts gX6_town_X6_follows rfl rfl rfl (by decide +kernel) ⟨Nat.le_of_ble_eq_true rfl, Nat.le_of_ble_eq_true rfl⟩) (dk_at340 hW) rfl hK hT hW hS rfl hl.1 rfl (Nat.le_of_ble_eq_true rfl) dX6_town_85 ⟨Nat.zero_le _, Nat.zero_le _⟩ (fun v663 I663 H663 L663 hp663 hW hS => ?_)
              obtain ⟨hF663, hO, hc663⟩ := hp663
              have hF := dkF_call hF hF663 rfl
              have hP := dkPP_F hP hF663 rfl
              have eI663 : I662 = I663 := (dkF_nil hF663).symm
              subst eI663
              obtain ⟨dv663, xr663, -⟩ := hc663
              have xv663 : v663 = 0 := by have h := xr663; exact h
              refine dk_ist (k := 347) hx hb hK hW (fun _ => rfl) (by decide) hS (dkN_in (n := 54) (dkN_lit (x := 1) (1) rfl) rfl) dX6_town_88 (fun I664 H664 L664 eI664 hW hS => ?_)
              have eI664 : I664 = dkU I662 347 1 v663 := eI664
              have hO := dkO_set hO eI664 (dkN_sub dv663 rfl)
              have hF := dkF_set hF eI664 rfl
              have hP := dkPP_set hP eI664 rfl
              have i0 : (0 : Int32).toInt = 0 := rfl
              have i1 : (1 : Int32).toInt = 1 := rfl
              have i2 : (2 : Int32).toInt = 2 := rfl
              have i3 : (3 : Int32).toInt = 3 := rfl
              have i9 : (9 : Int32).toInt = 9 := rfl
              have i30 : (30 : Int32).toInt = 30 := rfl
              have i44 : (44 : Int32).toInt = 44 := rfl
              have i59 : (59 : Int32).toInt = 59 := rfl
              have i109 : (109 : Int32).toInt = 109 := rfl
              have i116 : (116 : Int32).toInt = 116 := rfl
              have e665 : dkTw (I0 345) (I0 340 6) = (1, dkTe (I0 345) (I0 340 6) (0)) := dkTw_l ((dkTh_p (dkK_l (T := (I0 345)) (n := (I0 340 6)) (a := 0) (c := 116) q318 (by omega))).trans (dkTh_q (dkK_1 (T := (I0 345)) (n := (I0 340 6)) (a := dkTe (I0 345) (I0 340 6) (0)) (lo := 3) (hi := 9) q652) (by decide))) (by decide)
              exact C89 I664 _ _ ls x2_1 hW hS hF hO hP (dkN_sub d285 rfl) (show dkN [(1, 2)] (I664 340 7) from dkN_sub (by rw [eI664, dkU_n (by decide)]; exact (by rw [hF663 340 7 rfl]; exact (by rw [eI662, dkU_n (by decide)]; exact f359_340_7))) rfl) (show dkN [(0, 90)] (I664 340 8) from dkN_sub (by rw [eI664, dkU_n (by decide)]; exact (by rw [hF663 340 8 rfl]; exact (by rw [eI662, dkU_n (by decide)]; exact f359_340_8))) rfl) (show dkN [(0, 0), (3, 9)] (I664 347 0) from dkN_sub (by rw [eI664, dkU_sn (by decide)]; exact (by rw [hF663 347 0 rfl]; exact (by rw [eI662, dkU_ss]; exact dv359))) rfl) (show dkN [(0, 0)] (I664 347 1) from dkN_sub (by rw [eI664, dkU_ss]; exact dv663) rfl) (show dkN [(0, 0)] (I664 347 4) from dkN_sub (by rw [eI664, dkU_sn (by decide)]; exact (by rw [hF663 347 4 rfl]; exact (by rw [eI662, dkU_sn (by decide)]; exact (by rw [hF359 347 4 rfl]; exact (by rw [hF346 347 4 rfl]; exact (by rw [hF288 347 4 rfl]; exact (by rw [eI287, dkU_n (by decide)]; exact (by rw [eI286, dkU_n (by decide)]; exact (dkN_lit (0) (by rw [hz4]; rfl)))))))))) rfl) (show dkN [(0, 0)] (I664 347 5) from dkN_sub (by rw [eI664, dkU_sn (by decide)]; exact (by rw [hF663 347 5 rfl]; exact (by rw [eI662, dkU_sn (by decide)]; exact (by rw [hF359 347 5 rfl]; exact (by rw [hF346 347 5 rfl]; exact (by rw [hF288 347 5 rfl]; exact (by rw [eI287, dkU_n (by decide)]; exact (by rw [eI286, dkU_n (by decide)]; exact (dkN_lit (0) (by rw [hz5]; rfl)))))))))) rfl) ((by rw [eI664, dkU_n (by decide)] : I664 345 = _).trans ((funext fun j => hF663 345 j dkNin_nil).trans ((by rw [eI662, dkU_n (by decide)] : I662 345 = _).trans ((funext fun j => hF359 345 j (dkNin_k rfl dkNin_nil)).trans ((funext fun j => hF346 345 j (dkNin_k rfl dkNin_nil)).trans ((funext fun j => hF288 345 j (dkNin_k rfl dkNin_nil)).trans ((by rw [eI287, dkU_n (by decide)] : I287 345 = _).trans ((by rw [eI286, dkU_n (by decide)] : I286 345 = _).trans z2_0)))))))) ((by rw [eI664, dkU_n (by decide)] : I664 346 = _).trans ((funext fun j => hF663 346 j dkNin_nil).trans ((by rw [eI662, dkU_n (by decide)] : I662 346 = _).trans ((funext fun j => hF359 346 j (dkNin_k rfl dkNin_nil)).trans ((funext fun j => hF346 346 j (dkNin_k rfl dkNin_nil)).trans ((funext fun j => hF288 346 j (dkNin_k rfl dkNin_nil)).trans ((by rw [eI287, dkU_n (by decide)] : I287 346 = _).trans ((by rw [eI286, dkU_n (by decide)] : I286 346 = _).trans z2_1)))))))) ((by rw [eI664, dkU_n (by decide)] : I664 340 17 = _).trans ((hF663 340 17 rfl).trans ((by rw [eI662, dkU_n (by decide)] : I662 340 17 = _).trans ((hF359 340 17 rfl).trans ((hF346 340 17 rfl).trans ((hF288 340 17 rfl).trans ((by rw [eI287, dkU_sn (by decide)] : I287 340 17 = _).trans ((by rw [eI286, dkU_sn (by decide)] : I286 340 17 = _).trans zp2_0)))))))) ((by rw [eI664, dkU_n (by decide)] : I664 340 6 = _).trans ((hF663 340 6 rfl).trans ((by rw [eI662, dkU_n (by decide)] : I662 340 6 = _).trans ((hF359 340 6 rfl).trans ((hF346 340 6 rfl).trans ((hF288 340 6 rfl).trans ((by rw [eI287, dkU_sn (by decide)] : I287 340 6 = _).trans ((by rw [eI286, dkU_sn (by decide)] : I286 340 6 = _).trans zp2_1)))))))) ((by rw [eI664, dkU_n (by decide)] : I664 346 0 = _).trans ((hF663 346 0 rfl).trans ((by rw [eI662, dkU_n (by decide)] : I662 346 0 = _).trans ((hF359 346 0 rfl).trans ((hF346 346 0 rfl).trans ((hF288 346 0 rfl).trans ((by rw [eI287, dkU_n (by decide)] : I287 346 0 = _).trans ((by rw [eI286, dkU_n (by decide)] : I286 346 0 = _).trans (by rw [z2_1]))))))))) ((by rw [eI664, dkU_n (by decide)] : I664 346 4 = _).trans ((hF663 346 4 rfl).trans ((by rw [eI662, dkU_n (by decide)] : I662 346 4 = _).trans ((hF359 346 4 rfl).trans ((hF346 346 4 rfl).trans ((hF288 346 4 rfl).trans ((by rw [eI287, dkU_n (by decide)] : I287 346 4 = _).trans ((by rw [eI286, dkU_n (by decide)] : I286 346 4 = _).trans (by rw [z2_1]))))))))) ((by rw [eI664, dkU_n (by decide)] : I664 346 5 = _).trans ((hF663 346 5 rfl).trans ((by rw [eI662, dkU_n (by decide)] : I662 346 5 = _).trans ((hF359 346 5 rfl).trans ((hF346 346 5 rfl).trans ((hF288 346 5 rfl).trans ((by rw [eI287, dkU_n (by decide)] : I287 346 5 = _).trans ((by rw [eI286, dkU_n (by decide)] : I286 346 5 = _).trans (by rw [z2_1]))))))))) ⟨(dkE_k e665 (by decide)), (((show I664 340 7 = 1 from ((by rw [eI664, dkU_n (by decide)] : I664 340 7 = _).trans ((hF663 340 7 rfl).trans ((by rw [eI662, dkU_n (by decide)] : I662 340 7 = _).trans y653))))).trans (dkP_1 e665).symm), (((show I664 340 8 = dkTe (I0 345) (I0 340 6) (0) from ((by rw [eI664, dkU_n (by decide)] : I664 340 8 = _).trans ((hF663 340 8 rfl).trans ((by rw [eI662, dkU_n (by decide)] : I662 340 8 = _).trans y655))))).trans (dkP_2 e665).symm)⟩ (lv_sub hl [0, 1] rfl)
      ·
        have d666 : dkN [(0, 53)] x2_1 := dkN_le1 1 k2_0 (dkN_lit (x := 54) (54) rfl) (dkc_nle c284) rfl
        refine lv_aload_n hx hb dX6_town_8 rfl (lv_at hl 0 rfl) ?_
        refine dk_get (k := 340) hx hb hts iX6_town_6 hown hK (dk_at340 hW) rfl 14 (by decide) (hts (.fieldLink RX6 28 "DogKingsModel" "draft" "[I") (List.mem_of_getElem? (i := 1) rfl)) rfl dX6_town_9 ?_
        refine lv_iload_n hx hb dX6_town_12 rfl (lv_at hl 1 rfl) ?_
        refine lv_iconst (v := 0) hx hb dX6_town_13 (by decide) ?_
        refine dk_ist (k := 347) hx hb hK hW (fun _ => rfl) (by decide) hS (dkN_in (n := 54) d666 rfl) dX6_town_14 (fun I667 H667 L667 eI667 hW hS => ?_)
        have hO := dkO_set hO eI667 (dkB_zero (k := 347) (by decide) _)
        have hF := dkF_set hF eI667 (dkIn_v d666 rfl)
        have hP := dkPP_set hP eI667 (dkPPb_v d666 rfl)
        obtain ⟨v668, ev668⟩ : ∃ y : Int32, y = x2_1 + 1 := ⟨_, rfl⟩
        have dv668 : dkN [(1, 54)] v668 := by rw [ev668]; exact dkN_add d666 (dkN_lit (x := 1) (1) rfl) rfl
        refine lv_iinc (v := v668) (lv' := [(1, .int v668), (0, .ref (z + 340))]) hx hb dX6_town_15 hl (k := 1) rfl (by rw [ev668]; rfl) (by decide) rfl (fun ls hl => ?_)
        refine lv_goto (tgt := 2) hx hb dX6_town_18 (by decide) ?_
        exact ih2 I667 _ _ ls v668 (dk_near hn2 (by rw [ev668]; exact dk_inc d666 rfl) (dkN_lt d666 rfl)) hW hS hF hO hP (dkN_sub dv668 rfl) ((by rw [eI667, dkU_n (by decide)] : I667 345 = _).trans z2_0) ((by rw [eI667, dkU_n (by decide)] : I667 346 = _).trans z2_1) ((by rw [eI667, dkU_n (by decide)] : I667 340 17 = _).trans zp2_0) ((by rw [eI667, dkU_n (by decide)] : I667 340 6 = _).trans zp2_1) ((by rw [eI667, dkU_n (by decide)] : I667 340 7 = _).trans zp2_2) ((by rw [eI667, dkU_n (by decide)] : I667 346 0 = _).trans (by rw [z2_1])) ((by rw [eI667, dkU_n (by decide)] : I667 346 4 = _).trans (by rw [z2_1])) ((by rw [eI667, dkU_n (by decide)] : I667 346 5 = _).trans (by rw [z2_1])) (dkZ_s cx2 eI667 (by rw [ev668]; exact dk_inc d666 rfl) (dk_nlt (dkN_ge d666 rfl))) (lv_sub hl [1, 0] rfl)
  refine lv_iconst (v := 0) hx hb dX6_town_0 (by decide) ?_
  refine lv_istore_n (lv' := [(1, .int 0), (0, .ref (z + 340))]) hx hb dX6_town_1 rfl hl (by decide) rfl (fun ls hl => ?_)
  exact C2 _ I0 _ _ ls 0 (Nat.lt_succ_self _) hW hS hF hO hP (dkN_sub (dkN_lit (x := 0) (0) rfl) rfl) rfl rfl rfl rfl rfl rfl rfl rfl (fun j hj => absurd hj (by show ¬ ((j : Int) < 0); omega)) (lv_sub hl [1, 0] rfl)
