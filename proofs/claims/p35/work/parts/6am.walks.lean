set_option maxHeartbeats 4000000 in
set_option maxRecDepth 100000 in
theorem fx_X0_forget_1 (l : Launch) (g : dkG) (z : Nat) (I0 : dkI)  (hO : dkOk I0) : Met l yX0_forget wsX0_forget (dkR 0) (dkPc g z [.ref (z + 59)] I0) (dkQv g z (fun I1 => dkF [(59, 59, 2, 2)] I0 I1 ∧ dkOk I1 ∧ ((dkN [(0, 0)] (I1 59 2) ∧ I1 59 2 = 0 ∧ True)))) 0 0 (dkA z) := by
  refine Met.ofW (cc := cX0_forget) (maxL := 1) (ret := none) (by decide) rfl ?_
  intro p e s m args below meth c s₁ B hml hv
  obtain ⟨ha, hW, hK, hT⟩ := hv
  have hx := B.exec
  have hb := B.bytes
  have hr := B.returns
  have hts := atoms_spec (ws := wsX0_forget) B.pre
  have hown : s.vm.findClass RX0 = some m.cls := findClass_of_methodNamed B.named
  have hlocks := B.notSynchronized
  have hS : va_S (dkA z) s.heap s.heap [] := va_S.rf
  have hF : dkF [(59, 59, 2, 2)] I0 I0 := dkF_rf _ _
  have hl := lv_entry ([.ref (z + 59)]) (n := 1) (Nat.le_of_ble_eq_true rfl)
  have hgo : entryFrame m args 1 = entryFrame m ([.ref (z + 59)] : List Value).toArray 1 := by rw [ha]
  rw [hgo, lg_entry_eq]
  generalize (lg_sl ([.ref (z + 59)]) ++ List.replicate (1 - (lg_sl ([.ref (z + 59)])).length) Slot.unset).toArray = ls at hl ⊢
  have hl : lv_has ls 1 [(0, .ref (z + 59))] := hl
  refine lv_aload_n hx hb dX0_forget_0 rfl (lv_at hl 0 rfl) ?_
  refine lv_iconst (v := 0) hx hb dX0_forget_1 (by decide) ?_
  refine dk_put (k := 59) hx hb hts iX0_forget_0 tyX0 tyX0_ok nmX0 hown hK hW (dk_at59 hW) hS rfl 2 (by decide) (hts (.fieldLink RX0 24 "DogKings$Acts" "kept" "I") (List.mem_of_getElem? (i := 1) rfl)) rfl rfl (Nat.le_of_ble_eq_true rfl) rfl dX0_forget_2 (fun I1 H1 L1 eI1 hW hS => ?_)
  have eI1 : I1 = dkU I0 59 2 0 := eI1
  have hO := dkO_set hO eI1 (dkN_sub (dkN_lit (x := 0) (0) rfl) rfl)
  have hF := dkF_set hF eI1 rfl
  exact W.vret hx hb hr (fun t ht hW9 => ⟨⟨I1, rfl, ⟨hF, hO, ⟨(show dkN [(0, 0)] (I1 59 2) from dkN_sub (by rw [eI1, dkU_ss]; exact (dkN_lit (x := 0) (0) rfl)) rfl), (by rw [eI1, dkU_ss]), trivial⟩⟩, dkW_eq ht hW⟩, hS.F ht⟩) hS.2.2 dX0_forget_5
set_option maxHeartbeats 4000000 in
set_option maxRecDepth 100000 in
theorem fx_X5_town_1 (l : Launch) (g : dkG) (z : Nat) (I0 : dkI)  (hO : dkOk I0) (hP : dkQQ I0) : Met l yX5_town wsX5_town (dkR 5) (dkPc g z [.ref (z + 0)] I0) (dkQi g z (fun r I1 => dkF [(12, 12, 1, 2), (12, 12, 4, 5), (14, 14, 0, 4), (14, 14, 11, 11), (14, 14, 15, 17), (15, 15, 0, 4), (16, 16, 0, 4), (17, 17, 0, 4), (18, 18, 0, 4), (19, 19, 0, 4), (20, 20, 0, 4), (21, 21, 0, 5), (22, 22, 0, 5), (23, 23, 0, 5), (25, 25, 0, 4), (25, 25, 11, 11), (25, 25, 15, 17), (26, 26, 0, 4), (27, 27, 0, 4), (28, 28, 0, 4), (29, 29, 0, 4), (30, 30, 0, 4), (31, 31, 0, 4), (32, 32, 0, 5), (33, 33, 0, 5), (34, 34, 0, 5), (59, 59, 2, 2)] I0 I1 ∧ dkOk I1 ∧ dkQQ I1 ∧ ((True ∧ dkN [(0, 0)] (I1 12 1) ∧ (dkTw (I0 13) (I0 12 1)).1 ≠ 0 ∧ r = (-1000100 : Int32) - ((dkTw (I0 13) (I0 12 1)).2) ∧ I1 12 1 = 0 ∧ I1 12 5 = (dkTw (I0 13) (I0 12 1)).1 ∧ I1 25 0 = I0 25 0 ∧ I1 25 4 = I0 25 4 ∧ I1 25 11 = I0 25 11 ∧ I1 59 2 = I0 59 2 ∧ I1 32  = I0 32 ∧ True) ∨ (dkN [(0, 6)] r ∧ dkN [(0, 0)] (I1 12 1) ∧ dkN [(3, 9)] (I1 14 0) ∧ dkN [(1, 30)] (I1 14 1) ∧ dkN [(0, 0)] (I1 14 16) ∧ dkN [(0, 0)] (I1 14 17) ∧ dkN [(0, 0)] (I1 14 2) ∧ dkN [(0, 0)] (I1 14 3) ∧ dkN [(1, 5)] (I1 14 4) ∧ dkN [(0, 0)] (I1 59 2) ∧ (dkTw (I0 13) (I0 12 1)).1 = 0 ∧ r = dkTd (I0 13) (I0 12 1) ∧ I1 12 1 = 0 ∧ I1 12 5 = I0 12 5 ∧ I1 25 0 = dkHh (I0 13) (I0 12 1) ∧ I1 25 4 = dkTp (I0 13) (I0 12 1) ∧ I1 25 11 = dkTd (I0 13) (I0 12 1) ∧ I1 59 2 = 0 ∧ (∀ j : Nat, j < Int32.toNatClampNeg (dkTd (I0 13) (I0 12 1)) → I1 32 j = dkSs (I0 13) (I0 12 1) j ∧ dkSs (I0 13) (I0 12 1) j ≠ -1000000) ∧ True)))) 0 0 (dkA z) := by
  refine Met.ofW (cc := cX5_town) (maxL := 1) (ret := (some .int)) (by decide) rfl ?_
  intro p e s m args below meth c s₁ B hml hv
  obtain ⟨ha, hW, hK, hT⟩ := hv
  have hx := B.exec
  have hb := B.bytes
  have hr := B.returns
  have hts := atoms_spec (ws := wsX5_town) B.pre
  have hown : s.vm.findClass RX5 = some m.cls := findClass_of_methodNamed B.named
  have hlocks := B.notSynchronized
  have hS : va_S (dkA z) s.heap s.heap [] := va_S.rf
  have hF : dkF [(12, 12, 1, 2), (12, 12, 4, 5), (14, 14, 0, 4), (14, 14, 11, 11), (14, 14, 15, 17), (15, 15, 0, 4), (16, 16, 0, 4), (17, 17, 0, 4), (18, 18, 0, 4), (19, 19, 0, 4), (20, 20, 0, 4), (21, 21, 0, 5), (22, 22, 0, 5), (23, 23, 0, 5), (25, 25, 0, 4), (25, 25, 11, 11), (25, 25, 15, 17), (26, 26, 0, 4), (27, 27, 0, 4), (28, 28, 0, 4), (29, 29, 0, 4), (30, 30, 0, 4), (31, 31, 0, 4), (32, 32, 0, 5), (33, 33, 0, 5), (34, 34, 0, 5), (59, 59, 2, 2)] I0 I0 := dkF_rf _ _
  have hl := lv_entry ([.ref (z + 0)]) (n := 1) (Nat.le_of_ble_eq_true rfl)
  have hgo : entryFrame m args 1 = entryFrame m ([.ref (z + 0)] : List Value).toArray 1 := by rw [ha]
  rw [hgo, lg_entry_eq]
  generalize (lg_sl ([.ref (z + 0)]) ++ List.replicate (1 - (lg_sl ([.ref (z + 0)])).length) Slot.unset).toArray = ls at hl ⊢
  have hl : lv_has ls 1 [(0, .ref (z + 0))] := hl
  refine lv_aload_n hx hb dX5_town_0 rfl (lv_at hl 0 rfl) ?_
  refine dk_get (k := 0) hx hb hts iX5_town_5 hown hK (dk_at0 hW) rfl 4 (by decide) (hts (.fieldLink RX5 24 "DogKings" "reader" "LDogKings$Reader;") (List.mem_of_getElem? (i := 1) rfl)) rfl dX5_town_1 ?_
  refine dk_Vi (As := []) (rest := []) ⟨hx, hb, hml, hown, hts⟩ (fx_X2_reads_1 l g z I0 hO) (cwV 0 hts gX5_town_X2_reads rfl rfl rfl (by decide +kernel) ⟨Nat.le_of_ble_eq_true rfl, Nat.le_of_ble_eq_true rfl⟩) (dk_at12 hW) rfl hK hT hW hS rfl hl.1 rfl (Nat.le_of_ble_eq_true rfl) dX5_town_4 ⟨Nat.zero_le _, Nat.zero_le _⟩ (fun v1 I1 H1 L1 hp1 hW hS => ?_)
  obtain ⟨hF1, hO, hc1⟩ := hp1
  have hF := dkF_call hF hF1 rfl
  have hP := dkQQ_F hP hF1 rfl
  rcases hc1 with ⟨dv1, f1_12_1, x1_0, xr1, xh1_0, xh1_1, xh1_2, -⟩ | hc1
  ·
    have q2 : (dkTw (I0 13) (I0 12 1)).1 ≠ 0 := x1_0
    have y3 : I1 12 1 = 0 := by have h := xh1_0; exact h
    have y4 : I1 12 4 = (dkTw (I0 13) (I0 12 1)).2 := by have h := xh1_1; exact h
    have y5 : I1 12 5 = (dkTw (I0 13) (I0 12 1)).1 := by have h := xh1_2; exact h
    have xv1 : v1 = 0 := by have h := xr1; exact h
    refine lv_if_ne (tgt := 21) hx hb dX5_town_7 (by decide) (fun c6 => ?_) (fun c6 => ?_)
    ·
      exact absurd ((xv1).trans (rfl).symm) c6
    ·
      refine lv_ldc (v := (-1000100)) hx hb hown (hts (.constant RX5 106 (-1000100)) (List.mem_of_getElem? (i := 2) rfl)) dX5_town_10 ?_
      refine lv_aload_n hx hb dX5_town_12 rfl (lv_at hl 0 rfl) ?_
      refine dk_get (k := 0) hx hb hts iX5_town_5 hown hK (dk_at0 hW) rfl 4 (by decide) (hts (.fieldLink RX5 24 "DogKings" "reader" "LDogKings$Reader;") (List.mem_of_getElem? (i := 1) rfl)) rfl dX5_town_13 ?_
      refine dk_get (k := 12) hx hb hts iX5_town_2 hown hK (dk_at12 hW) rfl 4 (by decide) (hts (.fieldLink RX5 107 "DogKings$Reader" "faultPlace" "I") (List.mem_of_getElem? (i := 3) rfl)) rfl dX5_town_16 ?_
      refine lv_topi (fun v7 ev7 => ?_)
      have xv7 : v7 = (dkTw (I0 13) (I0 12 1)).2 := ev7.trans y4
      refine lv_isub hx hb dX5_town_19 ?_
      refine lv_topi (fun v8 ev8 => ?_)
      have xv8 : v8 = (-1000100 : Int32) - ((dkTw (I0 13) (I0 12 1)).2) := by rw [ev8, xv7]
      exact W.iret (v := v8) hx hb hr (fun t ht hW9 => ⟨⟨v8, I1, rfl, ⟨hF, hO, hP, Or.inl ⟨trivial, (show dkN [(0, 0)] (I1 12 1) from dkN_sub f1_12_1 rfl), q2, xv8, y3, y5, ((hF1 25 0 rfl).trans rfl), ((hF1 25 4 rfl).trans rfl), ((hF1 25 11 rfl).trans rfl), ((hF1 59 2 rfl).trans rfl), ((funext fun j => hF1 32 j (dkNin_k rfl (dkNin_k rfl (dkNin_k rfl (dkNin_k rfl (dkNin_k rfl (dkNin_k rfl (dkNin_k rfl (dkNin_k rfl (dkNin_k rfl (dkNin_k rfl (dkNin_k rfl (dkNin_k rfl (dkNin_k rfl (dkNin_k rfl dkNin_nil))))))))))))))).trans rfl), trivial⟩⟩, dkW_eq ht hW⟩, hS.F ht⟩) hS.2.2 dX5_town_20
  ·
    obtain ⟨dv1, f1_12_1, f1_14_0, f1_14_1, f1_14_16, f1_14_17, f1_14_2, f1_14_3, f1_14_4, x1_0, xr1, xh1_0, xh1_1, xh1_2, xh1_3, xh1_4, xp1_0, -⟩ := hc1
    have q9 : (dkTw (I0 13) (I0 12 1)).1 = 0 := x1_0
    have y10 : I1 12 1 = 0 := by have h := xh1_0; exact h
    have y11 : I1 12 5 = I0 12 5 := by have h := xh1_1; exact h
    have y12 : I1 14 0 = dkHh (I0 13) (I0 12 1) := by have h := xh1_2; exact h
    have y13 : I1 14 4 = dkTp (I0 13) (I0 12 1) := by have h := xh1_3; exact h
    have y14 : I1 14 11 = dkTd (I0 13) (I0 12 1) := by have h := xh1_4; exact h
    have yp15 : ∀ j : Nat, j < Int32.toNatClampNeg (dkTd (I0 13) (I0 12 1)) → I1 21 j = dkSs (I0 13) (I0 12 1) j ∧ dkSs (I0 13) (I0 12 1) j ≠ -1000000 := by have h := xp1_0; exact h
    have xv1 : v1 = 1 := by have h := xr1; exact h
    refine lv_if_ne (tgt := 21) hx hb dX5_town_7 (by decide) (fun c16 => ?_) (fun c16 => ?_)
    ·
      refine lv_aload_n hx hb dX5_town_21 rfl (lv_at hl 0 rfl) ?_
      refine dk_get (k := 0) hx hb hts iX5_town_5 hown hK (dk_at0 hW) rfl 5 (by decide) (hts (.fieldLink RX5 31 "DogKings" "now" "LDogKings$Town;") (List.mem_of_getElem? (i := 4) rfl)) rfl dX5_town_22 ?_
      refine lv_aload_n hx hb dX5_town_25 rfl (lv_at hl 0 rfl) ?_
      refine dk_get (k := 0) hx hb hts iX5_town_5 hown hK (dk_at0 hW) rfl 4 (by decide) (hts (.fieldLink RX5 24 "DogKings" "reader" "LDogKings$Reader;") (List.mem_of_getElem? (i := 1) rfl)) rfl dX5_town_26 ?_
      refine dk_get (k := 12) hx hb hts iX5_town_2 hown hK (dk_at12 hW) rfl 3 (by decide) (hts (.fieldLink RX5 111 "DogKings$Reader" "draft" "LDogKings$Town;") (List.mem_of_getElem? (i := 5) rfl)) rfl dX5_town_29 ?_
      refine dk_Vv (As := [.ref (z + 14)]) (rest := []) ⟨hx, hb, hml, hown, hts⟩ (fx_X4_become_1 l g z I1 (25) (by unfold dkT; omega) (14) (by unfold dkT; omega) (by omega) hO) (cwV 1 hts gX5_town_X4_become rfl rfl rfl (by decide +kernel) ⟨Nat.le_of_ble_eq_true rfl, Nat.le_of_ble_eq_true rfl⟩) (dk_at25 hW) rfl hK hT hW hS rfl hl.1 rfl (Nat.le_of_ble_eq_true rfl) dX5_town_32 ⟨Nat.zero_le _, Nat.zero_le _⟩ (fun I17 H17 L17 hp17 hW hS => ?_)
      obtain ⟨hF17, hO, hc17⟩ := hp17
      have hF := dkF_call hF hF17 rfl
      obtain ⟨xh17_0, xh17_1, xh17_2, xp17_0, -⟩ := hc17
      have w18 : I1 14 0 = dkHh (I0 13) (I0 12 1) := y12
      have y19 : I17 25 0 = dkHh (I0 13) (I0 12 1) := by have h := xh17_0; rw [w18] at h; exact h
      have w20 : I1 14 4 = dkTp (I0 13) (I0 12 1) := y13
      have y21 : I17 25 4 = dkTp (I0 13) (I0 12 1) := by have h := xh17_1; rw [w20] at h; exact h
      have w22 : I1 14 11 = dkTd (I0 13) (I0 12 1) := y14
      have y23 : I17 25 11 = dkTd (I0 13) (I0 12 1) := by have h := xh17_2; rw [w22] at h; exact h
      refine lv_aload_n hx hb dX5_town_35 rfl (lv_at hl 0 rfl) ?_
      refine dk_get (k := 0) hx hb hts iX5_town_5 hown hK (dk_at0 hW) rfl 7 (by decide) (hts (.fieldLink RX5 42 "DogKings" "acts" "LDogKings$Acts;") (List.mem_of_getElem? (i := 6) rfl)) rfl dX5_town_36 ?_
      refine dk_Vv (As := []) (rest := []) ⟨hx, hb, hml, hown, hts⟩ (fx_X0_forget_1 l g z I17 hO) (cwV 0 hts gX5_town_X0_forget rfl rfl rfl (by decide +kernel) ⟨Nat.le_of_ble_eq_true rfl, Nat.le_of_ble_eq_true rfl⟩) (dk_at59 hW) rfl hK hT hW hS rfl hl.1 rfl (Nat.le_of_ble_eq_true rfl) dX5_town_39 ⟨Nat.zero_le _, Nat.zero_le _⟩ (fun I24 H24 L24 hp24 hW hS => ?_)
      obtain ⟨hF24, hO, hc24⟩ := hp24
      have hF := dkF_call hF hF24 rfl
      obtain ⟨f24_59_2, xh24_0, -⟩ := hc24
      have y25 : I24 59 2 = 0 := by have h := xh24_0; exact h
      have hP := dkQQ_0 y25
      refine lv_aload_n hx hb dX5_town_42 rfl (lv_at hl 0 rfl) ?_
      refine dk_get (k := 0) hx hb hts iX5_town_5 hown hK (dk_at0 hW) rfl 5 (by decide) (hts (.fieldLink RX5 31 "DogKings" "now" "LDogKings$Town;") (List.mem_of_getElem? (i := 4) rfl)) rfl dX5_town_43 ?_
      refine dk_get (k := 25) hx hb hts iX5_town_4 hown hK (dk_at25 hW) rfl 11 (by decide) (hts (.fieldLink RX5 120 "DogKings$Town" "dogs" "I") (List.mem_of_getElem? (i := 7) rfl)) rfl dX5_town_46 ?_
      refine lv_topi (fun v26 ev26 => ?_)
      have dv26 : dkN [(0, 6)] v26 := by rw [ev26]; exact (hO 25 11)
      have xv26 : v26 = dkTd (I0 13) (I0 12 1) := ev26.trans ((hF24 25 11 rfl).trans y23)
      exact W.iret (v := v26) hx hb hr (fun t ht hW9 => ⟨⟨v26, I24, rfl, ⟨hF, hO, hP, Or.inr (⟨dkN_sub dv26 rfl, (show dkN [(0, 0)] (I24 12 1) from dkN_sub (by rw [hF24 12 1 rfl]; exact (by rw [hF17 12 1 rfl]; exact f1_12_1)) rfl), (show dkN [(3, 9)] (I24 14 0) from dkN_sub (by rw [hF24 14 0 rfl]; exact (by rw [hF17 14 0 rfl]; exact f1_14_0)) rfl), (show dkN [(1, 30)] (I24 14 1) from dkN_sub (by rw [hF24 14 1 rfl]; exact (by rw [hF17 14 1 rfl]; exact f1_14_1)) rfl), (show dkN [(0, 0)] (I24 14 16) from dkN_sub (by rw [hF24 14 16 rfl]; exact (by rw [hF17 14 16 rfl]; exact f1_14_16)) rfl), (show dkN [(0, 0)] (I24 14 17) from dkN_sub (by rw [hF24 14 17 rfl]; exact (by rw [hF17 14 17 rfl]; exact f1_14_17)) rfl), (show dkN [(0, 0)] (I24 14 2) from dkN_sub (by rw [hF24 14 2 rfl]; exact (by rw [hF17 14 2 rfl]; exact f1_14_2)) rfl), (show dkN [(0, 0)] (I24 14 3) from dkN_sub (by rw [hF24 14 3 rfl]; exact (by rw [hF17 14 3 rfl]; exact f1_14_3)) rfl), (show dkN [(1, 5)] (I24 14 4) from dkN_sub (by rw [hF24 14 4 rfl]; exact (by rw [hF17 14 4 rfl]; exact f1_14_4)) rfl), (show dkN [(0, 0)] (I24 59 2) from dkN_sub f24_59_2 rfl), q9, xv26, ((hF24 12 1 rfl).trans ((hF17 12 1 rfl).trans y10)), ((hF24 12 5 rfl).trans ((hF17 12 5 rfl).trans y11)), ((hF24 25 0 rfl).trans y19), ((hF24 25 4 rfl).trans y21), ((hF24 25 11 rfl).trans y23), y25, (fun j hj => ⟨(congrFun ((funext fun j => hF24 32 j (dkNin_k rfl dkNin_nil)).trans rfl) j).trans ((xp17_0 j (by rw [show I1 14 11 = dkTd (I0 13) (I0 12 1) from y14]; exact hj)).trans (yp15 j hj).1), (yp15 j hj).2⟩), trivial⟩)⟩, dkW_eq ht hW⟩, hS.F ht⟩) hS.2.2 dX5_town_49
    ·
      exact (dkN_nil (show dkN [] v1 from dkN_eq1 dv1 (dkN_lit (x := 0) (0) rfl) (congrArg Int32.toInt c16) rfl)).elim
set_option maxHeartbeats 4000000 in
set_option maxRecDepth 100000 in
theorem fx_X6_byteAt_2 (l : Launch) (g : dkG) (z : Nat) (I0 : dkI) (p0 : Int32) (dp0 : dkN [(0, 90)] p0)  (hO : dkOk I0) : Met l yX6_byteAt wsX6_byteAt (dkR 0) (dkPc g z [.ref (z + 340), .int p0] I0) (dkQi g z (fun r I1 => dkF [] I0 I1 ∧ dkOk I1 ∧ ((dkN [(-1, -1)] r ∧ (I0 340 6).toInt + 0 ≤ p0.toInt ∧ r = (-1) ∧ True) ∨ (dkN [(0, 255)] r ∧ dkN [(0, 89)] p0 ∧ dkN [(1, 90)] (I1 340 6) ∧ p0.toInt + 1 ≤ (I0 340 6).toInt ∧ r = I0 345 (Int32.toNatClampNeg p0) ∧ True)))) 0 0 (dkA z) := by
  refine Met.ofW (cc := cX6_byteAt) (maxL := 2) (ret := (some .int)) (by decide) rfl ?_
  intro p e s m args below meth c s₁ B hml hv
  obtain ⟨ha, hW, hK, hT⟩ := hv
  have hx := B.exec
  have hb := B.bytes
  have hr := B.returns
  have hts := atoms_spec (ws := wsX6_byteAt) B.pre
  have hown : s.vm.findClass RX6 = some m.cls := findClass_of_methodNamed B.named
  have hlocks := B.notSynchronized
  have hS : va_S (dkA z) s.heap s.heap [] := va_S.rf
  have hF : dkF [] I0 I0 := dkF_rf _ _
  have hl := lv_entry ([.ref (z + 340), .int p0]) (n := 2) (Nat.le_of_ble_eq_true rfl)
  have hgo : entryFrame m args 2 = entryFrame m ([.ref (z + 340), .int p0] : List Value).toArray 2 := by rw [ha]
  rw [hgo, lg_entry_eq]
  generalize (lg_sl ([.ref (z + 340), .int p0]) ++ List.replicate (2 - (lg_sl ([.ref (z + 340), .int p0])).length) Slot.unset).toArray = ls at hl ⊢
  have hl : lv_has ls 2 [(0, .ref (z + 340)), (1, .int p0)] := hl
  refine lv_iload_n hx hb dX6_byteAt_0 rfl (lv_at hl 1 rfl) ?_
  refine lv_aload_n hx hb dX6_byteAt_1 rfl (lv_at hl 0 rfl) ?_
  refine dk_get (k := 340) hx hb hts iX6_byteAt_6 hown hK (dk_at340 hW) rfl 6 (by decide) (hts (.fieldLink RX6 82 "DogKingsModel" "taped" "I") (List.mem_of_getElem? (i := 1) rfl)) rfl dX6_byteAt_2 ?_
  refine lv_topi (fun v1 ev1 => ?_)
  have dv1 : dkN [(0, 90)] v1 := by rw [ev1]; exact (hO 340 6)
  have xv1 : v1 = I0 340 6 := ev1.trans rfl
  refine lv_icmp_ge (tgt := 17) hx hb dX6_byteAt_5 (by decide) (fun c2 => ?_) (fun c2 => ?_)
  ·
    have q3 : (I0 340 6).toInt + 0 ≤ p0.toInt := by first | (rw [← xv1]; exact (dkc_le c2)) | (subst xv1; exact (dkc_le c2))
    refine lv_iconst (v := (-1)) hx hb dX6_byteAt_17 (by decide) ?_
    exact W.iret (v := (-1)) hx hb hr (fun t ht hW9 => ⟨⟨(-1), I0, rfl, ⟨hF, hO, Or.inl ⟨dkN_sub (dkN_lit (x := (-1)) (-1) rfl) rfl, q3, rfl, trivial⟩⟩, dkW_eq ht hW⟩, hS.F ht⟩) hS.2.2 dX6_byteAt_18
  ·
    have q4 : p0.toInt + 1 ≤ (I0 340 6).toInt := by first | (rw [← xv1]; exact (dkc_nle c2)) | (subst xv1; exact (dkc_nle c2))
    have d5 : dkN [(1, 90)] v1 := dkN_le2 1 dp0 dv1 (dkc_nle c2) rfl
    have f6 : dkN [(1, 90)] (I0 340 6) := by rw [← ev1]; exact d5
    have d7 : dkN [(0, 89)] p0 := dkN_le1 1 dp0 dv1 (dkc_nle c2) rfl
    refine lv_aload_n hx hb dX6_byteAt_8 rfl (lv_at hl 0 rfl) ?_
    refine dk_get (k := 340) hx hb hts iX6_byteAt_6 hown hK (dk_at340 hW) rfl 5 (by decide) (hts (.fieldLink RX6 22 "DogKingsModel" "tape" "[I") (List.mem_of_getElem? (i := 2) rfl)) rfl dX6_byteAt_9 ?_
    refine lv_iload_n hx hb dX6_byteAt_12 rfl (lv_at hl 1 rfl) ?_
    refine dk_ild (k := 345) hx hb hK (dk_at345 hW) (dkN_in (n := 90) d7 rfl) dX6_byteAt_13 ?_
    refine lv_topi (fun v8 ev8 => ?_)
    have dv8 : dkN [(0, 255)] v8 := by rw [ev8]; exact (hO 345 _)
    have xv8 : v8 = I0 345 (Int32.toNatClampNeg p0) := ev8.trans rfl
    refine lv_goto (tgt := 18) hx hb dX6_byteAt_14 (by decide) ?_
    exact W.iret (v := v8) hx hb hr (fun t ht hW9 => ⟨⟨v8, I0, rfl, ⟨hF, hO, Or.inr (⟨dkN_sub dv8 rfl, dkN_sub d7 rfl, (show dkN [(1, 90)] (I0 340 6) from dkN_sub f6 rfl), q4, xv8, trivial⟩)⟩, dkW_eq ht hW⟩, hS.F ht⟩) hS.2.2 dX6_byteAt_18
set_option maxHeartbeats 4000000 in
set_option maxRecDepth 100000 in
theorem fx_X6_in_23 (l : Launch) (g : dkG) (z : Nat) (I0 : dkI) (p0 : Int32) (p1 : Int32) (p2 : Int32) (dp0 : dkN [(-1, -1)] p0) (dp1 : dkN [(48, 48)] p1) (dp2 : dkN [(57, 57)] p2)  (hO : dkOk I0) : Met l yX6_in wsX6_in (dkR 0) (dkPc g z [.int p0, .int p1, .int p2] I0) (dkQi g z (fun r I1 => dkF [] I0 I1 ∧ dkOk I1 ∧ ((dkN [(0, 0)] r ∧ p0.toInt + 1 ≤ p1.toInt ∧ r = 0 ∧ True)))) 0 0 (dkA z) := by
  refine Met.ofW (cc := cX6_in) (maxL := 3) (ret := (some .boolean)) (by decide) rfl ?_
  intro p e s m args below meth c s₁ B hml hv
  obtain ⟨ha, hW, hK, hT⟩ := hv
  have hx := B.exec
  have hb := B.bytes
  have hr := B.returns
  have hts := atoms_spec (ws := wsX6_in) B.pre
  have hown : s.vm.findClass RX6 = some m.cls := findClass_of_methodNamed B.named
  have hlocks := B.notSynchronized
  have hS : va_S (dkA z) s.heap s.heap [] := va_S.rf
  have hF : dkF [] I0 I0 := dkF_rf _ _
  have hl := lv_entry ([.int p0, .int p1, .int p2]) (n := 3) (Nat.le_of_ble_eq_true rfl)
  have hgo : entryFrame m args 3 = entryFrame m ([.int p0, .int p1, .int p2] : List Value).toArray 3 := by rw [ha]
  rw [hgo, lg_entry_eq]
  generalize (lg_sl ([.int p0, .int p1, .int p2]) ++ List.replicate (3 - (lg_sl ([.int p0, .int p1, .int p2])).length) Slot.unset).toArray = ls at hl ⊢
  have hl : lv_has ls 3 [(0, .int p0), (1, .int p1), (2, .int p2)] := hl
  refine lv_iload_n hx hb dX6_in_0 rfl (lv_at hl 0 rfl) ?_
  refine lv_iload_n hx hb dX6_in_1 rfl (lv_at hl 1 rfl) ?_
  refine lv_icmp_lt (tgt := 14) hx hb dX6_in_2 (by decide) (fun c1 => ?_) (fun c1 => ?_)
  ·
    have q2 : p0.toInt + 1 ≤ p1.toInt := (dkc_lt c1)
    refine lv_iconst (v := 0) hx hb dX6_in_14 (by decide) ?_
    exact W.zret (v := 0) (ty := .boolean) hx hb hr rfl (fun t ht hW9 => ⟨⟨0, I0, rfl, ⟨hF, hO, ⟨dkN_sub (dkN_lit (x := 0) (0) rfl) rfl, q2, rfl, trivial⟩⟩, dkW_eq ht hW⟩, hS.F ht⟩) hS.2.2 dX6_in_15
  ·
    exact (dkN_nil (show dkN [] p0 from dkN_le2 0 dp1 dp0 (dkc_nlt c1) rfl)).elim
set_option maxHeartbeats 4000000 in
set_option maxRecDepth 100000 in
theorem fx_X6_in_24 (l : Launch) (g : dkG) (z : Nat) (I0 : dkI) (p0 : Int32) (p1 : Int32) (p2 : Int32) (dp0 : dkN [(0, 255)] p0) (dp1 : dkN [(48, 48)] p1) (dp2 : dkN [(57, 57)] p2)  (hO : dkOk I0) : Met l yX6_in wsX6_in (dkR 0) (dkPc g z [.int p0, .int p1, .int p2] I0) (dkQi g z (fun r I1 => dkF [] I0 I1 ∧ dkOk I1 ∧ ((dkN [(0, 0)] r ∧ dkN [(0, 47)] p0 ∧ p0.toInt + 1 ≤ p1.toInt ∧ r = 0 ∧ True) ∨ (dkN [(0, 0)] r ∧ dkN [(58, 255)] p0 ∧ p1.toInt + 0 ≤ p0.toInt ∧ p2.toInt + 1 ≤ p0.toInt ∧ r = 0 ∧ True) ∨ (dkN [(1, 1)] r ∧ dkN [(48, 57)] p0 ∧ p1.toInt + 0 ≤ p0.toInt ∧ p0.toInt + 0 ≤ p2.toInt ∧ r = 1 ∧ True)))) 0 0 (dkA z) := by
  refine Met.ofW (cc := cX6_in) (maxL := 3) (ret := (some .boolean)) (by decide) rfl ?_
  intro p e s m args below meth c s₁ B hml hv
  obtain ⟨ha, hW, hK, hT⟩ := hv
  have hx := B.exec
  have hb := B.bytes
  have hr := B.returns
  have hts := atoms_spec (ws := wsX6_in) B.pre
  have hown : s.vm.findClass RX6 = some m.cls := findClass_of_methodNamed B.named
  have hlocks := B.notSynchronized
  have hS : va_S (dkA z) s.heap s.heap [] := va_S.rf
  have hF : dkF [] I0 I0 := dkF_rf _ _
  have hl := lv_entry ([.int p0, .int p1, .int p2]) (n := 3) (Nat.le_of_ble_eq_true rfl)
  have hgo : entryFrame m args 3 = entryFrame m ([.int p0, .int p1, .int p2] : List Value).toArray 3 := by rw [ha]
  rw [hgo, lg_entry_eq]
  generalize (lg_sl ([.int p0, .int p1, .int p2]) ++ List.replicate (3 - (lg_sl ([.int p0, .int p1, .int p2])).length) Slot.unset).toArray = ls at hl ⊢
  have hl : lv_has ls 3 [(0, .int p0), (1, .int p1), (2, .int p2)] := hl
  refine lv_iload_n hx hb dX6_in_0 rfl (lv_at hl 0 rfl) ?_
  refine lv_iload_n hx hb dX6_in_1 rfl (lv_at hl 1 rfl) ?_
  refine lv_icmp_lt (tgt := 14) hx hb dX6_in_2 (by decide) (fun c1 => ?_) (fun c1 => ?_)
  ·
    have q2 : p0.toInt + 1 ≤ p1.toInt := (dkc_lt c1)
    have d3 : dkN [(0, 47)] p0 := dkN_le1 1 dp0 dp1 (dkc_lt c1) rfl
    refine lv_iconst (v := 0) hx hb dX6_in_14 (by decide) ?_
    exact W.zret (v := 0) (ty := .boolean) hx hb hr rfl (fun t ht hW9 => ⟨⟨0, I0, rfl, ⟨hF, hO, Or.inl ⟨dkN_sub (dkN_lit (x := 0) (0) rfl) rfl, dkN_sub d3 rfl, q2, rfl, trivial⟩⟩, dkW_eq ht hW⟩, hS.F ht⟩) hS.2.2 dX6_in_15
  ·
    have q4 : p1.toInt + 0 ≤ p0.toInt := (dkc_nlt c1)
    have d5 : dkN [(48, 255)] p0 := dkN_le2 0 dp1 dp0 (dkc_nlt c1) rfl
    refine lv_iload_n hx hb dX6_in_5 rfl (lv_at hl 0 rfl) ?_
    refine lv_iload_n hx hb dX6_in_6 rfl (lv_at hl 2 rfl) ?_
    refine lv_icmp_gt (tgt := 14) hx hb dX6_in_7 (by decide) (fun c6 => ?_) (fun c6 => ?_)
    ·
      have q7 : p2.toInt + 1 ≤ p0.toInt := (dkc_lt c6)
      have d8 : dkN [(58, 255)] p0 := dkN_le2 1 dp2 d5 (dkc_lt c6) rfl
      refine lv_iconst (v := 0) hx hb dX6_in_14 (by decide) ?_
      exact W.zret (v := 0) (ty := .boolean) hx hb hr rfl (fun t ht hW9 => ⟨⟨0, I0, rfl, ⟨hF, hO, Or.inr (Or.inl ⟨dkN_sub (dkN_lit (x := 0) (0) rfl) rfl, dkN_sub d8 rfl, q4, q7, rfl, trivial⟩)⟩, dkW_eq ht hW⟩, hS.F ht⟩) hS.2.2 dX6_in_15
    ·
      have q9 : p0.toInt + 0 ≤ p2.toInt := (dkc_nlt c6)
      have d10 : dkN [(48, 57)] p0 := dkN_le1 0 d5 dp2 (dkc_nlt c6) rfl
      refine lv_iconst (v := 1) hx hb dX6_in_10 (by decide) ?_
      refine lv_goto (tgt := 15) hx hb dX6_in_11 (by decide) ?_
      exact W.zret (v := 1) (ty := .boolean) hx hb hr rfl (fun t ht hW9 => ⟨⟨1, I0, rfl, ⟨hF, hO, Or.inr (Or.inr (⟨dkN_sub (dkN_lit (x := 1) (1) rfl) rfl, dkN_sub d10 rfl, q4, q9, rfl, trivial⟩))⟩, dkW_eq ht hW⟩, hS.F ht⟩) hS.2.2 dX6_in_15
set_option maxHeartbeats 4000000 in
set_option maxRecDepth 100000 in
theorem fx_X6_in_25 (l : Launch) (g : dkG) (z : Nat) (I0 : dkI) (p0 : Int32) (p1 : Int32) (p2 : Int32) (dp0 : dkN [(0, 47)] p0) (dp1 : dkN [(97, 97)] p1) (dp2 : dkN [(122, 122)] p2)  (hO : dkOk I0) : Met l yX6_in wsX6_in (dkR 0) (dkPc g z [.int p0, .int p1, .int p2] I0) (dkQi g z (fun r I1 => dkF [] I0 I1 ∧ dkOk I1 ∧ ((dkN [(0, 0)] r ∧ p0.toInt + 1 ≤ p1.toInt ∧ r = 0 ∧ True)))) 0 0 (dkA z) := by
  refine Met.ofW (cc := cX6_in) (maxL := 3) (ret := (some .boolean)) (by decide) rfl ?_
  intro p e s m args below meth c s₁ B hml hv
  obtain ⟨ha, hW, hK, hT⟩ := hv
  have hx := B.exec
  have hb := B.bytes
  have hr := B.returns
  have hts := atoms_spec (ws := wsX6_in) B.pre
  have hown : s.vm.findClass RX6 = some m.cls := findClass_of_methodNamed B.named
  have hlocks := B.notSynchronized
  have hS : va_S (dkA z) s.heap s.heap [] := va_S.rf
  have hF : dkF [] I0 I0 := dkF_rf _ _
  have hl := lv_entry ([.int p0, .int p1, .int p2]) (n := 3) (Nat.le_of_ble_eq_true rfl)
  have hgo : entryFrame m args 3 = entryFrame m ([.int p0, .int p1, .int p2] : List Value).toArray 3 := by rw [ha]
  rw [hgo, lg_entry_eq]
  generalize (lg_sl ([.int p0, .int p1, .int p2]) ++ List.replicate (3 - (lg_sl ([.int p0, .int p1, .int p2])).length) Slot.unset).toArray = ls at hl ⊢
  have hl : lv_has ls 3 [(0, .int p0), (1, .int p1), (2, .int p2)] := hl
  refine lv_iload_n hx hb dX6_in_0 rfl (lv_at hl 0 rfl) ?_
  refine lv_iload_n hx hb dX6_in_1 rfl (lv_at hl 1 rfl) ?_
  refine lv_icmp_lt (tgt := 14) hx hb dX6_in_2 (by decide) (fun c1 => ?_) (fun c1 => ?_)
  ·
    have q2 : p0.toInt + 1 ≤ p1.toInt := (dkc_lt c1)
    refine lv_iconst (v := 0) hx hb dX6_in_14 (by decide) ?_
    exact W.zret (v := 0) (ty := .boolean) hx hb hr rfl (fun t ht hW9 => ⟨⟨0, I0, rfl, ⟨hF, hO, ⟨dkN_sub (dkN_lit (x := 0) (0) rfl) rfl, q2, rfl, trivial⟩⟩, dkW_eq ht hW⟩, hS.F ht⟩) hS.2.2 dX6_in_15
  ·
    exact (dkN_nil (show dkN [] p0 from dkN_le2 0 dp1 dp0 (dkc_nlt c1) rfl)).elim
set_option maxHeartbeats 4000000 in
set_option maxRecDepth 100000 in
theorem fx_X6_in_26 (l : Launch) (g : dkG) (z : Nat) (I0 : dkI) (p0 : Int32) (p1 : Int32) (p2 : Int32) (dp0 : dkN [(58, 255)] p0) (dp1 : dkN [(97, 97)] p1) (dp2 : dkN [(122, 122)] p2)  (hO : dkOk I0) : Met l yX6_in wsX6_in (dkR 0) (dkPc g z [.int p0, .int p1, .int p2] I0) (dkQi g z (fun r I1 => dkF [] I0 I1 ∧ dkOk I1 ∧ ((dkN [(0, 0)] r ∧ dkN [(58, 96)] p0 ∧ p0.toInt + 1 ≤ p1.toInt ∧ r = 0 ∧ True) ∨ (dkN [(0, 0)] r ∧ dkN [(123, 255)] p0 ∧ p1.toInt + 0 ≤ p0.toInt ∧ p2.toInt + 1 ≤ p0.toInt ∧ r = 0 ∧ True) ∨ (dkN [(1, 1)] r ∧ dkN [(97, 122)] p0 ∧ p1.toInt + 0 ≤ p0.toInt ∧ p0.toInt + 0 ≤ p2.toInt ∧ r = 1 ∧ True)))) 0 0 (dkA z) := by
  refine Met.ofW (cc := cX6_in) (maxL := 3) (ret := (some .boolean)) (by decide) rfl ?_
  intro p e s m args below meth c s₁ B hml hv
  obtain ⟨ha, hW, hK, hT⟩ := hv
  have hx := B.exec
  have hb := B.bytes
  have hr := B.returns
  have hts := atoms_spec (ws := wsX6_in) B.pre
  have hown : s.vm.findClass RX6 = some m.cls := findClass_of_methodNamed B.named
  have hlocks := B.notSynchronized
  have hS : va_S (dkA z) s.heap s.heap [] := va_S.rf
  have hF : dkF [] I0 I0 := dkF_rf _ _
  have hl := lv_entry ([.int p0, .int p1, .int p2]) (n := 3) (Nat.le_of_ble_eq_true rfl)
  have hgo : entryFrame m args 3 = entryFrame m ([.int p0, .int p1, .int p2] : List Value).toArray 3 := by rw [ha]
  rw [hgo, lg_entry_eq]
  generalize (lg_sl ([.int p0, .int p1, .int p2]) ++ List.replicate (3 - (lg_sl ([.int p0, .int p1, .int p2])).length) Slot.unset).toArray = ls at hl ⊢
  have hl : lv_has ls 3 [(0, .int p0), (1, .int p1), (2, .int p2)] := hl
  refine lv_iload_n hx hb dX6_in_0 rfl (lv_at hl 0 rfl) ?_
  refine lv_iload_n hx hb dX6_in_1 rfl (lv_at hl 1 rfl) ?_
  refine lv_icmp_lt (tgt := 14) hx hb dX6_in_2 (by decide) (fun c1 => ?_) (fun c1 => ?_)
  ·
    have q2 : p0.toInt + 1 ≤ p1.toInt := (dkc_lt c1)
    have d3 : dkN [(58, 96)] p0 := dkN_le1 1 dp0 dp1 (dkc_lt c1) rfl
    refine lv_iconst (v := 0) hx hb dX6_in_14 (by decide) ?_
    exact W.zret (v := 0) (ty := .boolean) hx hb hr rfl (fun t ht hW9 => ⟨⟨0, I0, rfl, ⟨hF, hO, Or.inl ⟨dkN_sub (dkN_lit (x := 0) (0) rfl) rfl, dkN_sub d3 rfl, q2, rfl, trivial⟩⟩, dkW_eq ht hW⟩, hS.F ht⟩) hS.2.2 dX6_in_15
  ·
    have q4 : p1.toInt + 0 ≤ p0.toInt := (dkc_nlt c1)
    have d5 : dkN [(97, 255)] p0 := dkN_le2 0 dp1 dp0 (dkc_nlt c1) rfl
    refine lv_iload_n hx hb dX6_in_5 rfl (lv_at hl 0 rfl) ?_
    refine lv_iload_n hx hb dX6_in_6 rfl (lv_at hl 2 rfl) ?_
    refine lv_icmp_gt (tgt := 14) hx hb dX6_in_7 (by decide) (fun c6 => ?_) (fun c6 => ?_)
    ·
      have q7 : p2.toInt + 1 ≤ p0.toInt := (dkc_lt c6)
      have d8 : dkN [(123, 255)] p0 := dkN_le2 1 dp2 d5 (dkc_lt c6) rfl
      refine lv_iconst (v := 0) hx hb dX6_in_14 (by decide) ?_
      exact W.zret (v := 0) (ty := .boolean) hx hb hr rfl (fun t ht hW9 => ⟨⟨0, I0, rfl, ⟨hF, hO, Or.inr (Or.inl ⟨dkN_sub (dkN_lit (x := 0) (0) rfl) rfl, dkN_sub d8 rfl, q4, q7, rfl, trivial⟩)⟩, dkW_eq ht hW⟩, hS.F ht⟩) hS.2.2 dX6_in_15
    ·
      have q9 : p0.toInt + 0 ≤ p2.toInt := (dkc_nlt c6)
      have d10 : dkN [(97, 122)] p0 := dkN_le1 0 d5 dp2 (dkc_nlt c6) rfl
      refine lv_iconst (v := 1) hx hb dX6_in_10 (by decide) ?_
      refine lv_goto (tgt := 15) hx hb dX6_in_11 (by decide) ?_
      exact W.zret (v := 1) (ty := .boolean) hx hb hr rfl (fun t ht hW9 => ⟨⟨1, I0, rfl, ⟨hF, hO, Or.inr (Or.inr (⟨dkN_sub (dkN_lit (x := 1) (1) rfl) rfl, dkN_sub d10 rfl, q4, q9, rfl, trivial⟩))⟩, dkW_eq ht hW⟩, hS.F ht⟩) hS.2.2 dX6_in_15
set_option maxHeartbeats 4000000 in
set_option maxRecDepth 100000 in
theorem fx_X6_byteAt_3 (l : Launch) (g : dkG) (z : Nat) (I0 : dkI) (p0 : Int32) (dp0 : dkN [(0, 89)] p0)  (hO : dkOk I0) : Met l yX6_byteAt wsX6_byteAt (dkR 0) (dkPc g z [.ref (z + 340), .int p0] I0) (dkQi g z (fun r I1 => dkF [] I0 I1 ∧ dkOk I1 ∧ ((dkN [(-1, -1)] r ∧ dkN [(0, 89)] (I1 340 6) ∧ (I0 340 6).toInt + 0 ≤ p0.toInt ∧ r = (-1) ∧ True) ∨ (dkN [(0, 255)] r ∧ dkN [(1, 90)] (I1 340 6) ∧ p0.toInt + 1 ≤ (I0 340 6).toInt ∧ r = I0 345 (Int32.toNatClampNeg p0) ∧ True)))) 0 0 (dkA z) := by
  refine Met.ofW (cc := cX6_byteAt) (maxL := 2) (ret := (some .int)) (by decide) rfl ?_
  intro p e s m args below meth c s₁ B hml hv
  obtain ⟨ha, hW, hK, hT⟩ := hv
  have hx := B.exec
  have hb := B.bytes
  have hr := B.returns
  have hts := atoms_spec (ws := wsX6_byteAt) B.pre
  have hown : s.vm.findClass RX6 = some m.cls := findClass_of_methodNamed B.named
  have hlocks := B.notSynchronized
  have hS : va_S (dkA z) s.heap s.heap [] := va_S.rf
  have hF : dkF [] I0 I0 := dkF_rf _ _
  have hl := lv_entry ([.ref (z + 340), .int p0]) (n := 2) (Nat.le_of_ble_eq_true rfl)
  have hgo : entryFrame m args 2 = entryFrame m ([.ref (z + 340), .int p0] : List Value).toArray 2 := by rw [ha]
  rw [hgo, lg_entry_eq]
  generalize (lg_sl ([.ref (z + 340), .int p0]) ++ List.replicate (2 - (lg_sl ([.ref (z + 340), .int p0])).length) Slot.unset).toArray = ls at hl ⊢
  have hl : lv_has ls 2 [(0, .ref (z + 340)), (1, .int p0)] := hl
  refine lv_iload_n hx hb dX6_byteAt_0 rfl (lv_at hl 1 rfl) ?_
  refine lv_aload_n hx hb dX6_byteAt_1 rfl (lv_at hl 0 rfl) ?_
  refine dk_get (k := 340) hx hb hts iX6_byteAt_6 hown hK (dk_at340 hW) rfl 6 (by decide) (hts (.fieldLink RX6 82 "DogKingsModel" "taped" "I") (List.mem_of_getElem? (i := 1) rfl)) rfl dX6_byteAt_2 ?_
  refine lv_topi (fun v1 ev1 => ?_)
  have dv1 : dkN [(0, 90)] v1 := by rw [ev1]; exact (hO 340 6)
  have xv1 : v1 = I0 340 6 := ev1.trans rfl
  refine lv_icmp_ge (tgt := 17) hx hb dX6_byteAt_5 (by decide) (fun c2 => ?_) (fun c2 => ?_)
  ·
    have q3 : (I0 340 6).toInt + 0 ≤ p0.toInt := by first | (rw [← xv1]; exact (dkc_le c2)) | (subst xv1; exact (dkc_le c2))
    have d4 : dkN [(0, 89)] v1 := dkN_le1 0 dv1 dp0 (dkc_le c2) rfl
    have f5 : dkN [(0, 89)] (I0 340 6) := by rw [← ev1]; exact d4
    refine lv_iconst (v := (-1)) hx hb dX6_byteAt_17 (by decide) ?_
    exact W.iret (v := (-1)) hx hb hr (fun t ht hW9 => ⟨⟨(-1), I0, rfl, ⟨hF, hO, Or.inl ⟨dkN_sub (dkN_lit (x := (-1)) (-1) rfl) rfl, (show dkN [(0, 89)] (I0 340 6) from dkN_sub f5 rfl), q3, rfl, trivial⟩⟩, dkW_eq ht hW⟩, hS.F ht⟩) hS.2.2 dX6_byteAt_18
  ·
    have q6 : p0.toInt + 1 ≤ (I0 340 6).toInt := by first | (rw [← xv1]; exact (dkc_nle c2)) | (subst xv1; exact (dkc_nle c2))
    have d7 : dkN [(1, 90)] v1 := dkN_le2 1 dp0 dv1 (dkc_nle c2) rfl
    have f8 : dkN [(1, 90)] (I0 340 6) := by rw [← ev1]; exact d7
    refine lv_aload_n hx hb dX6_byteAt_8 rfl (lv_at hl 0 rfl) ?_
    refine dk_get (k := 340) hx hb hts iX6_byteAt_6 hown hK (dk_at340 hW) rfl 5 (by decide) (hts (.fieldLink RX6 22 "DogKingsModel" "tape" "[I") (List.mem_of_getElem? (i := 2) rfl)) rfl dX6_byteAt_9 ?_
    refine lv_iload_n hx hb dX6_byteAt_12 rfl (lv_at hl 1 rfl) ?_
    refine dk_ild (k := 345) hx hb hK (dk_at345 hW) (dkN_in (n := 90) dp0 rfl) dX6_byteAt_13 ?_
    refine lv_topi (fun v9 ev9 => ?_)
    have dv9 : dkN [(0, 255)] v9 := by rw [ev9]; exact (hO 345 _)
    have xv9 : v9 = I0 345 (Int32.toNatClampNeg p0) := ev9.trans rfl
    refine lv_goto (tgt := 18) hx hb dX6_byteAt_14 (by decide) ?_
    exact W.iret (v := v9) hx hb hr (fun t ht hW9 => ⟨⟨v9, I0, rfl, ⟨hF, hO, Or.inr (⟨dkN_sub dv9 rfl, (show dkN [(1, 90)] (I0 340 6) from dkN_sub f8 rfl), q6, xv9, trivial⟩)⟩, dkW_eq ht hW⟩, hS.F ht⟩) hS.2.2 dX6_byteAt_18
set_option maxHeartbeats 40000000 in
set_option maxRecDepth 100000 in
theorem fx_X6_advances_1 (l : Launch) (g : dkG) (z : Nat) (I0 : dkI)  (hO : dkOk I0) : Met l yX6_advances wsX6_advances (dkR 1) (dkPc g z [.ref (z + 340)] I0) (dkQv g z (fun I1 => dkF [(340, 340, 9, 12)] I0 I1 ∧ dkOk I1 ∧ ((dkN [(0, 5)] (I1 340 11) ∧ I1 340 9 = dkTe (I0 345) (I0 340 6) (I0 340 9) ∧ I1 340 10 = I0 340 9 ∧ I1 340 11 = dkTk (I0 345) (I0 340 6) (I0 340 9) ∧ I1 340 12 = dkTv (I0 345) (I0 340 6) (I0 340 9) ∧ True)))) 0 0 (dkA z) := by
  refine Met.ofW (cc := cX6_advances) (maxL := 2) (ret := none) (by decide) rfl ?_
  intro p e s m args below meth c s₁ B hml hv
  obtain ⟨ha, hW, hK, hT⟩ := hv
  have hx := B.exec
  have hb := B.bytes
  have hr := B.returns
  have hts := atoms_spec (ws := wsX6_advances) B.pre
  have hown : s.vm.findClass RX6 = some m.cls := findClass_of_methodNamed B.named
  have hlocks := B.notSynchronized
  have hS : va_S (dkA z) s.heap s.heap [] := va_S.rf
  have hF : dkF [(340, 340, 9, 12)] I0 I0 := dkF_rf _ _
  have hl := lv_entry ([.ref (z + 340)]) (n := 2) (Nat.le_of_ble_eq_true rfl)
  have hgo : entryFrame m args 2 = entryFrame m ([.ref (z + 340)] : List Value).toArray 2 := by rw [ha]
  rw [hgo, lg_entry_eq]
  generalize (lg_sl ([.ref (z + 340)]) ++ List.replicate (2 - (lg_sl ([.ref (z + 340)])).length) Slot.unset).toArray = ls at hl ⊢
  have hl : lv_has ls 2 [(0, .ref (z + 340))] := hl
  have C38 : ∀ (n : Nat), ∀ (I : dkI) (H : Heap) (locs : List Loc) (ls : Array Slot) (x38_1 : Int32), (90 - (I 340 9).toInt).toNat < n → dkW g z I H → va_S (dkA z) s.heap H locs → dkF [(340, 340, 9, 12)] I0 I → dkOk I → dkN [(48, 57)] x38_1 → I 345 = I0 345 → I 340 10 = I0 340 9 → I 340 6 = I0 340 6 → (I0 340 9).toInt + 1 ≤ (I0 340 6).toInt → (48 : Int) + 0 ≤ ((I0 345) (Int32.toNatClampNeg (I0 340 9))).toInt → ((I0 345) (Int32.toNatClampNeg (I0 340 9))).toInt + 0 ≤ (57 : Int) → dkAdv (I0 345) (I0 340 6) (I0 340 9) (I 340 9) (I 340 12) → lv_has ls 2 [(0, .ref (z + 340)), (1, .int x38_1)] → W p l e (headSpec wsX6_advances (dkR 1)).room s m args below meth c H locs 0 0 (MQ below (dkQv g z (fun I1 => dkF [(340, 340, 9, 12)] I0 I1 ∧ dkOk I1 ∧ ((dkN [(0, 5)] (I1 340 11) ∧ I1 340 9 = dkTe (I0 345) (I0 340 6) (I0 340 9) ∧ I1 340 10 = I0 340 9 ∧ I1 340 11 = dkTk (I0 345) (I0 340 6) (I0 340 9) ∧ I1 340 12 = dkTv (I0 345) (I0 340 6) (I0 340 9) ∧ True)))) args s 0 0 (dkA z)) (F0 m 38 ls []) := by
    intro n
    induction n with
    | zero => intro I H locs ls x38_1 hn; exact absurd hn (Nat.not_lt_zero _)
    | succ n ih38 =>
      intro I38_ H locs ls x38_1 hn38 hW hS hF_38 hO k38_0 z38_0 zp38_0 zp38_1 y38_0 y38_1 y38_2 cx38 hl
      have hF := hF_38
      refine lv_aload_n hx hb dX6_advances_38 rfl (lv_at hl 0 rfl) ?_
      refine lv_aload_n hx hb dX6_advances_39 rfl (lv_at hl 0 rfl) ?_
      refine dk_get (k := 340) hx hb hts iX6_advances_6 hown hK (dk_at340 hW) rfl 9 (by decide) (hts (.fieldLink RX6 86 "DogKingsModel" "at" "I") (List.mem_of_getElem? (i := 1) rfl)) rfl dX6_advances_40 ?_
      refine lv_topi (fun v1 ev1 => ?_)
      have dv1 : dkN [(0, 90)] v1 := by rw [ev1]; exact (hO 340 9)
      have xv1 : v1 = I38_ 340 9 := ev1.trans rfl
      refine dk_Vi (As := [.int v1]) (rest := []) ⟨hx, hb, hml, hown, hts⟩ (fx_X6_byteAt_2 l g z I38_ v1 dv1 hO) (cwV 1 hts gX6_advances_X6_byteAt rfl rfl rfl (by decide +kernel) ⟨Nat.le_of_ble_eq_true rfl, Nat.le_of_ble_eq_true rfl⟩) (dk_at340 hW) rfl hK hT hW hS rfl hl.1 rfl (Nat.le_of_ble_eq_true rfl) dX6_advances_43 ⟨Nat.zero_le _, Nat.zero_le _⟩ (fun v2 I2 H2 L2 hp2 hW hS => ?_)
      obtain ⟨hF2, hO, hc2⟩ := hp2
      have hF := dkF_call hF hF2 rfl
      have eI2 : I38_ = I2 := (dkF_nil hF2).symm
      subst eI2
      rcases hc2 with ⟨dv2, x2_0, xr2, -⟩ | hc2
      ·
        have w3 : I38_ 340 6 = I0 340 6 := zp38_1
        have q4 : (I0 340 6).toInt + 0 ≤ (I38_ 340 9).toInt := by have h := x2_0; rw [w3, xv1] at h; exact h
        have xv2 : v2 = (-1) := by have h := xr2; exact h
        refine lv_bipush (v := 48) hx hb dX6_advances_46 (by decide) ?_
        refine lv_bipush (v := 57) hx hb dX6_advances_48 (by decide) ?_
        refine dk_Si (As := [.int v2, .int 48, .int 57]) (rest := []) ⟨hx, hb, hml, hown, hts⟩ (fx_X6_in_23 l g z I38_ v2 48 57 dv2 (dkN_lit (x := 48) (48) rfl) (dkN_lit (x := 57) (57) rfl) hO) (va_cwS 3 hts gX6_advances_X6_in rfl rfl rfl (by decide +kernel) ⟨Nat.le_of_ble_eq_true rfl, Nat.le_of_ble_eq_true rfl⟩) hK hT hW hS rfl hl.1 rfl (Nat.le_of_ble_eq_true rfl) dX6_advances_50 ⟨Nat.zero_le _, Nat.zero_le _⟩ (fun v5 I5 H5 L5 hp5 hW hS => ?_)
        obtain ⟨hF5, hO, hc5⟩ := hp5
        have hF := dkF_call hF hF5 rfl
        have eI5 : I38_ = I5 := (dkF_nil hF5).symm
        subst eI5
        obtain ⟨dv5, x5_0, xr5, -⟩ := hc5
        have xv5 : v5 = 0 := by have h := xr5; exact h
        refine lv_if_eq (tgt := 112) hx hb dX6_advances_53 (by decide) (fun c6 => ?_) (fun c6 => ?_)
        ·
          refine lv_aload_n hx hb dX6_advances_112 rfl (lv_at hl 0 rfl) ?_
          refine lv_aload_n hx hb dX6_advances_113 rfl (lv_at hl 0 rfl) ?_
          refine dk_get (k := 340) hx hb hts iX6_advances_6 hown hK (dk_at340 hW) rfl 9 (by decide) (hts (.fieldLink RX6 86 "DogKingsModel" "at" "I") (List.mem_of_getElem? (i := 1) rfl)) rfl dX6_advances_114 ?_
          refine lv_topi (fun v7 ev7 => ?_)
          have dv7 : dkN [(0, 90)] v7 := by rw [ev7]; exact (hO 340 9)
          have xv7 : v7 = I38_ 340 9 := ev7.trans ((hF5 340 9 rfl).trans ((hF2 340 9 rfl).trans rfl))
          refine lv_aload_n hx hb dX6_advances_117 rfl (lv_at hl 0 rfl) ?_
          refine dk_get (k := 340) hx hb hts iX6_advances_6 hown hK (dk_at340 hW) rfl 10 (by decide) (hts (.fieldLink RX6 89 "DogKingsModel" "start" "I") (List.mem_of_getElem? (i := 2) rfl)) rfl dX6_advances_118 ?_
          refine lv_topi (fun v8 ev8 => ?_)
          have dv8 : dkN [(0, 90)] v8 := by rw [ev8]; exact (hO 340 10)
          have xv8 : v8 = I0 340 9 := ev8.trans ((hF5 340 10 rfl).trans ((hF2 340 10 rfl).trans zp38_0))
          refine lv_isub hx hb dX6_advances_121 ?_
          refine lv_topi (fun v9 ev9 => ?_)
          have dv9 : dkN [(-90, 90)] v9 := by rw [ev9]; exact dkN_subt dv7 dv8 rfl
          have xv9 : v9 = (I38_ 340 9) - (I0 340 9) := by rw [ev9, xv7, xv8]
          have q10 : ((I38_ 340 9) - (I0 340 9)).toInt = (I38_ 340 9).toInt - (I0 340 9).toInt := by first | (rw [← xv9, ← xv7, ← xv8]; exact (by rw [ev9]; exact dk_subE dv7 dv8 rfl)) | (subst xv9 xv7 xv8; exact (by rw [ev9]; exact dk_subE dv7 dv8 rfl))
          refine lv_iconst (v := 3) hx hb dX6_advances_122 (by decide) ?_
          refine lv_icmp_ge (tgt := 130) hx hb dX6_advances_123 (by decide) (fun c11 => ?_) (fun c11 => ?_)
          ·
            have q12 : (3 : Int) + 0 ≤ ((I38_ 340 9) - (I0 340 9)).toInt := by first | (rw [← xv9]; exact (dkc_le c11)) | (subst xv9; exact (dkc_le c11))
            have d13 : dkN [(3, 90)] v9 := dkN_le2 0 (dkN_lit (x := 3) (3) rfl) dv9 (dkc_le c11) rfl
            refine lv_iconst (v := 5) hx hb dX6_advances_130 (by decide) ?_
            refine dk_put (k := 340) hx hb hts iX6_advances_6 tyX6 tyX6_ok nmX6 hown hK hW (dk_at340 hW) hS rfl 11 (by decide) (hts (.fieldLink RX6 98 "DogKingsModel" "token" "I") (List.mem_of_getElem? (i := 4) rfl)) rfl rfl (Nat.le_of_ble_eq_true rfl) rfl dX6_advances_131 (fun I14 H14 L14 eI14 hW hS => ?_)
            have eI14 : I14 = dkU I38_ 340 11 5 := eI14
            have hO := dkO_set hO eI14 (dkN_sub (dkN_lit (x := 5) (5) rfl) rfl)
            have hF := dkF_set hF eI14 rfl
            have q15 := dkAdv_end cx38 (by omega)
            exact W.vret hx hb hr (fun t ht hW9 => ⟨⟨I14, rfl, ⟨hF, hO, ⟨(show dkN [(0, 5)] (I14 340 11) from dkN_sub (by rw [eI14, dkU_ss]; exact (dkN_lit (x := 5) (5) rfl)) rfl), (((show I14 340 9 = I38_ 340 9 from ((by rw [eI14, dkU_sn (by decide)] : I14 340 9 = _).trans ((hF5 340 9 rfl).trans ((hF2 340 9 rfl).trans rfl))))).trans q15.1.symm), (show I14 340 10 = I0 340 9 from ((by rw [eI14, dkU_sn (by decide)] : I14 340 10 = _).trans ((hF5 340 10 rfl).trans ((hF2 340 10 rfl).trans zp38_0)))), (by rcases q15.2.2 with h | h <;> first | exact ((show I14 340 11 = 5 from (by rw [eI14, dkU_ss]))).trans h.2.symm | (exfalso; have h9 := h.1; omega)), (((show I14 340 12 = I38_ 340 12 from ((by rw [eI14, dkU_sn (by decide)] : I14 340 12 = _).trans ((hF5 340 12 rfl).trans ((hF2 340 12 rfl).trans rfl))))).trans q15.2.1.symm), trivial⟩⟩, dkW_eq ht hW⟩, hS.F ht⟩) hS.2.2 dX6_advances_134
          ·
            have q16 : ((I38_ 340 9) - (I0 340 9)).toInt + 1 ≤ (3 : Int) := by first | (rw [← xv9]; exact (dkc_nle c11)) | (subst xv9; exact (dkc_nle c11))
            have d17 : dkN [(-90, 2)] v9 := dkN_le1 1 dv9 (dkN_lit (x := 3) (3) rfl) (dkc_nle c11) rfl
            refine lv_iconst (v := 2) hx hb dX6_advances_126 (by decide) ?_
            refine lv_goto (tgt := 131) hx hb dX6_advances_127 (by decide) ?_
            refine dk_put (k := 340) hx hb hts iX6_advances_6 tyX6 tyX6_ok nmX6 hown hK hW (dk_at340 hW) hS rfl 11 (by decide) (hts (.fieldLink RX6 98 "DogKingsModel" "token" "I") (List.mem_of_getElem? (i := 4) rfl)) rfl rfl (Nat.le_of_ble_eq_true rfl) rfl dX6_advances_131 (fun I18 H18 L18 eI18 hW hS => ?_)
            have eI18 : I18 = dkU I38_ 340 11 2 := eI18
            have hO := dkO_set hO eI18 (dkN_sub (dkN_lit (x := 2) (2) rfl) rfl)
            have hF := dkF_set hF eI18 rfl
            have q19 := dkAdv_end cx38 (by omega)
            exact W.vret hx hb hr (fun t ht hW9 => ⟨⟨I18, rfl, ⟨hF, hO, ⟨(show dkN [(0, 5)] (I18 340 11) from dkN_sub (by rw [eI18, dkU_ss]; exact (dkN_lit (x := 2) (2) rfl)) rfl), (((show I18 340 9 = I38_ 340 9 from ((by rw [eI18, dkU_sn (by decide)] : I18 340 9 = _).trans ((hF5 340 9 rfl).trans ((hF2 340 9 rfl).trans rfl))))).trans q19.1.symm), (show I18 340 10 = I0 340 9 from ((by rw [eI18, dkU_sn (by decide)] : I18 340 10 = _).trans ((hF5 340 10 rfl).trans ((hF2 340 10 rfl).trans zp38_0)))), (by rcases q19.2.2 with h | h <;> first | exact ((show I18 340 11 = 2 from (by rw [eI18, dkU_ss]))).trans h.2.symm | (exfalso; have h9 := h.1; omega)), (((show I18 340 12 = I38_ 340 12 from ((by rw [eI18, dkU_sn (by decide)] : I18 340 12 = _).trans ((hF5 340 12 rfl).trans ((hF2 340 12 rfl).trans rfl))))).trans q19.2.1.symm), trivial⟩⟩, dkW_eq ht hW⟩, hS.F ht⟩) hS.2.2 dX6_advances_134
        ·
          exact absurd ((xv5).trans (rfl).symm) c6
      ·
        obtain ⟨dv2, a2_0, f2_340_6, x2_0, xr2, -⟩ := hc2
        have w20 : I38_ 340 6 = I0 340 6 := zp38_1
        have q21 : (I38_ 340 9).toInt + 1 ≤ (I0 340 6).toInt := by have h := x2_0; rw [w20, xv1] at h; exact h
        have w22 : I38_ 345 = I0 345 := z38_0
        have xv2 : v2 = (I0 345) (Int32.toNatClampNeg (I38_ 340 9)) := by have h := xr2; rw [w22, xv1] at h; exact h
        have e23 : v1 = I38_ 340 9 := by rw [hF2 340 9 rfl]; exact ev1
        have d24 : dkN [(0, 89)] v1 := dkN_eq1 dv1 a2_0 rfl rfl
        have f25 : dkN [(0, 89)] (I38_ 340 9) := by rw [← e23]; exact d24
        refine lv_bipush (v := 48) hx hb dX6_advances_46 (by decide) ?_
        refine lv_bipush (v := 57) hx hb dX6_advances_48 (by decide) ?_
        refine dk_Si (As := [.int v2, .int 48, .int 57]) (rest := []) ⟨hx, hb, hml, hown, hts⟩ (fx_X6_in_24 l g z I38_ v2 48 57 dv2 (dkN_lit (x := 48) (48) rfl) (dkN_lit (x := 57) (57) rfl) hO) (va_cwS 3 hts gX6_advances_X6_in rfl rfl rfl (by decide +kernel) ⟨Nat.le_of_ble_eq_true rfl, Nat.le_of_ble_eq_true rfl⟩) hK hT hW hS rfl hl.1 rfl (Nat.le_of_ble_eq_true rfl) dX6_advances_50 ⟨Nat.zero_le _, Nat.zero_le _⟩ (fun v26 I26 H26 L26 hp26 hW hS => ?_)
        obtain ⟨hF26, hO, hc26⟩ := hp26
        have hF := dkF_call hF hF26 rfl
        have eI26 : I38_ = I26 := (dkF_nil hF26).symm
        subst eI26
        rcases hc26 with ⟨dv26, a26_0, x26_0, xr26, -⟩ | hc26
        ·
          have q27 : ((I0 345) (Int32.toNatClampNeg (I38_ 340 9))).toInt + 1 ≤ (48 : Int) := by have h := x26_0; rw [xv2] at h; exact h
          have xv26 : v26 = 0 := by have h := xr26; exact h
          have d28 : dkN [(0, 47)] v2 := dkN_eq1 dv2 a26_0 rfl rfl
          refine lv_if_eq (tgt := 112) hx hb dX6_advances_53 (by decide) (fun c29 => ?_) (fun c29 => ?_)
          ·
            refine lv_aload_n hx hb dX6_advances_112 rfl (lv_at hl 0 rfl) ?_
            refine lv_aload_n hx hb dX6_advances_113 rfl (lv_at hl 0 rfl) ?_
            refine dk_get (k := 340) hx hb hts iX6_advances_6 hown hK (dk_at340 hW) rfl 9 (by decide) (hts (.fieldLink RX6 86 "DogKingsModel" "at" "I") (List.mem_of_getElem? (i := 1) rfl)) rfl dX6_advances_114 ?_
            refine lv_topi (fun v30 ev30 => ?_)
            have dv30 : dkN [(0, 89)] v30 := by rw [ev30]; exact (by rw [hF26 340 9 rfl]; exact f25)
            have xv30 : v30 = I38_ 340 9 := ev30.trans ((hF26 340 9 rfl).trans ((hF2 340 9 rfl).trans rfl))
            refine lv_aload_n hx hb dX6_advances_117 rfl (lv_at hl 0 rfl) ?_
            refine dk_get (k := 340) hx hb hts iX6_advances_6 hown hK (dk_at340 hW) rfl 10 (by decide) (hts (.fieldLink RX6 89 "DogKingsModel" "start" "I") (List.mem_of_getElem? (i := 2) rfl)) rfl dX6_advances_118 ?_
            refine lv_topi (fun v31 ev31 => ?_)
            have dv31 : dkN [(0, 90)] v31 := by rw [ev31]; exact (hO 340 10)
            have xv31 : v31 = I0 340 9 := ev31.trans ((hF26 340 10 rfl).trans ((hF2 340 10 rfl).trans zp38_0))
            refine lv_isub hx hb dX6_advances_121 ?_
            refine lv_topi (fun v32 ev32 => ?_)
            have dv32 : dkN [(-90, 89)] v32 := by rw [ev32]; exact dkN_subt dv30 dv31 rfl
            have xv32 : v32 = (I38_ 340 9) - (I0 340 9) := by rw [ev32, xv30, xv31]
            have q33 : ((I38_ 340 9) - (I0 340 9)).toInt = (I38_ 340 9).toInt - (I0 340 9).toInt := by first | (rw [← xv32, ← xv30, ← xv31]; exact (by rw [ev32]; exact dk_subE dv30 dv31 rfl)) | (subst xv32 xv30 xv31; exact (by rw [ev32]; exact dk_subE dv30 dv31 rfl))
            refine lv_iconst (v := 3) hx hb dX6_advances_122 (by decide) ?_
            refine lv_icmp_ge (tgt := 130) hx hb dX6_advances_123 (by decide) (fun c34 => ?_) (fun c34 => ?_)
            ·
              have q35 : (3 : Int) + 0 ≤ ((I38_ 340 9) - (I0 340 9)).toInt := by first | (rw [← xv32]; exact (dkc_le c34)) | (subst xv32; exact (dkc_le c34))
              have d36 : dkN [(3, 89)] v32 := dkN_le2 0 (dkN_lit (x := 3) (3) rfl) dv32 (dkc_le c34) rfl
              refine lv_iconst (v := 5) hx hb dX6_advances_130 (by decide) ?_
              refine dk_put (k := 340) hx hb hts iX6_advances_6 tyX6 tyX6_ok nmX6 hown hK hW (dk_at340 hW) hS rfl 11 (by decide) (hts (.fieldLink RX6 98 "DogKingsModel" "token" "I") (List.mem_of_getElem? (i := 4) rfl)) rfl rfl (Nat.le_of_ble_eq_true rfl) rfl dX6_advances_131 (fun I37 H37 L37 eI37 hW hS => ?_)
              have eI37 : I37 = dkU I38_ 340 11 5 := eI37
              have hO := dkO_set hO eI37 (dkN_sub (dkN_lit (x := 5) (5) rfl) rfl)
              have hF := dkF_set hF eI37 rfl
              have q38 := dkAdv_end cx38 (by omega)
              exact W.vret hx hb hr (fun t ht hW9 => ⟨⟨I37, rfl, ⟨hF, hO, ⟨(show dkN [(0, 5)] (I37 340 11) from dkN_sub (by rw [eI37, dkU_ss]; exact (dkN_lit (x := 5) (5) rfl)) rfl), (((show I37 340 9 = I38_ 340 9 from ((by rw [eI37, dkU_sn (by decide)] : I37 340 9 = _).trans ((hF26 340 9 rfl).trans ((hF2 340 9 rfl).trans rfl))))).trans q38.1.symm), (show I37 340 10 = I0 340 9 from ((by rw [eI37, dkU_sn (by decide)] : I37 340 10 = _).trans ((hF26 340 10 rfl).trans ((hF2 340 10 rfl).trans zp38_0)))), (by rcases q38.2.2 with h | h <;> first | exact ((show I37 340 11 = 5 from (by rw [eI37, dkU_ss]))).trans h.2.symm | (exfalso; have h9 := h.1; omega)), (((show I37 340 12 = I38_ 340 12 from ((by rw [eI37, dkU_sn (by decide)] : I37 340 12 = _).trans ((hF26 340 12 rfl).trans ((hF2 340 12 rfl).trans rfl))))).trans q38.2.1.symm), trivial⟩⟩, dkW_eq ht hW⟩, hS.F ht⟩) hS.2.2 dX6_advances_134
            ·
              have q39 : ((I38_ 340 9) - (I0 340 9)).toInt + 1 ≤ (3 : Int) := by first | (rw [← xv32]; exact (dkc_nle c34)) | (subst xv32; exact (dkc_nle c34))
              have d40 : dkN [(-90, 2)] v32 := dkN_le1 1 dv32 (dkN_lit (x := 3) (3) rfl) (dkc_nle c34) rfl
              refine lv_iconst (v := 2) hx hb dX6_advances_126 (by decide) ?_
              refine lv_goto (tgt := 131) hx hb dX6_advances_127 (by decide) ?_
              refine dk_put (k := 340) hx hb hts iX6_advances_6 tyX6 tyX6_ok nmX6 hown hK hW (dk_at340 hW) hS rfl 11 (by decide) (hts (.fieldLink RX6 98 "DogKingsModel" "token" "I") (List.mem_of_getElem? (i := 4) rfl)) rfl rfl (Nat.le_of_ble_eq_true rfl) rfl dX6_advances_131 (fun I41 H41 L41 eI41 hW hS => ?_)
              have eI41 : I41 = dkU I38_ 340 11 2 := eI41
              have hO := dkO_set hO eI41 (dkN_sub (dkN_lit (x := 2) (2) rfl) rfl)
              have hF := dkF_set hF eI41 rfl
              have q42 := dkAdv_end cx38 (by omega)
              exact W.vret hx hb hr (fun t ht hW9 => ⟨⟨I41, rfl, ⟨hF, hO, ⟨(show dkN [(0, 5)] (I41 340 11) from dkN_sub (by rw [eI41, dkU_ss]; exact (dkN_lit (x := 2) (2) rfl)) rfl), (((show I41 340 9 = I38_ 340 9 from ((by rw [eI41, dkU_sn (by decide)] : I41 340 9 = _).trans ((hF26 340 9 rfl).trans ((hF2 340 9 rfl).trans rfl))))).trans q42.1.symm), (show I41 340 10 = I0 340 9 from ((by rw [eI41, dkU_sn (by decide)] : I41 340 10 = _).trans ((hF26 340 10 rfl).trans ((hF2 340 10 rfl).trans zp38_0)))), (by rcases q42.2.2 with h | h <;> first | exact ((show I41 340 11 = 2 from (by rw [eI41, dkU_ss]))).trans h.2.symm | (exfalso; have h9 := h.1; omega)), (((show I41 340 12 = I38_ 340 12 from ((by rw [eI41, dkU_sn (by decide)] : I41 340 12 = _).trans ((hF26 340 12 rfl).trans ((hF2 340 12 rfl).trans rfl))))).trans q42.2.1.symm), trivial⟩⟩, dkW_eq ht hW⟩, hS.F ht⟩) hS.2.2 dX6_advances_134
          ·
            exact absurd ((xv26).trans (rfl).symm) c29
        rcases hc26 with ⟨dv26, a26_0, x26_0, x26_1, xr26, -⟩ | hc26
        ·
          have q43 : (48 : Int) + 0 ≤ ((I0 345) (Int32.toNatClampNeg (I38_ 340 9))).toInt := by have h := x26_0; rw [xv2] at h; exact h
          have q44 : (57 : Int) + 1 ≤ ((I0 345) (Int32.toNatClampNeg (I38_ 340 9))).toInt := by have h := x26_1; rw [xv2] at h; exact h
          have xv26 : v26 = 0 := by have h := xr26; exact h
          have d45 : dkN [(58, 255)] v2 := dkN_eq1 dv2 a26_0 rfl rfl
          refine lv_if_eq (tgt := 112) hx hb dX6_advances_53 (by decide) (fun c46 => ?_) (fun c46 => ?_)
          ·
            refine lv_aload_n hx hb dX6_advances_112 rfl (lv_at hl 0 rfl) ?_
            refine lv_aload_n hx hb dX6_advances_113 rfl (lv_at hl 0 rfl) ?_
            refine dk_get (k := 340) hx hb hts iX6_advances_6 hown hK (dk_at340 hW) rfl 9 (by decide) (hts (.fieldLink RX6 86 "DogKingsModel" "at" "I") (List.mem_of_getElem? (i := 1) rfl)) rfl dX6_advances_114 ?_
            refine lv_topi (fun v47 ev47 => ?_)
            have dv47 : dkN [(0, 89)] v47 := by rw [ev47]; exact (by rw [hF26 340 9 rfl]; exact f25)
            have xv47 : v47 = I38_ 340 9 := ev47.trans ((hF26 340 9 rfl).trans ((hF2 340 9 rfl).trans rfl))
            refine lv_aload_n hx hb dX6_advances_117 rfl (lv_at hl 0 rfl) ?_
            refine dk_get (k := 340) hx hb hts iX6_advances_6 hown hK (dk_at340 hW) rfl 10 (by decide) (hts (.fieldLink RX6 89 "DogKingsModel" "start" "I") (List.mem_of_getElem? (i := 2) rfl)) rfl dX6_advances_118 ?_
            refine lv_topi (fun v48 ev48 => ?_)
            have dv48 : dkN [(0, 90)] v48 := by rw [ev48]; exact (hO 340 10)
            have xv48 : v48 = I0 340 9 := ev48.trans ((hF26 340 10 rfl).trans ((hF2 340 10 rfl).trans zp38_0))
            refine lv_isub hx hb dX6_advances_121 ?_
            refine lv_topi (fun v49 ev49 => ?_)
            have dv49 : dkN [(-90, 89)] v49 := by rw [ev49]; exact dkN_subt dv47 dv48 rfl
            have xv49 : v49 = (I38_ 340 9) - (I0 340 9) := by rw [ev49, xv47, xv48]
            have q50 : ((I38_ 340 9) - (I0 340 9)).toInt = (I38_ 340 9).toInt - (I0 340 9).toInt := by first | (rw [← xv49, ← xv47, ← xv48]; exact (by rw [ev49]; exact dk_subE dv47 dv48 rfl)) | (subst xv49 xv47 xv48; exact (by rw [ev49]; exact dk_subE dv47 dv48 rfl))
            refine lv_iconst (v := 3) hx hb dX6_advances_122 (by decide) ?_
            refine lv_icmp_ge (tgt := 130) hx hb dX6_advances_123 (by decide) (fun c51 => ?_) (fun c51 => ?_)
            ·
              have q52 : (3 : Int) + 0 ≤ ((I38_ 340 9) - (I0 340 9)).toInt := by first | (rw [← xv49]; exact (dkc_le c51)) | (subst xv49; exact (dkc_le c51))
              have d53 : dkN [(3, 89)] v49 := dkN_le2 0 (dkN_lit (x := 3) (3) rfl) dv49 (dkc_le c51) rfl
              refine lv_iconst (v := 5) hx hb dX6_advances_130 (by decide) ?_
              refine dk_put (k := 340) hx hb hts iX6_advances_6 tyX6 tyX6_ok nmX6 hown hK hW (dk_at340 hW) hS rfl 11 (by decide) (hts (.fieldLink RX6 98 "DogKingsModel" "token" "I") (List.mem_of_getElem? (i := 4) rfl)) rfl rfl (Nat.le_of_ble_eq_true rfl) rfl dX6_advances_131 (fun I54 H54 L54 eI54 hW hS => ?_)
              have eI54 : I54 = dkU I38_ 340 11 5 := eI54
              have hO := dkO_set hO eI54 (dkN_sub (dkN_lit (x := 5) (5) rfl) rfl)
              have hF := dkF_set hF eI54 rfl
              have q55 := dkAdv_end cx38 (by omega)
              exact W.vret hx hb hr (fun t ht hW9 => ⟨⟨I54, rfl, ⟨hF, hO, ⟨(show dkN [(0, 5)] (I54 340 11) from dkN_sub (by rw [eI54, dkU_ss]; exact (dkN_lit (x := 5) (5) rfl)) rfl), (((show I54 340 9 = I38_ 340 9 from ((by rw [eI54, dkU_sn (by decide)] : I54 340 9 = _).trans ((hF26 340 9 rfl).trans ((hF2 340 9 rfl).trans rfl))))).trans q55.1.symm), (show I54 340 10 = I0 340 9 from ((by rw [eI54, dkU_sn (by decide)] : I54 340 10 = _).trans ((hF26 340 10 rfl).trans ((hF2 340 10 rfl).trans zp38_0)))), (by rcases q55.2.2 with h | h <;> first | exact ((show I54 340 11 = 5 from (by rw [eI54, dkU_ss]))).trans h.2.symm | (exfalso; have h9 := h.1; omega)), (((show I54 340 12 = I38_ 340 12 from ((by rw [eI54, dkU_sn (by decide)] : I54 340 12 = _).trans ((hF26 340 12 rfl).trans ((hF2 340 12 rfl).trans rfl))))).trans q55.2.1.symm), trivial⟩⟩, dkW_eq ht hW⟩, hS.F ht⟩) hS.2.2 dX6_advances_134
            ·
              have q56 : ((I38_ 340 9) - (I0 340 9)).toInt + 1 ≤ (3 : Int) := by first | (rw [← xv49]; exact (dkc_nle c51)) | (subst xv49; exact (dkc_nle c51))
              have d57 : dkN [(-90, 2)] v49 := dkN_le1 1 dv49 (dkN_lit (x := 3) (3) rfl) (dkc_nle c51) rfl
              refine lv_iconst (v := 2) hx hb dX6_advances_126 (by decide) ?_
              refine lv_goto (tgt := 131) hx hb dX6_advances_127 (by decide) ?_
              refine dk_put (k := 340) hx hb hts iX6_advances_6 tyX6 tyX6_ok nmX6 hown hK hW (dk_at340 hW) hS rfl 11 (by decide) (hts (.fieldLink RX6 98 "DogKingsModel" "token" "I") (List.mem_of_getElem? (i := 4) rfl)) rfl rfl (Nat.le_of_ble_eq_true rfl) rfl dX6_advances_131 (fun I58 H58 L58 eI58 hW hS => ?_)
              have eI58 : I58 = dkU I38_ 340 11 2 := eI58
              have hO := dkO_set hO eI58 (dkN_sub (dkN_lit (x := 2) (2) rfl) rfl)
              have hF := dkF_set hF eI58 rfl
              have q59 := dkAdv_end cx38 (by omega)
              exact W.vret hx hb hr (fun t ht hW9 => ⟨⟨I58, rfl, ⟨hF, hO, ⟨(show dkN [(0, 5)] (I58 340 11) from dkN_sub (by rw [eI58, dkU_ss]; exact (dkN_lit (x := 2) (2) rfl)) rfl), (((show I58 340 9 = I38_ 340 9 from ((by rw [eI58, dkU_sn (by decide)] : I58 340 9 = _).trans ((hF26 340 9 rfl).trans ((hF2 340 9 rfl).trans rfl))))).trans q59.1.symm), (show I58 340 10 = I0 340 9 from ((by rw [eI58, dkU_sn (by decide)] : I58 340 10 = _).trans ((hF26 340 10 rfl).trans ((hF2 340 10 rfl).trans zp38_0)))), (by rcases q59.2.2 with h | h <;> first | exact ((show I58 340 11 = 2 from (by rw [eI58, dkU_ss]))).trans h.2.symm | (exfalso; have h9 := h.1; omega)), (((show I58 340 12 = I38_ 340 12 from ((by rw [eI58, dkU_sn (by decide)] : I58 340 12 = _).trans ((hF26 340 12 rfl).trans ((hF2 340 12 rfl).trans rfl))))).trans q59.2.1.symm), trivial⟩⟩, dkW_eq ht hW⟩, hS.F ht⟩) hS.2.2 dX6_advances_134
          ·
            exact absurd ((xv26).trans (rfl).symm) c46
        ·
          obtain ⟨dv26, a26_0, x26_0, x26_1, xr26, -⟩ := hc26
          have q60 : (48 : Int) + 0 ≤ ((I0 345) (Int32.toNatClampNeg (I38_ 340 9))).toInt := by have h := x26_0; rw [xv2] at h; exact h
          have q61 : ((I0 345) (Int32.toNatClampNeg (I38_ 340 9))).toInt + 0 ≤ (57 : Int) := by have h := x26_1; rw [xv2] at h; exact h
          have xv26 : v26 = 1 := by have h := xr26; exact h
          have d62 : dkN [(48, 57)] v2 := dkN_eq1 dv2 a26_0 rfl rfl
          refine lv_if_eq (tgt := 112) hx hb dX6_advances_53 (by decide) (fun c63 => ?_) (fun c63 => ?_)
          ·
            exact (dkN_nil (show dkN [] v26 from dkN_eq1 dv26 (dkN_lit (x := 0) (0) rfl) (congrArg Int32.toInt c63) rfl)).elim
          ·
            refine lv_aload_n hx hb dX6_advances_56 rfl (lv_at hl 0 rfl) ?_
            refine lv_aload_n hx hb dX6_advances_57 rfl (lv_at hl 0 rfl) ?_
            refine dk_get (k := 340) hx hb hts iX6_advances_6 hown hK (dk_at340 hW) rfl 9 (by decide) (hts (.fieldLink RX6 86 "DogKingsModel" "at" "I") (List.mem_of_getElem? (i := 1) rfl)) rfl dX6_advances_58 ?_
            refine lv_topi (fun v64 ev64 => ?_)
            have dv64 : dkN [(0, 89)] v64 := by rw [ev64]; exact (by rw [hF26 340 9 rfl]; exact f25)
            have xv64 : v64 = I38_ 340 9 := ev64.trans ((hF26 340 9 rfl).trans ((hF2 340 9 rfl).trans rfl))
            refine lv_aload_n hx hb dX6_advances_61 rfl (lv_at hl 0 rfl) ?_
            refine dk_get (k := 340) hx hb hts iX6_advances_6 hown hK (dk_at340 hW) rfl 10 (by decide) (hts (.fieldLink RX6 89 "DogKingsModel" "start" "I") (List.mem_of_getElem? (i := 2) rfl)) rfl dX6_advances_62 ?_
            refine lv_topi (fun v65 ev65 => ?_)
            have dv65 : dkN [(0, 90)] v65 := by rw [ev65]; exact (hO 340 10)
            have xv65 : v65 = I0 340 9 := ev65.trans ((hF26 340 10 rfl).trans ((hF2 340 10 rfl).trans zp38_0))
            refine lv_isub hx hb dX6_advances_65 ?_
            refine lv_topi (fun v66 ev66 => ?_)
            have dv66 : dkN [(-90, 89)] v66 := by rw [ev66]; exact dkN_subt dv64 dv65 rfl
            have xv66 : v66 = (I38_ 340 9) - (I0 340 9) := by rw [ev66, xv64, xv65]
            have q67 : ((I38_ 340 9) - (I0 340 9)).toInt = (I38_ 340 9).toInt - (I0 340 9).toInt := by first | (rw [← xv66, ← xv64, ← xv65]; exact (by rw [ev66]; exact dk_subE dv64 dv65 rfl)) | (subst xv66 xv64 xv65; exact (by rw [ev66]; exact dk_subE dv64 dv65 rfl))
            refine lv_iconst (v := 2) hx hb dX6_advances_66 (by decide) ?_
            refine lv_icmp_ge (tgt := 92) hx hb dX6_advances_67 (by decide) (fun c68 => ?_) (fun c68 => ?_)
            ·
              have q69 : (2 : Int) + 0 ≤ ((I38_ 340 9) - (I0 340 9)).toInt := by first | (rw [← xv66]; exact (dkc_le c68)) | (subst xv66; exact (dkc_le c68))
              have d70 : dkN [(2, 89)] v66 := dkN_le2 0 (dkN_lit (x := 2) (2) rfl) dv66 (dkc_le c68) rfl
              refine lv_aload_n hx hb dX6_advances_92 rfl (lv_at hl 0 rfl) ?_
              refine dk_get (k := 340) hx hb hts iX6_advances_6 hown hK (dk_at340 hW) rfl 12 (by decide) (hts (.fieldLink RX6 95 "DogKingsModel" "value" "I") (List.mem_of_getElem? (i := 3) rfl)) rfl dX6_advances_93 ?_
              refine lv_topi (fun v71 ev71 => ?_)
              have xv71 : v71 = I38_ 340 12 := ev71.trans ((hF26 340 12 rfl).trans ((hF2 340 12 rfl).trans rfl))
              refine dk_put (k := 340) hx hb hts iX6_advances_6 tyX6 tyX6_ok nmX6 hown hK hW (dk_at340 hW) hS rfl 12 (by decide) (hts (.fieldLink RX6 95 "DogKingsModel" "value" "I") (List.mem_of_getElem? (i := 3) rfl)) rfl rfl (Nat.le_of_ble_eq_true rfl) rfl dX6_advances_96 (fun I72 H72 L72 eI72 hW hS => ?_)
              have eI72 : I72 = dkU I38_ 340 12 v71 := eI72
              have hO := dkO_set hO eI72 (dkN_sub (dkN_top v71) rfl)
              have hF := dkF_set hF eI72 rfl
              refine lv_aload_n hx hb dX6_advances_99 rfl (lv_at hl 0 rfl) ?_
              refine lv_dup hx hb dX6_advances_100 rfl ?_
              refine dk_get (k := 340) hx hb hts iX6_advances_6 hown hK (dk_at340 hW) rfl 9 (by decide) (hts (.fieldLink RX6 86 "DogKingsModel" "at" "I") (List.mem_of_getElem? (i := 1) rfl)) rfl dX6_advances_101 ?_
              refine lv_topi (fun v73 ev73 => ?_)
              have dv73 : dkN [(0, 89)] v73 := by rw [ev73]; exact (by rw [eI72, dkU_sn (by decide)]; exact (by rw [hF26 340 9 rfl]; exact f25))
              have xv73 : v73 = I38_ 340 9 := ev73.trans ((by rw [eI72, dkU_sn (by decide)] : I72 340 9 = _).trans ((hF26 340 9 rfl).trans ((hF2 340 9 rfl).trans rfl)))
              refine lv_iconst (v := 1) hx hb dX6_advances_104 (by decide) ?_
              refine lv_iadd hx hb dX6_advances_105 ?_
              refine lv_topi (fun v74 ev74 => ?_)
              have dv74 : dkN [(1, 90)] v74 := by rw [ev74]; exact dkN_add dv73 (dkN_lit (x := 1) (1) rfl) rfl
              have xv74 : v74 = (I38_ 340 9) + (1 : Int32) := by rw [ev74, xv73]
              have q75 : ((I38_ 340 9) + (1 : Int32)).toInt = (I38_ 340 9).toInt + (1 : Int) := by first | (rw [← xv74, ← xv73]; exact (by rw [ev74]; exact dk_addE dv73 (dkN_lit (x := 1) (1) rfl) rfl)) | (subst xv74 xv73; exact (by rw [ev74]; exact dk_addE dv73 (dkN_lit (x := 1) (1) rfl) rfl))
              refine dk_put (k := 340) hx hb hts iX6_advances_6 tyX6 tyX6_ok nmX6 hown hK hW (dk_at340 hW) hS rfl 9 (by decide) (hts (.fieldLink RX6 86 "DogKingsModel" "at" "I") (List.mem_of_getElem? (i := 1) rfl)) rfl rfl (Nat.le_of_ble_eq_true rfl) rfl dX6_advances_106 (fun I76 H76 L76 eI76 hW hS => ?_)
              have eI76 : I76 = dkU I72 340 9 v74 := eI76
              have hO := dkO_set hO eI76 (dkN_sub dv74 rfl)
              have hF := dkF_set hF eI76 rfl
              refine lv_goto (tgt := 38) hx hb dX6_advances_109 (by decide) ?_
              exact ih38 I76 _ _ ls x38_1 (dk_nearH hn38 (by rw [eI76, dkU_ss, ev74] : I76 340 9 = v73 + 1) (ev73.trans ((by rw [eI72, dkU_sn (by decide)] : I72 340 9 = _).trans rfl)) dv73 rfl rfl) hW hS hF hO (dkN_sub k38_0 rfl) ((by rw [eI76, dkU_n (by decide)] : I76 345 = _).trans ((by rw [eI72, dkU_n (by decide)] : I72 345 = _).trans ((funext fun j => hF26 345 j dkNin_nil).trans ((funext fun j => hF2 345 j dkNin_nil).trans z38_0)))) ((by rw [eI76, dkU_sn (by decide)] : I76 340 10 = _).trans ((by rw [eI72, dkU_sn (by decide)] : I72 340 10 = _).trans ((hF26 340 10 rfl).trans ((hF2 340 10 rfl).trans zp38_0)))) ((by rw [eI76, dkU_sn (by decide)] : I76 340 6 = _).trans ((by rw [eI72, dkU_sn (by decide)] : I72 340 6 = _).trans ((hF26 340 6 rfl).trans ((hF2 340 6 rfl).trans zp38_1)))) y38_0 y38_1 y38_2 (by rw [show I76 340 9 = (I38_ 340 9) + 1 from (by rw [eI76, dkU_ss, xv74]), show I76 340 12 = I38_ 340 12 from ((by rw [eI76, dkU_sn (by decide)] : I76 340 12 = _).trans (by rw [eI72, dkU_ss, xv71]))]; exact dkAdv_s2 cx38 (by omega) (by omega) (by omega) (by omega)) (lv_sub hl [0, 1] rfl)
            ·
              have q78 : ((I38_ 340 9) - (I0 340 9)).toInt + 1 ≤ (2 : Int) := by first | (rw [← xv66]; exact (dkc_nle c68)) | (subst xv66; exact (dkc_nle c68))
              have d79 : dkN [(-90, 1)] v66 := dkN_le1 1 dv66 (dkN_lit (x := 2) (2) rfl) (dkc_nle c68) rfl
              refine lv_bipush (v := 10) hx hb dX6_advances_70 (by decide) ?_
              refine lv_aload_n hx hb dX6_advances_72 rfl (lv_at hl 0 rfl) ?_
              refine dk_get (k := 340) hx hb hts iX6_advances_6 hown hK (dk_at340 hW) rfl 12 (by decide) (hts (.fieldLink RX6 95 "DogKingsModel" "value" "I") (List.mem_of_getElem? (i := 3) rfl)) rfl dX6_advances_73 ?_
              refine lv_topi (fun v80 ev80 => ?_)
              have xv80 : v80 = I38_ 340 12 := ev80.trans ((hF26 340 12 rfl).trans ((hF2 340 12 rfl).trans rfl))
              refine lv_imul hx hb dX6_advances_76 ?_
              refine lv_topi (fun v81 ev81 => ?_)
              have xv81 : v81 = (10 : Int32) * (I38_ 340 12) := by rw [ev81, xv80]
              refine lv_aload_n hx hb dX6_advances_77 rfl (lv_at hl 0 rfl) ?_
              refine lv_aload_n hx hb dX6_advances_78 rfl (lv_at hl 0 rfl) ?_
              refine dk_get (k := 340) hx hb hts iX6_advances_6 hown hK (dk_at340 hW) rfl 9 (by decide) (hts (.fieldLink RX6 86 "DogKingsModel" "at" "I") (List.mem_of_getElem? (i := 1) rfl)) rfl dX6_advances_79 ?_
              refine lv_topi (fun v82 ev82 => ?_)
              have dv82 : dkN [(0, 89)] v82 := by rw [ev82]; exact (by rw [hF26 340 9 rfl]; exact f25)
              have xv82 : v82 = I38_ 340 9 := ev82.trans ((hF26 340 9 rfl).trans ((hF2 340 9 rfl).trans rfl))
              refine dk_Vi (As := [.int v82]) (rest := [.int v81, .ref (z + 340)]) ⟨hx, hb, hml, hown, hts⟩ (fx_X6_byteAt_3 l g z I38_ v82 dv82 hO) (cwV 1 hts gX6_advances_X6_byteAt rfl rfl rfl (by decide +kernel) ⟨Nat.le_of_ble_eq_true rfl, Nat.le_of_ble_eq_true rfl⟩) (dk_at340 hW) rfl hK hT hW hS rfl hl.1 rfl (Nat.le_of_ble_eq_true rfl) dX6_advances_82 ⟨Nat.zero_le _, Nat.zero_le _⟩ (fun v83 I83 H83 L83 hp83 hW hS => ?_)
              obtain ⟨hF83, hO, hc83⟩ := hp83
              have hF := dkF_call hF hF83 rfl
              have eI83 : I38_ = I83 := (dkF_nil hF83).symm
              subst eI83
              rcases hc83 with ⟨dv83, f83_340_6, x83_0, xr83, -⟩ | hc83
              ·
                have w84 : I38_ 340 6 = I0 340 6 := ((hF26 340 6 rfl).trans ((hF2 340 6 rfl).trans zp38_1))
                have q85 : (I0 340 6).toInt + 0 ≤ (I38_ 340 9).toInt := by have h := x83_0; rw [w84, xv82] at h; exact h
                have xv83 : v83 = (-1) := by have h := xr83; exact h
                refine lv_iadd hx hb dX6_advances_85 ?_
                refine lv_topi (fun v86 ev86 => ?_)
                have xv86 : v86 = ((10 : Int32) * (I38_ 340 12)) + (-1 : Int32) := by rw [ev86, xv81, xv83]
                refine lv_bipush (v := 48) hx hb dX6_advances_86 (by decide) ?_
                refine lv_isub hx hb dX6_advances_88 ?_
                refine lv_topi (fun v87 ev87 => ?_)
                have xv87 : v87 = (((10 : Int32) * (I38_ 340 12)) + (-1 : Int32)) - (48 : Int32) := by rw [ev87, xv86]
                refine lv_goto (tgt := 96) hx hb dX6_advances_89 (by decide) ?_
                refine dk_put (k := 340) hx hb hts iX6_advances_6 tyX6 tyX6_ok nmX6 hown hK hW (dk_at340 hW) hS rfl 12 (by decide) (hts (.fieldLink RX6 95 "DogKingsModel" "value" "I") (List.mem_of_getElem? (i := 3) rfl)) rfl rfl (Nat.le_of_ble_eq_true rfl) rfl dX6_advances_96 (fun I88 H88 L88 eI88 hW hS => ?_)
                have eI88 : I88 = dkU I38_ 340 12 v87 := eI88
                have hO := dkO_set hO eI88 (dkN_sub (dkN_top v87) rfl)
                have hF := dkF_set hF eI88 rfl
                refine lv_aload_n hx hb dX6_advances_99 rfl (lv_at hl 0 rfl) ?_
                refine lv_dup hx hb dX6_advances_100 rfl ?_
                refine dk_get (k := 340) hx hb hts iX6_advances_6 hown hK (dk_at340 hW) rfl 9 (by decide) (hts (.fieldLink RX6 86 "DogKingsModel" "at" "I") (List.mem_of_getElem? (i := 1) rfl)) rfl dX6_advances_101 ?_
                refine lv_topi (fun v89 ev89 => ?_)
                have dv89 : dkN [(0, 89)] v89 := by rw [ev89]; exact (by rw [eI88, dkU_sn (by decide)]; exact (by rw [hF83 340 9 rfl]; exact (by rw [hF26 340 9 rfl]; exact f25)))
                have xv89 : v89 = I38_ 340 9 := ev89.trans ((by rw [eI88, dkU_sn (by decide)] : I88 340 9 = _).trans ((hF83 340 9 rfl).trans ((hF26 340 9 rfl).trans ((hF2 340 9 rfl).trans rfl))))
                refine lv_iconst (v := 1) hx hb dX6_advances_104 (by decide) ?_
                refine lv_iadd hx hb dX6_advances_105 ?_
                refine lv_topi (fun v90 ev90 => ?_)
                have dv90 : dkN [(1, 90)] v90 := by rw [ev90]; exact dkN_add dv89 (dkN_lit (x := 1) (1) rfl) rfl
                have xv90 : v90 = (I38_ 340 9) + (1 : Int32) := by rw [ev90, xv89]
                have q91 : ((I38_ 340 9) + (1 : Int32)).toInt = (I38_ 340 9).toInt + (1 : Int) := by first | (rw [← xv90, ← xv89]; exact (by rw [ev90]; exact dk_addE dv89 (dkN_lit (x := 1) (1) rfl) rfl)) | (subst xv90 xv89; exact (by rw [ev90]; exact dk_addE dv89 (dkN_lit (x := 1) (1) rfl) rfl))
                refine dk_put (k := 340) hx hb hts iX6_advances_6 tyX6 tyX6_ok nmX6 hown hK hW (dk_at340 hW) hS rfl 9 (by decide) (hts (.fieldLink RX6 86 "DogKingsModel" "at" "I") (List.mem_of_getElem? (i := 1) rfl)) rfl rfl (Nat.le_of_ble_eq_true rfl) rfl dX6_advances_106 (fun I92 H92 L92 eI92 hW hS => ?_)
                have eI92 : I92 = dkU I88 340 9 v90 := eI92
                have hO := dkO_set hO eI92 (dkN_sub dv90 rfl)
                have hF := dkF_set hF eI92 rfl
                refine lv_goto (tgt := 38) hx hb dX6_advances_109 (by decide) ?_
                exact ih38 I92 _ _ ls x38_1 (dk_nearH hn38 (by rw [eI92, dkU_ss, ev90] : I92 340 9 = v89 + 1) (ev89.trans ((by rw [eI88, dkU_sn (by decide)] : I88 340 9 = _).trans rfl)) dv89 rfl rfl) hW hS hF hO (dkN_sub k38_0 rfl) ((by rw [eI92, dkU_n (by decide)] : I92 345 = _).trans ((by rw [eI88, dkU_n (by decide)] : I88 345 = _).trans ((funext fun j => hF83 345 j dkNin_nil).trans ((funext fun j => hF26 345 j dkNin_nil).trans ((funext fun j => hF2 345 j dkNin_nil).trans z38_0))))) ((by rw [eI92, dkU_sn (by decide)] : I92 340 10 = _).trans ((by rw [eI88, dkU_sn (by decide)] : I88 340 10 = _).trans ((hF83 340 10 rfl).trans ((hF26 340 10 rfl).trans ((hF2 340 10 rfl).trans zp38_0))))) ((by rw [eI92, dkU_sn (by decide)] : I92 340 6 = _).trans ((by rw [eI88, dkU_sn (by decide)] : I88 340 6 = _).trans ((hF83 340 6 rfl).trans ((hF26 340 6 rfl).trans ((hF2 340 6 rfl).trans zp38_1))))) y38_0 y38_1 y38_2 (by exfalso; omega) (lv_sub hl [0, 1] rfl)
              ·
                obtain ⟨dv83, f83_340_6, x83_0, xr83, -⟩ := hc83
                have w94 : I38_ 340 6 = I0 340 6 := ((hF26 340 6 rfl).trans ((hF2 340 6 rfl).trans zp38_1))
                have w95 : I38_ 345 = I0 345 := ((funext fun j => hF26 345 j dkNin_nil).trans ((funext fun j => hF2 345 j dkNin_nil).trans z38_0))
                have xv83 : v83 = (I0 345) (Int32.toNatClampNeg (I38_ 340 9)) := by have h := xr83; rw [w95, xv82] at h; exact h
                refine lv_iadd hx hb dX6_advances_85 ?_
                refine lv_topi (fun v96 ev96 => ?_)
                have xv96 : v96 = ((10 : Int32) * (I38_ 340 12)) + ((I0 345) (Int32.toNatClampNeg (I38_ 340 9))) := by rw [ev96, xv81, xv83]
                refine lv_bipush (v := 48) hx hb dX6_advances_86 (by decide) ?_
                refine lv_isub hx hb dX6_advances_88 ?_
                refine lv_topi (fun v97 ev97 => ?_)
                have xv97 : v97 = (((10 : Int32) * (I38_ 340 12)) + ((I0 345) (Int32.toNatClampNeg (I38_ 340 9)))) - (48 : Int32) := by rw [ev97, xv96]
                refine lv_goto (tgt := 96) hx hb dX6_advances_89 (by decide) ?_
                refine dk_put (k := 340) hx hb hts iX6_advances_6 tyX6 tyX6_ok nmX6 hown hK hW (dk_at340 hW) hS rfl 12 (by decide) (hts (.fieldLink RX6 95 "DogKingsModel" "value" "I") (List.mem_of_getElem? (i := 3) rfl)) rfl rfl (Nat.le_of_ble_eq_true rfl) rfl dX6_advances_96 (fun I98 H98 L98 eI98 hW hS => ?_)
                have eI98 : I98 = dkU I38_ 340 12 v97 := eI98
                have hO := dkO_set hO eI98 (dkN_sub (dkN_top v97) rfl)
                have hF := dkF_set hF eI98 rfl
                refine lv_aload_n hx hb dX6_advances_99 rfl (lv_at hl 0 rfl) ?_
                refine lv_dup hx hb dX6_advances_100 rfl ?_
                refine dk_get (k := 340) hx hb hts iX6_advances_6 hown hK (dk_at340 hW) rfl 9 (by decide) (hts (.fieldLink RX6 86 "DogKingsModel" "at" "I") (List.mem_of_getElem? (i := 1) rfl)) rfl dX6_advances_101 ?_
                refine lv_topi (fun v99 ev99 => ?_)
                have dv99 : dkN [(0, 89)] v99 := by rw [ev99]; exact (by rw [eI98, dkU_sn (by decide)]; exact (by rw [hF83 340 9 rfl]; exact (by rw [hF26 340 9 rfl]; exact f25)))
                have xv99 : v99 = I38_ 340 9 := ev99.trans ((by rw [eI98, dkU_sn (by decide)] : I98 340 9 = _).trans ((hF83 340 9 rfl).trans ((hF26 340 9 rfl).trans ((hF2 340 9 rfl).trans rfl))))
                refine lv_iconst (v := 1) hx hb dX6_advances_104 (by decide) ?_
                refine lv_iadd hx hb dX6_advances_105 ?_
                refine lv_topi (fun v100 ev100 => ?_)
                have dv100 : dkN [(1, 90)] v100 := by rw [ev100]; exact dkN_add dv99 (dkN_lit (x := 1) (1) rfl) rfl
                have xv100 : v100 = (I38_ 340 9) + (1 : Int32) := by rw [ev100, xv99]
                have q101 : ((I38_ 340 9) + (1 : Int32)).toInt = (I38_ 340 9).toInt + (1 : Int) := by first | (rw [← xv100, ← xv99]; exact (by rw [ev100]; exact dk_addE dv99 (dkN_lit (x := 1) (1) rfl) rfl)) | (subst xv100 xv99; exact (by rw [ev100]; exact dk_addE dv99 (dkN_lit (x := 1) (1) rfl) rfl))
                refine dk_put (k := 340) hx hb hts iX6_advances_6 tyX6 tyX6_ok nmX6 hown hK hW (dk_at340 hW) hS rfl 9 (by decide) (hts (.fieldLink RX6 86 "DogKingsModel" "at" "I") (List.mem_of_getElem? (i := 1) rfl)) rfl rfl (Nat.le_of_ble_eq_true rfl) rfl dX6_advances_106 (fun I102 H102 L102 eI102 hW hS => ?_)
                have eI102 : I102 = dkU I98 340 9 v100 := eI102
                have hO := dkO_set hO eI102 (dkN_sub dv100 rfl)
                have hF := dkF_set hF eI102 rfl
                refine lv_goto (tgt := 38) hx hb dX6_advances_109 (by decide) ?_
                exact ih38 I102 _ _ ls x38_1 (dk_nearH hn38 (by rw [eI102, dkU_ss, ev100] : I102 340 9 = v99 + 1) (ev99.trans ((by rw [eI98, dkU_sn (by decide)] : I98 340 9 = _).trans rfl)) dv99 rfl rfl) hW hS hF hO (dkN_sub k38_0 rfl) ((by rw [eI102, dkU_n (by decide)] : I102 345 = _).trans ((by rw [eI98, dkU_n (by decide)] : I98 345 = _).trans ((funext fun j => hF83 345 j dkNin_nil).trans ((funext fun j => hF26 345 j dkNin_nil).trans ((funext fun j => hF2 345 j dkNin_nil).trans z38_0))))) ((by rw [eI102, dkU_sn (by decide)] : I102 340 10 = _).trans ((by rw [eI98, dkU_sn (by decide)] : I98 340 10 = _).trans ((hF83 340 10 rfl).trans ((hF26 340 10 rfl).trans ((hF2 340 10 rfl).trans zp38_0))))) ((by rw [eI102, dkU_sn (by decide)] : I102 340 6 = _).trans ((by rw [eI98, dkU_sn (by decide)] : I98 340 6 = _).trans ((hF83 340 6 rfl).trans ((hF26 340 6 rfl).trans ((hF2 340 6 rfl).trans zp38_1))))) y38_0 y38_1 y38_2 (by rw [show I102 340 9 = (I38_ 340 9) + 1 from (by rw [eI102, dkU_ss, xv100]), show I102 340 12 = (((10 : Int32) * (I38_ 340 12)) + ((I0 345) (Int32.toNatClampNeg (I38_ 340 9)))) - (48 : Int32) from ((by rw [eI102, dkU_sn (by decide)] : I102 340 12 = _).trans (by rw [eI98, dkU_ss, xv97]))]; exact dkAdv_s1 cx38 (by omega) (by omega) (by omega) (by omega)) (lv_sub hl [0, 1] rfl)
  refine lv_aload_n hx hb dX6_advances_0 rfl (lv_at hl 0 rfl) ?_
  refine lv_aload_n hx hb dX6_advances_1 rfl (lv_at hl 0 rfl) ?_
  refine dk_get (k := 340) hx hb hts iX6_advances_6 hown hK (dk_at340 hW) rfl 9 (by decide) (hts (.fieldLink RX6 86 "DogKingsModel" "at" "I") (List.mem_of_getElem? (i := 1) rfl)) rfl dX6_advances_2 ?_
  refine lv_topi (fun v104 ev104 => ?_)
  have dv104 : dkN [(0, 90)] v104 := by rw [ev104]; exact (hO 340 9)
  have xv104 : v104 = I0 340 9 := ev104.trans rfl
  refine dk_put (k := 340) hx hb hts iX6_advances_6 tyX6 tyX6_ok nmX6 hown hK hW (dk_at340 hW) hS rfl 10 (by decide) (hts (.fieldLink RX6 89 "DogKingsModel" "start" "I") (List.mem_of_getElem? (i := 2) rfl)) rfl rfl (Nat.le_of_ble_eq_true rfl) rfl dX6_advances_5 (fun I105 H105 L105 eI105 hW hS => ?_)
  have eI105 : I105 = dkU I0 340 10 v104 := eI105
  have hO := dkO_set hO eI105 (dkN_sub dv104 rfl)
  have hF := dkF_set hF eI105 rfl
  refine lv_aload_n hx hb dX6_advances_8 rfl (lv_at hl 0 rfl) ?_
  refine lv_aload_n hx hb dX6_advances_9 rfl (lv_at hl 0 rfl) ?_
  refine dk_get (k := 340) hx hb hts iX6_advances_6 hown hK (dk_at340 hW) rfl 9 (by decide) (hts (.fieldLink RX6 86 "DogKingsModel" "at" "I") (List.mem_of_getElem? (i := 1) rfl)) rfl dX6_advances_10 ?_
  refine lv_topi (fun v106 ev106 => ?_)
  have dv106 : dkN [(0, 90)] v106 := by rw [ev106]; exact (hO 340 9)
  have xv106 : v106 = I0 340 9 := ev106.trans ((by rw [eI105, dkU_sn (by decide)] : I105 340 9 = _).trans rfl)
  refine dk_Vi (As := [.int v106]) (rest := []) ⟨hx, hb, hml, hown, hts⟩ (fx_X6_byteAt_2 l g z I105 v106 dv106 hO) (cwV 1 hts gX6_advances_X6_byteAt rfl rfl rfl (by decide +kernel) ⟨Nat.le_of_ble_eq_true rfl, Nat.le_of_ble_eq_true rfl⟩) (dk_at340 hW) rfl hK hT hW hS rfl hl.1 rfl (Nat.le_of_ble_eq_true rfl) dX6_advances_13 ⟨Nat.zero_le _, Nat.zero_le _⟩ (fun v107 I107 H107 L107 hp107 hW hS => ?_)
  obtain ⟨hF107, hO, hc107⟩ := hp107
  have hF := dkF_call hF hF107 rfl
  have eI107 : I105 = I107 := (dkF_nil hF107).symm
  subst eI107
  rcases hc107 with ⟨dv107, x107_0, xr107, -⟩ | hc107
  ·
    have w108 : I105 340 6 = I0 340 6 := ((by rw [eI105, dkU_sn (by decide)] : I105 340 6 = _).trans rfl)
    have q109 : (I0 340 6).toInt + 0 ≤ (I0 340 9).toInt := by have h := x107_0; rw [w108, xv106] at h; exact h
    have xv107 : v107 = (-1) := by have h := xr107; exact h
    refine lv_istore_n (lv' := [(1, .int v107), (0, .ref (z + 340))]) hx hb dX6_advances_16 rfl hl (by decide) rfl (fun ls hl => ?_)
    refine lv_aload_n hx hb dX6_advances_17 rfl (lv_at hl 1 rfl) ?_
    refine lv_iload_n hx hb dX6_advances_18 rfl (lv_at hl 0 rfl) ?_
    refine dk_put (k := 340) hx hb hts iX6_advances_6 tyX6 tyX6_ok nmX6 hown hK hW (dk_at340 hW) hS rfl 12 (by decide) (hts (.fieldLink RX6 95 "DogKingsModel" "value" "I") (List.mem_of_getElem? (i := 3) rfl)) rfl rfl (Nat.le_of_ble_eq_true rfl) rfl dX6_advances_19 (fun I110 H110 L110 eI110 hW hS => ?_)
    have eI110 : I110 = dkU I105 340 12 v107 := eI110
    have hO := dkO_set hO eI110 (dkN_sub dv107 rfl)
    have hF := dkF_set hF eI110 rfl
    refine lv_iload_n hx hb dX6_advances_22 rfl (lv_at hl 0 rfl) ?_
    refine lv_bipush (v := 48) hx hb dX6_advances_23 (by decide) ?_
    refine lv_bipush (v := 57) hx hb dX6_advances_25 (by decide) ?_
    refine dk_Si (As := [.int v107, .int 48, .int 57]) (rest := []) ⟨hx, hb, hml, hown, hts⟩ (fx_X6_in_23 l g z I110 v107 48 57 dv107 (dkN_lit (x := 48) (48) rfl) (dkN_lit (x := 57) (57) rfl) hO) (va_cwS 3 hts gX6_advances_X6_in rfl rfl rfl (by decide +kernel) ⟨Nat.le_of_ble_eq_true rfl, Nat.le_of_ble_eq_true rfl⟩) hK hT hW hS rfl hl.1 rfl (Nat.le_of_ble_eq_true rfl) dX6_advances_27 ⟨Nat.zero_le _, Nat.zero_le _⟩ (fun v111 I111 H111 L111 hp111 hW hS => ?_)
    obtain ⟨hF111, hO, hc111⟩ := hp111
    have hF := dkF_call hF hF111 rfl
    have eI111 : I110 = I111 := (dkF_nil hF111).symm
    subst eI111
    obtain ⟨dv111, x111_0, xr111, -⟩ := hc111
    have xv111 : v111 = 0 := by have h := xr111; exact h
    refine lv_if_eq (tgt := 135) hx hb dX6_advances_30 (by decide) (fun c112 => ?_) (fun c112 => ?_)
    ·
      refine lv_aload_n hx hb dX6_advances_135 rfl (lv_at hl 1 rfl) ?_
      refine lv_iload_n hx hb dX6_advances_136 rfl (lv_at hl 0 rfl) ?_
      refine lv_if_ge (tgt := 144) hx hb dX6_advances_137 (by decide) (fun c113 => ?_) (fun c113 => ?_)
      ·
        exact (dkN_nil (show dkN [] 0 from dkN_le1 0 (dkN_lit (x := 0) (0) rfl) dv107 (dkc_le c113) rfl)).elim
      ·
        refine lv_iconst (v := 0) hx hb dX6_advances_140 (by decide) ?_
        refine lv_goto (tgt := 180) hx hb dX6_advances_141 (by decide) ?_
        refine dk_put (k := 340) hx hb hts iX6_advances_6 tyX6 tyX6_ok nmX6 hown hK hW (dk_at340 hW) hS rfl 11 (by decide) (hts (.fieldLink RX6 98 "DogKingsModel" "token" "I") (List.mem_of_getElem? (i := 4) rfl)) rfl rfl (Nat.le_of_ble_eq_true rfl) rfl dX6_advances_180 (fun I114 H114 L114 eI114 hW hS => ?_)
        have eI114 : I114 = dkU I110 340 11 0 := eI114
        have hO := dkO_set hO eI114 (dkN_sub (dkN_lit (x := 0) (0) rfl) rfl)
        have hF := dkF_set hF eI114 rfl
        refine lv_aload_n hx hb dX6_advances_183 rfl (lv_at hl 1 rfl) ?_
        refine lv_dup hx hb dX6_advances_184 rfl ?_
        refine dk_get (k := 340) hx hb hts iX6_advances_6 hown hK (dk_at340 hW) rfl 9 (by decide) (hts (.fieldLink RX6 86 "DogKingsModel" "at" "I") (List.mem_of_getElem? (i := 1) rfl)) rfl dX6_advances_185 ?_
        refine lv_topi (fun v115 ev115 => ?_)
        have dv115 : dkN [(0, 90)] v115 := by rw [ev115]; exact (hO 340 9)
        have xv115 : v115 = I0 340 9 := ev115.trans ((by rw [eI114, dkU_sn (by decide)] : I114 340 9 = _).trans ((hF111 340 9 rfl).trans ((by rw [eI110, dkU_sn (by decide)] : I110 340 9 = _).trans ((hF107 340 9 rfl).trans ((by rw [eI105, dkU_sn (by decide)] : I105 340 9 = _).trans rfl)))))
        refine lv_aload_n hx hb dX6_advances_188 rfl (lv_at hl 1 rfl) ?_
        refine dk_get (k := 340) hx hb hts iX6_advances_6 hown hK (dk_at340 hW) rfl 11 (by decide) (hts (.fieldLink RX6 98 "DogKingsModel" "token" "I") (List.mem_of_getElem? (i := 4) rfl)) rfl dX6_advances_189 ?_
        refine lv_topi (fun v116 ev116 => ?_)
        have dv116 : dkN [(0, 0)] v116 := by rw [ev116]; exact (by rw [eI114, dkU_ss]; exact (dkN_lit (x := 0) (0) rfl))
        have xv116 : v116 = 0 := ev116.trans (by rw [eI114, dkU_ss])
        refine lv_if_ne (tgt := 199) hx hb dX6_advances_192 (by decide) (fun c117 => ?_) (fun c117 => ?_)
        ·
          exact absurd ((xv116).trans (rfl).symm) c117
        ·
          refine lv_iconst (v := 0) hx hb dX6_advances_195 (by decide) ?_
          refine lv_goto (tgt := 200) hx hb dX6_advances_196 (by decide) ?_
          refine lv_iadd hx hb dX6_advances_200 ?_
          refine lv_topi (fun v118 ev118 => ?_)
          have dv118 : dkN [(0, 90)] v118 := by rw [ev118]; exact dkN_add dv115 (dkN_lit (x := 0) (0) rfl) rfl
          have xv118 : v118 = (I0 340 9) + (0 : Int32) := by rw [ev118, xv115]
          have q119 : ((I0 340 9) + (0 : Int32)).toInt = (I0 340 9).toInt + (0 : Int) := by first | (rw [← xv118, ← xv115]; exact (by rw [ev118]; exact dk_addE dv115 (dkN_lit (x := 0) (0) rfl) rfl)) | (subst xv118 xv115; exact (by rw [ev118]; exact dk_addE dv115 (dkN_lit (x := 0) (0) rfl) rfl))
          refine dk_put (k := 340) hx hb hts iX6_advances_6 tyX6 tyX6_ok nmX6 hown hK hW (dk_at340 hW) hS rfl 9 (by decide) (hts (.fieldLink RX6 86 "DogKingsModel" "at" "I") (List.mem_of_getElem? (i := 1) rfl)) rfl rfl (Nat.le_of_ble_eq_true rfl) rfl dX6_advances_201 (fun I120 H120 L120 eI120 hW hS => ?_)
          have eI120 : I120 = dkU I114 340 9 v118 := eI120
          have hO := dkO_set hO eI120 (dkN_sub dv118 rfl)
          have hF := dkF_set hF eI120 rfl
          have q121 := (show dkTk (I0 345) (I0 340 6) (I0 340 9) = 0 ∧ dkTv (I0 345) (I0 340 6) (I0 340 9) = (-1) ∧ dkTe (I0 345) (I0 340 6) (I0 340 9) = (I0 340 9) + (0 : Int32) from (have h := dkT_end (T := (I0 345)) (n := (I0 340 6)) (a := (I0 340 9)) (by omega); ⟨h.1, h.2.1, h.2.2.trans (Int32.add_zero _).symm⟩))
          exact W.vret hx hb hr (fun t ht hW9 => ⟨⟨I120, rfl, ⟨hF, hO, ⟨(show dkN [(0, 5)] (I120 340 11) from dkN_sub (by rw [eI120, dkU_sn (by decide)]; exact (by rw [eI114, dkU_ss]; exact (dkN_lit (x := 0) (0) rfl))) rfl), (((show I120 340 9 = (I0 340 9) + (0 : Int32) from (by rw [eI120, dkU_ss, xv118]))).trans q121.2.2.symm), (show I120 340 10 = I0 340 9 from ((by rw [eI120, dkU_sn (by decide)] : I120 340 10 = _).trans ((by rw [eI114, dkU_sn (by decide)] : I114 340 10 = _).trans ((hF111 340 10 rfl).trans ((by rw [eI110, dkU_sn (by decide)] : I110 340 10 = _).trans ((hF107 340 10 rfl).trans (by rw [eI105, dkU_ss, xv104]))))))), (((show I120 340 11 = 0 from ((by rw [eI120, dkU_sn (by decide)] : I120 340 11 = _).trans (by rw [eI114, dkU_ss])))).trans q121.1.symm), (((show I120 340 12 = (-1) from ((by rw [eI120, dkU_sn (by decide)] : I120 340 12 = _).trans ((by rw [eI114, dkU_sn (by decide)] : I114 340 12 = _).trans ((hF111 340 12 rfl).trans (by rw [eI110, dkU_ss, xv107])))))).trans q121.2.1.symm), trivial⟩⟩, dkW_eq ht hW⟩, hS.F ht⟩) hS.2.2 dX6_advances_204
    ·
      exact absurd ((xv111).trans (rfl).symm) c112
  ·
    obtain ⟨dv107, a107_0, f107_340_6, x107_0, xr107, -⟩ := hc107
    have w122 : I105 340 6 = I0 340 6 := ((by rw [eI105, dkU_sn (by decide)] : I105 340 6 = _).trans rfl)
    have q123 : (I0 340 9).toInt + 1 ≤ (I0 340 6).toInt := by have h := x107_0; rw [w122, xv106] at h; exact h
    have w124 : I105 345 = I0 345 := ((by rw [eI105, dkU_n (by decide)] : I105 345 = _).trans rfl)
    have xv107 : v107 = (I0 345) (Int32.toNatClampNeg (I0 340 9)) := by have h := xr107; rw [w124, xv106] at h; exact h
    have e125 : v106 = I105 340 9 := by rw [hF107 340 9 rfl]; exact ev106
    have d126 : dkN [(0, 89)] v106 := dkN_eq1 dv106 a107_0 rfl rfl
    have f127 : dkN [(0, 89)] (I105 340 9) := by rw [← e125]; exact d126
    refine lv_istore_n (lv' := [(1, .int v107), (0, .ref (z + 340))]) hx hb dX6_advances_16 rfl hl (by decide) rfl (fun ls hl => ?_)
    refine lv_aload_n hx hb dX6_advances_17 rfl (lv_at hl 1 rfl) ?_
    refine lv_iload_n hx hb dX6_advances_18 rfl (lv_at hl 0 rfl) ?_
    refine dk_put (k := 340) hx hb hts iX6_advances_6 tyX6 tyX6_ok nmX6 hown hK hW (dk_at340 hW) hS rfl 12 (by decide) (hts (.fieldLink RX6 95 "DogKingsModel" "value" "I") (List.mem_of_getElem? (i := 3) rfl)) rfl rfl (Nat.le_of_ble_eq_true rfl) rfl dX6_advances_19 (fun I128 H128 L128 eI128 hW hS => ?_)
    have eI128 : I128 = dkU I105 340 12 v107 := eI128
    have hO := dkO_set hO eI128 (dkN_sub dv107 rfl)
    have hF := dkF_set hF eI128 rfl
    refine lv_iload_n hx hb dX6_advances_22 rfl (lv_at hl 0 rfl) ?_
    refine lv_bipush (v := 48) hx hb dX6_advances_23 (by decide) ?_
    refine lv_bipush (v := 57) hx hb dX6_advances_25 (by decide) ?_
    refine dk_Si (As := [.int v107, .int 48, .int 57]) (rest := []) ⟨hx, hb, hml, hown, hts⟩ (fx_X6_in_24 l g z I128 v107 48 57 dv107 (dkN_lit (x := 48) (48) rfl) (dkN_lit (x := 57) (57) rfl) hO) (va_cwS 3 hts gX6_advances_X6_in rfl rfl rfl (by decide +kernel) ⟨Nat.le_of_ble_eq_true rfl, Nat.le_of_ble_eq_true rfl⟩) hK hT hW hS rfl hl.1 rfl (Nat.le_of_ble_eq_true rfl) dX6_advances_27 ⟨Nat.zero_le _, Nat.zero_le _⟩ (fun v129 I129 H129 L129 hp129 hW hS => ?_)
    obtain ⟨hF129, hO, hc129⟩ := hp129
    have hF := dkF_call hF hF129 rfl
    have eI129 : I128 = I129 := (dkF_nil hF129).symm
    subst eI129
    rcases hc129 with ⟨dv129, a129_0, x129_0, xr129, -⟩ | hc129
    ·
      have q130 : ((I0 345) (Int32.toNatClampNeg (I0 340 9))).toInt + 1 ≤ (48 : Int) := by have h := x129_0; rw [xv107] at h; exact h
      have xv129 : v129 = 0 := by have h := xr129; exact h
      have d131 : dkN [(0, 47)] v107 := dkN_eq1 dv107 a129_0 rfl rfl
      refine lv_if_eq (tgt := 135) hx hb dX6_advances_30 (by decide) (fun c132 => ?_) (fun c132 => ?_)
      ·
        refine lv_aload_n hx hb dX6_advances_135 rfl (lv_at hl 1 rfl) ?_
        refine lv_iload_n hx hb dX6_advances_136 rfl (lv_at hl 0 rfl) ?_
        refine lv_if_ge (tgt := 144) hx hb dX6_advances_137 (by decide) (fun c133 => ?_) (fun c133 => ?_)
        ·
          have q134 : (0 : Int) + 0 ≤ ((I0 345) (Int32.toNatClampNeg (I0 340 9))).toInt := by first | (rw [← xv107]; exact (dkc_le c133)) | (subst xv107; exact (dkc_le c133))
          refine lv_iload_n hx hb dX6_advances_144 rfl (lv_at hl 0 rfl) ?_
          refine lv_bipush (v := 97) hx hb dX6_advances_145 (by decide) ?_
          refine lv_bipush (v := 122) hx hb dX6_advances_147 (by decide) ?_
          refine dk_Si (As := [.int v107, .int 97, .int 122]) (rest := [.ref (z + 340)]) ⟨hx, hb, hml, hown, hts⟩ (fx_X6_in_25 l g z I128 v107 97 122 d131 (dkN_lit (x := 97) (97) rfl) (dkN_lit (x := 122) (122) rfl) hO) (va_cwS 3 hts gX6_advances_X6_in rfl rfl rfl (by decide +kernel) ⟨Nat.le_of_ble_eq_true rfl, Nat.le_of_ble_eq_true rfl⟩) hK hT hW hS rfl hl.1 rfl (Nat.le_of_ble_eq_true rfl) dX6_advances_149 ⟨Nat.zero_le _, Nat.zero_le _⟩ (fun v135 I135 H135 L135 hp135 hW hS => ?_)
          obtain ⟨hF135, hO, hc135⟩ := hp135
          have hF := dkF_call hF hF135 rfl
          have eI135 : I128 = I135 := (dkF_nil hF135).symm
          subst eI135
          obtain ⟨dv135, x135_0, xr135, -⟩ := hc135
          have q136 : ((I0 345) (Int32.toNatClampNeg (I0 340 9))).toInt + 1 ≤ (97 : Int) := by have h := x135_0; rw [xv107] at h; exact h
          have xv135 : v135 = 0 := by have h := xr135; exact h
          refine lv_if_eq (tgt := 159) hx hb dX6_advances_152 (by decide) (fun c137 => ?_) (fun c137 => ?_)
          ·
            refine lv_iload_n hx hb dX6_advances_159 rfl (lv_at hl 0 rfl) ?_
            refine lv_bipush (v := 44) hx hb dX6_advances_160 (by decide) ?_
            refine lv_icmp_ne (tgt := 169) hx hb dX6_advances_162 (by decide) (fun c138 => ?_) (fun c138 => ?_)
            ·
              have q139 : ((I0 345) (Int32.toNatClampNeg (I0 340 9))).toInt ≠ (44 : Int) := by first | (rw [← xv107]; exact (dk_ne c138)) | (subst xv107; exact (dk_ne c138))
              have d140 : dkN [(0, 43), (45, 47)] v107 := dkN_ne1 (44) d131 (dkN_lit (x := 44) (44) rfl) (dk_ne c138) rfl
              refine lv_iload_n hx hb dX6_advances_169 rfl (lv_at hl 0 rfl) ?_
              refine lv_bipush (v := 59) hx hb dX6_advances_170 (by decide) ?_
              refine lv_icmp_ne (tgt := 179) hx hb dX6_advances_172 (by decide) (fun c141 => ?_) (fun c141 => ?_)
              ·
                have q142 : ((I0 345) (Int32.toNatClampNeg (I0 340 9))).toInt ≠ (59 : Int) := by first | (rw [← xv107]; exact (dk_ne c141)) | (subst xv107; exact (dk_ne c141))
                refine lv_iconst (v := 5) hx hb dX6_advances_179 (by decide) ?_
                refine dk_put (k := 340) hx hb hts iX6_advances_6 tyX6 tyX6_ok nmX6 hown hK hW (dk_at340 hW) hS rfl 11 (by decide) (hts (.fieldLink RX6 98 "DogKingsModel" "token" "I") (List.mem_of_getElem? (i := 4) rfl)) rfl rfl (Nat.le_of_ble_eq_true rfl) rfl dX6_advances_180 (fun I143 H143 L143 eI143 hW hS => ?_)
                have eI143 : I143 = dkU I128 340 11 5 := eI143
                have hO := dkO_set hO eI143 (dkN_sub (dkN_lit (x := 5) (5) rfl) rfl)
                have hF := dkF_set hF eI143 rfl
                refine lv_aload_n hx hb dX6_advances_183 rfl (lv_at hl 1 rfl) ?_
                refine lv_dup hx hb dX6_advances_184 rfl ?_
                refine dk_get (k := 340) hx hb hts iX6_advances_6 hown hK (dk_at340 hW) rfl 9 (by decide) (hts (.fieldLink RX6 86 "DogKingsModel" "at" "I") (List.mem_of_getElem? (i := 1) rfl)) rfl dX6_advances_185 ?_
                refine lv_topi (fun v144 ev144 => ?_)
                have dv144 : dkN [(0, 89)] v144 := by rw [ev144]; exact (by rw [eI143, dkU_sn (by decide)]; exact (by rw [hF135 340 9 rfl]; exact (by rw [hF129 340 9 rfl]; exact (by rw [eI128, dkU_sn (by decide)]; exact f127))))
                have xv144 : v144 = I0 340 9 := ev144.trans ((by rw [eI143, dkU_sn (by decide)] : I143 340 9 = _).trans ((hF135 340 9 rfl).trans ((hF129 340 9 rfl).trans ((by rw [eI128, dkU_sn (by decide)] : I128 340 9 = _).trans ((hF107 340 9 rfl).trans ((by rw [eI105, dkU_sn (by decide)] : I105 340 9 = _).trans rfl))))))
                refine lv_aload_n hx hb dX6_advances_188 rfl (lv_at hl 1 rfl) ?_
                refine dk_get (k := 340) hx hb hts iX6_advances_6 hown hK (dk_at340 hW) rfl 11 (by decide) (hts (.fieldLink RX6 98 "DogKingsModel" "token" "I") (List.mem_of_getElem? (i := 4) rfl)) rfl dX6_advances_189 ?_
                refine lv_topi (fun v145 ev145 => ?_)
                have dv145 : dkN [(5, 5)] v145 := by rw [ev145]; exact (by rw [eI143, dkU_ss]; exact (dkN_lit (x := 5) (5) rfl))
                have xv145 : v145 = 5 := ev145.trans (by rw [eI143, dkU_ss])
                refine lv_if_ne (tgt := 199) hx hb dX6_advances_192 (by decide) (fun c146 => ?_) (fun c146 => ?_)
                ·
                  refine lv_iconst (v := 1) hx hb dX6_advances_199 (by decide) ?_
                  refine lv_iadd hx hb dX6_advances_200 ?_
                  refine lv_topi (fun v147 ev147 => ?_)
                  have dv147 : dkN [(1, 90)] v147 := by rw [ev147]; exact dkN_add dv144 (dkN_lit (x := 1) (1) rfl) rfl
                  have xv147 : v147 = (I0 340 9) + (1 : Int32) := by rw [ev147, xv144]
                  have q148 : ((I0 340 9) + (1 : Int32)).toInt = (I0 340 9).toInt + (1 : Int) := by first | (rw [← xv147, ← xv144]; exact (by rw [ev147]; exact dk_addE dv144 (dkN_lit (x := 1) (1) rfl) rfl)) | (subst xv147 xv144; exact (by rw [ev147]; exact dk_addE dv144 (dkN_lit (x := 1) (1) rfl) rfl))
                  refine dk_put (k := 340) hx hb hts iX6_advances_6 tyX6 tyX6_ok nmX6 hown hK hW (dk_at340 hW) hS rfl 9 (by decide) (hts (.fieldLink RX6 86 "DogKingsModel" "at" "I") (List.mem_of_getElem? (i := 1) rfl)) rfl rfl (Nat.le_of_ble_eq_true rfl) rfl dX6_advances_201 (fun I149 H149 L149 eI149 hW hS => ?_)
                  have eI149 : I149 = dkU I143 340 9 v147 := eI149
                  have hO := dkO_set hO eI149 (dkN_sub dv147 rfl)
                  have hF := dkF_set hF eI149 rfl
                  have q150 := (show dkTk (I0 345) (I0 340 6) (I0 340 9) = 5 ∧ dkTv (I0 345) (I0 340 6) (I0 340 9) = (I0 345) (Int32.toNatClampNeg (I0 340 9)) ∧ dkTe (I0 345) (I0 340 6) (I0 340 9) = (I0 340 9) + (1 : Int32) from dkT_odd (by omega) (by omega) (by omega) (by omega) (by omega))
                  exact W.vret hx hb hr (fun t ht hW9 => ⟨⟨I149, rfl, ⟨hF, hO, ⟨(show dkN [(0, 5)] (I149 340 11) from dkN_sub (by rw [eI149, dkU_sn (by decide)]; exact (by rw [eI143, dkU_ss]; exact (dkN_lit (x := 5) (5) rfl))) rfl), (((show I149 340 9 = (I0 340 9) + (1 : Int32) from (by rw [eI149, dkU_ss, xv147]))).trans q150.2.2.symm), (show I149 340 10 = I0 340 9 from ((by rw [eI149, dkU_sn (by decide)] : I149 340 10 = _).trans ((by rw [eI143, dkU_sn (by decide)] : I143 340 10 = _).trans ((hF135 340 10 rfl).trans ((hF129 340 10 rfl).trans ((by rw [eI128, dkU_sn (by decide)] : I128 340 10 = _).trans ((hF107 340 10 rfl).trans (by rw [eI105, dkU_ss, xv104])))))))), (((show I149 340 11 = 5 from ((by rw [eI149, dkU_sn (by decide)] : I149 340 11 = _).trans (by rw [eI143, dkU_ss])))).trans q150.1.symm), (((show I149 340 12 = (I0 345) (Int32.toNatClampNeg (I0 340 9)) from ((by rw [eI149, dkU_sn (by decide)] : I149 340 12 = _).trans ((by rw [eI143, dkU_sn (by decide)] : I143 340 12 = _).trans ((hF135 340 12 rfl).trans ((hF129 340 12 rfl).trans (by rw [eI128, dkU_ss, xv107]))))))).trans q150.2.1.symm), trivial⟩⟩, dkW_eq ht hW⟩, hS.F ht⟩) hS.2.2 dX6_advances_204
                ·
                  exact (dkN_nil (show dkN [] v145 from dkN_eq1 dv145 (dkN_lit (x := 0) (0) rfl) (congrArg Int32.toInt c146) rfl)).elim
              ·
                exact (dkN_nil (show dkN [] v107 from dkN_eq1 d140 (dkN_lit (x := 59) (59) rfl) (congrArg Int32.toInt c141) rfl)).elim
            ·
              have q151 : ((I0 345) (Int32.toNatClampNeg (I0 340 9))).toInt = (44 : Int) := by first | (rw [← xv107]; exact (congrArg Int32.toInt c138)) | (subst xv107; exact (congrArg Int32.toInt c138))
              have d152 : dkN [(44, 44)] v107 := dkN_eq1 d131 (dkN_lit (x := 44) (44) rfl) (congrArg Int32.toInt c138) rfl
              refine lv_iconst (v := 3) hx hb dX6_advances_165 (by decide) ?_
              refine lv_goto (tgt := 180) hx hb dX6_advances_166 (by decide) ?_
              refine dk_put (k := 340) hx hb hts iX6_advances_6 tyX6 tyX6_ok nmX6 hown hK hW (dk_at340 hW) hS rfl 11 (by decide) (hts (.fieldLink RX6 98 "DogKingsModel" "token" "I") (List.mem_of_getElem? (i := 4) rfl)) rfl rfl (Nat.le_of_ble_eq_true rfl) rfl dX6_advances_180 (fun I153 H153 L153 eI153 hW hS => ?_)
              have eI153 : I153 = dkU I128 340 11 3 := eI153
              have hO := dkO_set hO eI153 (dkN_sub (dkN_lit (x := 3) (3) rfl) rfl)
              have hF := dkF_set hF eI153 rfl
              refine lv_aload_n hx hb dX6_advances_183 rfl (lv_at hl 1 rfl) ?_
              refine lv_dup hx hb dX6_advances_184 rfl ?_
              refine dk_get (k := 340) hx hb hts iX6_advances_6 hown hK (dk_at340 hW) rfl 9 (by decide) (hts (.fieldLink RX6 86 "DogKingsModel" "at" "I") (List.mem_of_getElem? (i := 1) rfl)) rfl dX6_advances_185 ?_
              refine lv_topi (fun v154 ev154 => ?_)
              have dv154 : dkN [(0, 89)] v154 := by rw [ev154]; exact (by rw [eI153, dkU_sn (by decide)]; exact (by rw [hF135 340 9 rfl]; exact (by rw [hF129 340 9 rfl]; exact (by rw [eI128, dkU_sn (by decide)]; exact f127))))
              have xv154 : v154 = I0 340 9 := ev154.trans ((by rw [eI153, dkU_sn (by decide)] : I153 340 9 = _).trans ((hF135 340 9 rfl).trans ((hF129 340 9 rfl).trans ((by rw [eI128, dkU_sn (by decide)] : I128 340 9 = _).trans ((hF107 340 9 rfl).trans ((by rw [eI105, dkU_sn (by decide)] : I105 340 9 = _).trans rfl))))))
              refine lv_aload_n hx hb dX6_advances_188 rfl (lv_at hl 1 rfl) ?_
              refine dk_get (k := 340) hx hb hts iX6_advances_6 hown hK (dk_at340 hW) rfl 11 (by decide) (hts (.fieldLink RX6 98 "DogKingsModel" "token" "I") (List.mem_of_getElem? (i := 4) rfl)) rfl dX6_advances_189 ?_
              refine lv_topi (fun v155 ev155 => ?_)
              have dv155 : dkN [(3, 3)] v155 := by rw [ev155]; exact (by rw [eI153, dkU_ss]; exact (dkN_lit (x := 3) (3) rfl))
              have xv155 : v155 = 3 := ev155.trans (by rw [eI153, dkU_ss])
              refine lv_if_ne (tgt := 199) hx hb dX6_advances_192 (by decide) (fun c156 => ?_) (fun c156 => ?_)
              ·
                refine lv_iconst (v := 1) hx hb dX6_advances_199 (by decide) ?_
                refine lv_iadd hx hb dX6_advances_200 ?_
                refine lv_topi (fun v157 ev157 => ?_)
                have dv157 : dkN [(1, 90)] v157 := by rw [ev157]; exact dkN_add dv154 (dkN_lit (x := 1) (1) rfl) rfl
                have xv157 : v157 = (I0 340 9) + (1 : Int32) := by rw [ev157, xv154]
                have q158 : ((I0 340 9) + (1 : Int32)).toInt = (I0 340 9).toInt + (1 : Int) := by first | (rw [← xv157, ← xv154]; exact (by rw [ev157]; exact dk_addE dv154 (dkN_lit (x := 1) (1) rfl) rfl)) | (subst xv157 xv154; exact (by rw [ev157]; exact dk_addE dv154 (dkN_lit (x := 1) (1) rfl) rfl))
                refine dk_put (k := 340) hx hb hts iX6_advances_6 tyX6 tyX6_ok nmX6 hown hK hW (dk_at340 hW) hS rfl 9 (by decide) (hts (.fieldLink RX6 86 "DogKingsModel" "at" "I") (List.mem_of_getElem? (i := 1) rfl)) rfl rfl (Nat.le_of_ble_eq_true rfl) rfl dX6_advances_201 (fun I159 H159 L159 eI159 hW hS => ?_)
                have eI159 : I159 = dkU I153 340 9 v157 := eI159
                have hO := dkO_set hO eI159 (dkN_sub dv157 rfl)
                have hF := dkF_set hF eI159 rfl
                have q160 := (show dkTk (I0 345) (I0 340 6) (I0 340 9) = 3 ∧ dkTv (I0 345) (I0 340 6) (I0 340 9) = (I0 345) (Int32.toNatClampNeg (I0 340 9)) ∧ dkTe (I0 345) (I0 340 6) (I0 340 9) = (I0 340 9) + (1 : Int32) from dkT_com (by omega) (by omega))
                exact W.vret hx hb hr (fun t ht hW9 => ⟨⟨I159, rfl, ⟨hF, hO, ⟨(show dkN [(0, 5)] (I159 340 11) from dkN_sub (by rw [eI159, dkU_sn (by decide)]; exact (by rw [eI153, dkU_ss]; exact (dkN_lit (x := 3) (3) rfl))) rfl), (((show I159 340 9 = (I0 340 9) + (1 : Int32) from (by rw [eI159, dkU_ss, xv157]))).trans q160.2.2.symm), (show I159 340 10 = I0 340 9 from ((by rw [eI159, dkU_sn (by decide)] : I159 340 10 = _).trans ((by rw [eI153, dkU_sn (by decide)] : I153 340 10 = _).trans ((hF135 340 10 rfl).trans ((hF129 340 10 rfl).trans ((by rw [eI128, dkU_sn (by decide)] : I128 340 10 = _).trans ((hF107 340 10 rfl).trans (by rw [eI105, dkU_ss, xv104])))))))), (((show I159 340 11 = 3 from ((by rw [eI159, dkU_sn (by decide)] : I159 340 11 = _).trans (by rw [eI153, dkU_ss])))).trans q160.1.symm), (((show I159 340 12 = (I0 345) (Int32.toNatClampNeg (I0 340 9)) from ((by rw [eI159, dkU_sn (by decide)] : I159 340 12 = _).trans ((by rw [eI153, dkU_sn (by decide)] : I153 340 12 = _).trans ((hF135 340 12 rfl).trans ((hF129 340 12 rfl).trans (by rw [eI128, dkU_ss, xv107]))))))).trans q160.2.1.symm), trivial⟩⟩, dkW_eq ht hW⟩, hS.F ht⟩) hS.2.2 dX6_advances_204
              ·
                exact (dkN_nil (show dkN [] v155 from dkN_eq1 dv155 (dkN_lit (x := 0) (0) rfl) (congrArg Int32.toInt c156) rfl)).elim
          ·
            exact absurd ((xv135).trans (rfl).symm) c137
        ·
          exact (dkN_nil (show dkN [] 0 from dkN_le2 1 d131 (dkN_lit (x := 0) (0) rfl) (dkc_nle c133) rfl)).elim
      ·
        exact absurd ((xv129).trans (rfl).symm) c132
    rcases hc129 with ⟨dv129, a129_0, x129_0, x129_1, xr129, -⟩ | hc129
    ·
      have q161 : (48 : Int) + 0 ≤ ((I0 345) (Int32.toNatClampNeg (I0 340 9))).toInt := by have h := x129_0; rw [xv107] at h; exact h
      have q162 : (57 : Int) + 1 ≤ ((I0 345) (Int32.toNatClampNeg (I0 340 9))).toInt := by have h := x129_1; rw [xv107] at h; exact h
      have xv129 : v129 = 0 := by have h := xr129; exact h
      have d163 : dkN [(58, 255)] v107 := dkN_eq1 dv107 a129_0 rfl rfl
      refine lv_if_eq (tgt := 135) hx hb dX6_advances_30 (by decide) (fun c164 => ?_) (fun c164 => ?_)
      ·
        refine lv_aload_n hx hb dX6_advances_135 rfl (lv_at hl 1 rfl) ?_
        refine lv_iload_n hx hb dX6_advances_136 rfl (lv_at hl 0 rfl) ?_
        refine lv_if_ge (tgt := 144) hx hb dX6_advances_137 (by decide) (fun c165 => ?_) (fun c165 => ?_)
        ·
          have q166 : (0 : Int) + 0 ≤ ((I0 345) (Int32.toNatClampNeg (I0 340 9))).toInt := by first | (rw [← xv107]; exact (dkc_le c165)) | (subst xv107; exact (dkc_le c165))
          refine lv_iload_n hx hb dX6_advances_144 rfl (lv_at hl 0 rfl) ?_
          refine lv_bipush (v := 97) hx hb dX6_advances_145 (by decide) ?_
          refine lv_bipush (v := 122) hx hb dX6_advances_147 (by decide) ?_
          refine dk_Si (As := [.int v107, .int 97, .int 122]) (rest := [.ref (z + 340)]) ⟨hx, hb, hml, hown, hts⟩ (fx_X6_in_26 l g z I128 v107 97 122 d163 (dkN_lit (x := 97) (97) rfl) (dkN_lit (x := 122) (122) rfl) hO) (va_cwS 3 hts gX6_advances_X6_in rfl rfl rfl (by decide +kernel) ⟨Nat.le_of_ble_eq_true rfl, Nat.le_of_ble_eq_true rfl⟩) hK hT hW hS rfl hl.1 rfl (Nat.le_of_ble_eq_true rfl) dX6_advances_149 ⟨Nat.zero_le _, Nat.zero_le _⟩ (fun v167 I167 H167 L167 hp167 hW hS => ?_)
          obtain ⟨hF167, hO, hc167⟩ := hp167
          have hF := dkF_call hF hF167 rfl
          have eI167 : I128 = I167 := (dkF_nil hF167).symm
          subst eI167
          rcases hc167 with ⟨dv167, a167_0, x167_0, xr167, -⟩ | hc167
          ·
            have q168 : ((I0 345) (Int32.toNatClampNeg (I0 340 9))).toInt + 1 ≤ (97 : Int) := by have h := x167_0; rw [xv107] at h; exact h
            have xv167 : v167 = 0 := by have h := xr167; exact h
            have d169 : dkN [(58, 96)] v107 := dkN_eq1 d163 a167_0 rfl rfl
            refine lv_if_eq (tgt := 159) hx hb dX6_advances_152 (by decide) (fun c170 => ?_) (fun c170 => ?_)
            ·
              refine lv_iload_n hx hb dX6_advances_159 rfl (lv_at hl 0 rfl) ?_
              refine lv_bipush (v := 44) hx hb dX6_advances_160 (by decide) ?_
              refine lv_icmp_ne (tgt := 169) hx hb dX6_advances_162 (by decide) (fun c171 => ?_) (fun c171 => ?_)
              ·
                have q172 : ((I0 345) (Int32.toNatClampNeg (I0 340 9))).toInt ≠ (44 : Int) := by first | (rw [← xv107]; exact (dk_ne c171)) | (subst xv107; exact (dk_ne c171))
                refine lv_iload_n hx hb dX6_advances_169 rfl (lv_at hl 0 rfl) ?_
                refine lv_bipush (v := 59) hx hb dX6_advances_170 (by decide) ?_
                refine lv_icmp_ne (tgt := 179) hx hb dX6_advances_172 (by decide) (fun c173 => ?_) (fun c173 => ?_)
                ·
                  have q174 : ((I0 345) (Int32.toNatClampNeg (I0 340 9))).toInt ≠ (59 : Int) := by first | (rw [← xv107]; exact (dk_ne c173)) | (subst xv107; exact (dk_ne c173))
                  have d175 : dkN [(58, 58), (60, 96)] v107 := dkN_ne1 (59) d169 (dkN_lit (x := 59) (59) rfl) (dk_ne c173) rfl
                  refine lv_iconst (v := 5) hx hb dX6_advances_179 (by decide) ?_
                  refine dk_put (k := 340) hx hb hts iX6_advances_6 tyX6 tyX6_ok nmX6 hown hK hW (dk_at340 hW) hS rfl 11 (by decide) (hts (.fieldLink RX6 98 "DogKingsModel" "token" "I") (List.mem_of_getElem? (i := 4) rfl)) rfl rfl (Nat.le_of_ble_eq_true rfl) rfl dX6_advances_180 (fun I176 H176 L176 eI176 hW hS => ?_)
                  have eI176 : I176 = dkU I128 340 11 5 := eI176
                  have hO := dkO_set hO eI176 (dkN_sub (dkN_lit (x := 5) (5) rfl) rfl)
                  have hF := dkF_set hF eI176 rfl
                  refine lv_aload_n hx hb dX6_advances_183 rfl (lv_at hl 1 rfl) ?_
                  refine lv_dup hx hb dX6_advances_184 rfl ?_
                  refine dk_get (k := 340) hx hb hts iX6_advances_6 hown hK (dk_at340 hW) rfl 9 (by decide) (hts (.fieldLink RX6 86 "DogKingsModel" "at" "I") (List.mem_of_getElem? (i := 1) rfl)) rfl dX6_advances_185 ?_
                  refine lv_topi (fun v177 ev177 => ?_)
                  have dv177 : dkN [(0, 89)] v177 := by rw [ev177]; exact (by rw [eI176, dkU_sn (by decide)]; exact (by rw [hF167 340 9 rfl]; exact (by rw [hF129 340 9 rfl]; exact (by rw [eI128, dkU_sn (by decide)]; exact f127))))
                  have xv177 : v177 = I0 340 9 := ev177.trans ((by rw [eI176, dkU_sn (by decide)] : I176 340 9 = _).trans ((hF167 340 9 rfl).trans ((hF129 340 9 rfl).trans ((by rw [eI128, dkU_sn (by decide)] : I128 340 9 = _).trans ((hF107 340 9 rfl).trans ((by rw [eI105, dkU_sn (by decide)] : I105 340 9 = _).trans rfl))))))
                  refine lv_aload_n hx hb dX6_advances_188 rfl (lv_at hl 1 rfl) ?_
                  refine dk_get (k := 340) hx hb hts iX6_advances_6 hown hK (dk_at340 hW) rfl 11 (by decide) (hts (.fieldLink RX6 98 "DogKingsModel" "token" "I") (List.mem_of_getElem? (i := 4) rfl)) rfl dX6_advances_189 ?_
                  refine lv_topi (fun v178 ev178 => ?_)
                  have dv178 : dkN [(5, 5)] v178 := by rw [ev178]; exact (by rw [eI176, dkU_ss]; exact (dkN_lit (x := 5) (5) rfl))
                  have xv178 : v178 = 5 := ev178.trans (by rw [eI176, dkU_ss])
                  refine lv_if_ne (tgt := 199) hx hb dX6_advances_192 (by decide) (fun c179 => ?_) (fun c179 => ?_)
                  ·
                    refine lv_iconst (v := 1) hx hb dX6_advances_199 (by decide) ?_
                    refine lv_iadd hx hb dX6_advances_200 ?_
                    refine lv_topi (fun v180 ev180 => ?_)
                    have dv180 : dkN [(1, 90)] v180 := by rw [ev180]; exact dkN_add dv177 (dkN_lit (x := 1) (1) rfl) rfl
                    have xv180 : v180 = (I0 340 9) + (1 : Int32) := by rw [ev180, xv177]
                    have q181 : ((I0 340 9) + (1 : Int32)).toInt = (I0 340 9).toInt + (1 : Int) := by first | (rw [← xv180, ← xv177]; exact (by rw [ev180]; exact dk_addE dv177 (dkN_lit (x := 1) (1) rfl) rfl)) | (subst xv180 xv177; exact (by rw [ev180]; exact dk_addE dv177 (dkN_lit (x := 1) (1) rfl) rfl))
                    refine dk_put (k := 340) hx hb hts iX6_advances_6 tyX6 tyX6_ok nmX6 hown hK hW (dk_at340 hW) hS rfl 9 (by decide) (hts (.fieldLink RX6 86 "DogKingsModel" "at" "I") (List.mem_of_getElem? (i := 1) rfl)) rfl rfl (Nat.le_of_ble_eq_true rfl) rfl dX6_advances_201 (fun I182 H182 L182 eI182 hW hS => ?_)
                    have eI182 : I182 = dkU I176 340 9 v180 := eI182
                    have hO := dkO_set hO eI182 (dkN_sub dv180 rfl)
                    have hF := dkF_set hF eI182 rfl
                    have q183 := (show dkTk (I0 345) (I0 340 6) (I0 340 9) = 5 ∧ dkTv (I0 345) (I0 340 6) (I0 340 9) = (I0 345) (Int32.toNatClampNeg (I0 340 9)) ∧ dkTe (I0 345) (I0 340 6) (I0 340 9) = (I0 340 9) + (1 : Int32) from dkT_odd (by omega) (by omega) (by omega) (by omega) (by omega))
                    exact W.vret hx hb hr (fun t ht hW9 => ⟨⟨I182, rfl, ⟨hF, hO, ⟨(show dkN [(0, 5)] (I182 340 11) from dkN_sub (by rw [eI182, dkU_sn (by decide)]; exact (by rw [eI176, dkU_ss]; exact (dkN_lit (x := 5) (5) rfl))) rfl), (((show I182 340 9 = (I0 340 9) + (1 : Int32) from (by rw [eI182, dkU_ss, xv180]))).trans q183.2.2.symm), (show I182 340 10 = I0 340 9 from ((by rw [eI182, dkU_sn (by decide)] : I182 340 10 = _).trans ((by rw [eI176, dkU_sn (by decide)] : I176 340 10 = _).trans ((hF167 340 10 rfl).trans ((hF129 340 10 rfl).trans ((by rw [eI128, dkU_sn (by decide)] : I128 340 10 = _).trans ((hF107 340 10 rfl).trans (by rw [eI105, dkU_ss, xv104])))))))), (((show I182 340 11 = 5 from ((by rw [eI182, dkU_sn (by decide)] : I182 340 11 = _).trans (by rw [eI176, dkU_ss])))).trans q183.1.symm), (((show I182 340 12 = (I0 345) (Int32.toNatClampNeg (I0 340 9)) from ((by rw [eI182, dkU_sn (by decide)] : I182 340 12 = _).trans ((by rw [eI176, dkU_sn (by decide)] : I176 340 12 = _).trans ((hF167 340 12 rfl).trans ((hF129 340 12 rfl).trans (by rw [eI128, dkU_ss, xv107]))))))).trans q183.2.1.symm), trivial⟩⟩, dkW_eq ht hW⟩, hS.F ht⟩) hS.2.2 dX6_advances_204
                  ·
                    exact (dkN_nil (show dkN [] v178 from dkN_eq1 dv178 (dkN_lit (x := 0) (0) rfl) (congrArg Int32.toInt c179) rfl)).elim
                ·
                  have q184 : ((I0 345) (Int32.toNatClampNeg (I0 340 9))).toInt = (59 : Int) := by first | (rw [← xv107]; exact (congrArg Int32.toInt c173)) | (subst xv107; exact (congrArg Int32.toInt c173))
                  have d185 : dkN [(59, 59)] v107 := dkN_eq1 d169 (dkN_lit (x := 59) (59) rfl) (congrArg Int32.toInt c173) rfl
                  refine lv_iconst (v := 4) hx hb dX6_advances_175 (by decide) ?_
                  refine lv_goto (tgt := 180) hx hb dX6_advances_176 (by decide) ?_
                  refine dk_put (k := 340) hx hb hts iX6_advances_6 tyX6 tyX6_ok nmX6 hown hK hW (dk_at340 hW) hS rfl 11 (by decide) (hts (.fieldLink RX6 98 "DogKingsModel" "token" "I") (List.mem_of_getElem? (i := 4) rfl)) rfl rfl (Nat.le_of_ble_eq_true rfl) rfl dX6_advances_180 (fun I186 H186 L186 eI186 hW hS => ?_)
                  have eI186 : I186 = dkU I128 340 11 4 := eI186
                  have hO := dkO_set hO eI186 (dkN_sub (dkN_lit (x := 4) (4) rfl) rfl)
                  have hF := dkF_set hF eI186 rfl
                  refine lv_aload_n hx hb dX6_advances_183 rfl (lv_at hl 1 rfl) ?_
                  refine lv_dup hx hb dX6_advances_184 rfl ?_
                  refine dk_get (k := 340) hx hb hts iX6_advances_6 hown hK (dk_at340 hW) rfl 9 (by decide) (hts (.fieldLink RX6 86 "DogKingsModel" "at" "I") (List.mem_of_getElem? (i := 1) rfl)) rfl dX6_advances_185 ?_
                  refine lv_topi (fun v187 ev187 => ?_)
                  have dv187 : dkN [(0, 89)] v187 := by rw [ev187]; exact (by rw [eI186, dkU_sn (by decide)]; exact (by rw [hF167 340 9 rfl]; exact (by rw [hF129 340 9 rfl]; exact (by rw [eI128, dkU_sn (by decide)]; exact f127))))
                  have xv187 : v187 = I0 340 9 := ev187.trans ((by rw [eI186, dkU_sn (by decide)] : I186 340 9 = _).trans ((hF167 340 9 rfl).trans ((hF129 340 9 rfl).trans ((by rw [eI128, dkU_sn (by decide)] : I128 340 9 = _).trans ((hF107 340 9 rfl).trans ((by rw [eI105, dkU_sn (by decide)] : I105 340 9 = _).trans rfl))))))
                  refine lv_aload_n hx hb dX6_advances_188 rfl (lv_at hl 1 rfl) ?_
                  refine dk_get (k := 340) hx hb hts iX6_advances_6 hown hK (dk_at340 hW) rfl 11 (by decide) (hts (.fieldLink RX6 98 "DogKingsModel" "token" "I") (List.mem_of_getElem? (i := 4) rfl)) rfl dX6_advances_189 ?_
                  refine lv_topi (fun v188 ev188 => ?_)
                  have dv188 : dkN [(4, 4)] v188 := by rw [ev188]; exact (by rw [eI186, dkU_ss]; exact (dkN_lit (x := 4) (4) rfl))
                  have xv188 : v188 = 4 := ev188.trans (by rw [eI186, dkU_ss])
                  refine lv_if_ne (tgt := 199) hx hb dX6_advances_192 (by decide) (fun c189 => ?_) (fun c189 => ?_)
                  ·
                    refine lv_iconst (v := 1) hx hb dX6_advances_199 (by decide) ?_
                    refine lv_iadd hx hb dX6_advances_200 ?_
                    refine lv_topi (fun v190 ev190 => ?_)
                    have dv190 : dkN [(1, 90)] v190 := by rw [ev190]; exact dkN_add dv187 (dkN_lit (x := 1) (1) rfl) rfl
                    have xv190 : v190 = (I0 340 9) + (1 : Int32) := by rw [ev190, xv187]
                    have q191 : ((I0 340 9) + (1 : Int32)).toInt = (I0 340 9).toInt + (1 : Int) := by first | (rw [← xv190, ← xv187]; exact (by rw [ev190]; exact dk_addE dv187 (dkN_lit (x := 1) (1) rfl) rfl)) | (subst xv190 xv187; exact (by rw [ev190]; exact dk_addE dv187 (dkN_lit (x := 1) (1) rfl) rfl))
                    refine dk_put (k := 340) hx hb hts iX6_advances_6 tyX6 tyX6_ok nmX6 hown hK hW (dk_at340 hW) hS rfl 9 (by decide) (hts (.fieldLink RX6 86 "DogKingsModel" "at" "I") (List.mem_of_getElem? (i := 1) rfl)) rfl rfl (Nat.le_of_ble_eq_true rfl) rfl dX6_advances_201 (fun I192 H192 L192 eI192 hW hS => ?_)
                    have eI192 : I192 = dkU I186 340 9 v190 := eI192
                    have hO := dkO_set hO eI192 (dkN_sub dv190 rfl)
                    have hF := dkF_set hF eI192 rfl
                    have q193 := (show dkTk (I0 345) (I0 340 6) (I0 340 9) = 4 ∧ dkTv (I0 345) (I0 340 6) (I0 340 9) = (I0 345) (Int32.toNatClampNeg (I0 340 9)) ∧ dkTe (I0 345) (I0 340 6) (I0 340 9) = (I0 340 9) + (1 : Int32) from dkT_stp (by omega) (by omega))
                    exact W.vret hx hb hr (fun t ht hW9 => ⟨⟨I192, rfl, ⟨hF, hO, ⟨(show dkN [(0, 5)] (I192 340 11) from dkN_sub (by rw [eI192, dkU_sn (by decide)]; exact (by rw [eI186, dkU_ss]; exact (dkN_lit (x := 4) (4) rfl))) rfl), (((show I192 340 9 = (I0 340 9) + (1 : Int32) from (by rw [eI192, dkU_ss, xv190]))).trans q193.2.2.symm), (show I192 340 10 = I0 340 9 from ((by rw [eI192, dkU_sn (by decide)] : I192 340 10 = _).trans ((by rw [eI186, dkU_sn (by decide)] : I186 340 10 = _).trans ((hF167 340 10 rfl).trans ((hF129 340 10 rfl).trans ((by rw [eI128, dkU_sn (by decide)] : I128 340 10 = _).trans ((hF107 340 10 rfl).trans (by rw [eI105, dkU_ss, xv104])))))))), (((show I192 340 11 = 4 from ((by rw [eI192, dkU_sn (by decide)] : I192 340 11 = _).trans (by rw [eI186, dkU_ss])))).trans q193.1.symm), (((show I192 340 12 = (I0 345) (Int32.toNatClampNeg (I0 340 9)) from ((by rw [eI192, dkU_sn (by decide)] : I192 340 12 = _).trans ((by rw [eI186, dkU_sn (by decide)] : I186 340 12 = _).trans ((hF167 340 12 rfl).trans ((hF129 340 12 rfl).trans (by rw [eI128, dkU_ss, xv107]))))))).trans q193.2.1.symm), trivial⟩⟩, dkW_eq ht hW⟩, hS.F ht⟩) hS.2.2 dX6_advances_204
                  ·
                    exact (dkN_nil (show dkN [] v188 from dkN_eq1 dv188 (dkN_lit (x := 0) (0) rfl) (congrArg Int32.toInt c189) rfl)).elim
              ·
                exact (dkN_nil (show dkN [] v107 from dkN_eq1 d169 (dkN_lit (x := 44) (44) rfl) (congrArg Int32.toInt c171) rfl)).elim
            ·
              exact absurd ((xv167).trans (rfl).symm) c170
          rcases hc167 with ⟨dv167, a167_0, x167_0, x167_1, xr167, -⟩ | hc167
          ·
            have q194 : (97 : Int) + 0 ≤ ((I0 345) (Int32.toNatClampNeg (I0 340 9))).toInt := by have h := x167_0; rw [xv107] at h; exact h
            have q195 : (122 : Int) + 1 ≤ ((I0 345) (Int32.toNatClampNeg (I0 340 9))).toInt := by have h := x167_1; rw [xv107] at h; exact h
            have xv167 : v167 = 0 := by have h := xr167; exact h
            have d196 : dkN [(123, 255)] v107 := dkN_eq1 d163 a167_0 rfl rfl
            refine lv_if_eq (tgt := 159) hx hb dX6_advances_152 (by decide) (fun c197 => ?_) (fun c197 => ?_)
            ·
              refine lv_iload_n hx hb dX6_advances_159 rfl (lv_at hl 0 rfl) ?_
              refine lv_bipush (v := 44) hx hb dX6_advances_160 (by decide) ?_
              refine lv_icmp_ne (tgt := 169) hx hb dX6_advances_162 (by decide) (fun c198 => ?_) (fun c198 => ?_)
              ·
                have q199 : ((I0 345) (Int32.toNatClampNeg (I0 340 9))).toInt ≠ (44 : Int) := by first | (rw [← xv107]; exact (dk_ne c198)) | (subst xv107; exact (dk_ne c198))
                refine lv_iload_n hx hb dX6_advances_169 rfl (lv_at hl 0 rfl) ?_
                refine lv_bipush (v := 59) hx hb dX6_advances_170 (by decide) ?_
                refine lv_icmp_ne (tgt := 179) hx hb dX6_advances_172 (by decide) (fun c200 => ?_) (fun c200 => ?_)
                ·
                  have q201 : ((I0 345) (Int32.toNatClampNeg (I0 340 9))).toInt ≠ (59 : Int) := by first | (rw [← xv107]; exact (dk_ne c200)) | (subst xv107; exact (dk_ne c200))
                  refine lv_iconst (v := 5) hx hb dX6_advances_179 (by decide) ?_
                  refine dk_put (k := 340) hx hb hts iX6_advances_6 tyX6 tyX6_ok nmX6 hown hK hW (dk_at340 hW) hS rfl 11 (by decide) (hts (.fieldLink RX6 98 "DogKingsModel" "token" "I") (List.mem_of_getElem? (i := 4) rfl)) rfl rfl (Nat.le_of_ble_eq_true rfl) rfl dX6_advances_180 (fun I202 H202 L202 eI202 hW hS => ?_)
                  have eI202 : I202 = dkU I128 340 11 5 := eI202
                  have hO := dkO_set hO eI202 (dkN_sub (dkN_lit (x := 5) (5) rfl) rfl)
                  have hF := dkF_set hF eI202 rfl
                  refine lv_aload_n hx hb dX6_advances_183 rfl (lv_at hl 1 rfl) ?_
                  refine lv_dup hx hb dX6_advances_184 rfl ?_
                  refine dk_get (k := 340) hx hb hts iX6_advances_6 hown hK (dk_at340 hW) rfl 9 (by decide) (hts (.fieldLink RX6 86 "DogKingsModel" "at" "I") (List.mem_of_getElem? (i := 1) rfl)) rfl dX6_advances_185 ?_
                  refine lv_topi (fun v203 ev203 => ?_)
                  have dv203 : dkN [(0, 89)] v203 := by rw [ev203]; exact (by rw [eI202, dkU_sn (by decide)]; exact (by rw [hF167 340 9 rfl]; exact (by rw [hF129 340 9 rfl]; exact (by rw [eI128, dkU_sn (by decide)]; exact f127))))
                  have xv203 : v203 = I0 340 9 := ev203.trans ((by rw [eI202, dkU_sn (by decide)] : I202 340 9 = _).trans ((hF167 340 9 rfl).trans ((hF129 340 9 rfl).trans ((by rw [eI128, dkU_sn (by decide)] : I128 340 9 = _).trans ((hF107 340 9 rfl).trans ((by rw [eI105, dkU_sn (by decide)] : I105 340 9 = _).trans rfl))))))
                  refine lv_aload_n hx hb dX6_advances_188 rfl (lv_at hl 1 rfl) ?_
                  refine dk_get (k := 340) hx hb hts iX6_advances_6 hown hK (dk_at340 hW) rfl 11 (by decide) (hts (.fieldLink RX6 98 "DogKingsModel" "token" "I") (List.mem_of_getElem? (i := 4) rfl)) rfl dX6_advances_189 ?_
                  refine lv_topi (fun v204 ev204 => ?_)
                  have dv204 : dkN [(5, 5)] v204 := by rw [ev204]; exact (by rw [eI202, dkU_ss]; exact (dkN_lit (x := 5) (5) rfl))
                  have xv204 : v204 = 5 := ev204.trans (by rw [eI202, dkU_ss])
                  refine lv_if_ne (tgt := 199) hx hb dX6_advances_192 (by decide) (fun c205 => ?_) (fun c205 => ?_)
                  ·
                    refine lv_iconst (v := 1) hx hb dX6_advances_199 (by decide) ?_
                    refine lv_iadd hx hb dX6_advances_200 ?_
                    refine lv_topi (fun v206 ev206 => ?_)
                    have dv206 : dkN [(1, 90)] v206 := by rw [ev206]; exact dkN_add dv203 (dkN_lit (x := 1) (1) rfl) rfl
                    have xv206 : v206 = (I0 340 9) + (1 : Int32) := by rw [ev206, xv203]
                    have q207 : ((I0 340 9) + (1 : Int32)).toInt = (I0 340 9).toInt + (1 : Int) := by first | (rw [← xv206, ← xv203]; exact (by rw [ev206]; exact dk_addE dv203 (dkN_lit (x := 1) (1) rfl) rfl)) | (subst xv206 xv203; exact (by rw [ev206]; exact dk_addE dv203 (dkN_lit (x := 1) (1) rfl) rfl))
                    refine dk_put (k := 340) hx hb hts iX6_advances_6 tyX6 tyX6_ok nmX6 hown hK hW (dk_at340 hW) hS rfl 9 (by decide) (hts (.fieldLink RX6 86 "DogKingsModel" "at" "I") (List.mem_of_getElem? (i := 1) rfl)) rfl rfl (Nat.le_of_ble_eq_true rfl) rfl dX6_advances_201 (fun I208 H208 L208 eI208 hW hS => ?_)
                    have eI208 : I208 = dkU I202 340 9 v206 := eI208
                    have hO := dkO_set hO eI208 (dkN_sub dv206 rfl)
                    have hF := dkF_set hF eI208 rfl
                    have q209 := (show dkTk (I0 345) (I0 340 6) (I0 340 9) = 5 ∧ dkTv (I0 345) (I0 340 6) (I0 340 9) = (I0 345) (Int32.toNatClampNeg (I0 340 9)) ∧ dkTe (I0 345) (I0 340 6) (I0 340 9) = (I0 340 9) + (1 : Int32) from dkT_odd (by omega) (by omega) (by omega) (by omega) (by omega))
                    exact W.vret hx hb hr (fun t ht hW9 => ⟨⟨I208, rfl, ⟨hF, hO, ⟨(show dkN [(0, 5)] (I208 340 11) from dkN_sub (by rw [eI208, dkU_sn (by decide)]; exact (by rw [eI202, dkU_ss]; exact (dkN_lit (x := 5) (5) rfl))) rfl), (((show I208 340 9 = (I0 340 9) + (1 : Int32) from (by rw [eI208, dkU_ss, xv206]))).trans q209.2.2.symm), (show I208 340 10 = I0 340 9 from ((by rw [eI208, dkU_sn (by decide)] : I208 340 10 = _).trans ((by rw [eI202, dkU_sn (by decide)] : I202 340 10 = _).trans ((hF167 340 10 rfl).trans ((hF129 340 10 rfl).trans ((by rw [eI128, dkU_sn (by decide)] : I128 340 10 = _).trans ((hF107 340 10 rfl).trans (by rw [eI105, dkU_ss, xv104])))))))), (((show I208 340 11 = 5 from ((by rw [eI208, dkU_sn (by decide)] : I208 340 11 = _).trans (by rw [eI202, dkU_ss])))).trans q209.1.symm), (((show I208 340 12 = (I0 345) (Int32.toNatClampNeg (I0 340 9)) from ((by rw [eI208, dkU_sn (by decide)] : I208 340 12 = _).trans ((by rw [eI202, dkU_sn (by decide)] : I202 340 12 = _).trans ((hF167 340 12 rfl).trans ((hF129 340 12 rfl).trans (by rw [eI128, dkU_ss, xv107]))))))).trans q209.2.1.symm), trivial⟩⟩, dkW_eq ht hW⟩, hS.F ht⟩) hS.2.2 dX6_advances_204
                  ·
                    exact (dkN_nil (show dkN [] v204 from dkN_eq1 dv204 (dkN_lit (x := 0) (0) rfl) (congrArg Int32.toInt c205) rfl)).elim
                ·
                  exact (dkN_nil (show dkN [] v107 from dkN_eq1 d196 (dkN_lit (x := 59) (59) rfl) (congrArg Int32.toInt c200) rfl)).elim
              ·
                exact (dkN_nil (show dkN [] v107 from dkN_eq1 d196 (dkN_lit (x := 44) (44) rfl) (congrArg Int32.toInt c198) rfl)).elim
            ·
              exact absurd ((xv167).trans (rfl).symm) c197
          ·
            obtain ⟨dv167, a167_0, x167_0, x167_1, xr167, -⟩ := hc167
            have q210 : (97 : Int) + 0 ≤ ((I0 345) (Int32.toNatClampNeg (I0 340 9))).toInt := by have h := x167_0; rw [xv107] at h; exact h
            have q211 : ((I0 345) (Int32.toNatClampNeg (I0 340 9))).toInt + 0 ≤ (122 : Int) := by have h := x167_1; rw [xv107] at h; exact h
            have xv167 : v167 = 1 := by have h := xr167; exact h
            have d212 : dkN [(97, 122)] v107 := dkN_eq1 d163 a167_0 rfl rfl
            refine lv_if_eq (tgt := 159) hx hb dX6_advances_152 (by decide) (fun c213 => ?_) (fun c213 => ?_)
            ·
              exact (dkN_nil (show dkN [] v167 from dkN_eq1 dv167 (dkN_lit (x := 0) (0) rfl) (congrArg Int32.toInt c213) rfl)).elim
            ·
              refine lv_iconst (v := 1) hx hb dX6_advances_155 (by decide) ?_
              refine lv_goto (tgt := 180) hx hb dX6_advances_156 (by decide) ?_
              refine dk_put (k := 340) hx hb hts iX6_advances_6 tyX6 tyX6_ok nmX6 hown hK hW (dk_at340 hW) hS rfl 11 (by decide) (hts (.fieldLink RX6 98 "DogKingsModel" "token" "I") (List.mem_of_getElem? (i := 4) rfl)) rfl rfl (Nat.le_of_ble_eq_true rfl) rfl dX6_advances_180 (fun I214 H214 L214 eI214 hW hS => ?_)
              have eI214 : I214 = dkU I128 340 11 1 := eI214
              have hO := dkO_set hO eI214 (dkN_sub (dkN_lit (x := 1) (1) rfl) rfl)
              have hF := dkF_set hF eI214 rfl
              refine lv_aload_n hx hb dX6_advances_183 rfl (lv_at hl 1 rfl) ?_
              refine lv_dup hx hb dX6_advances_184 rfl ?_
              refine dk_get (k := 340) hx hb hts iX6_advances_6 hown hK (dk_at340 hW) rfl 9 (by decide) (hts (.fieldLink RX6 86 "DogKingsModel" "at" "I") (List.mem_of_getElem? (i := 1) rfl)) rfl dX6_advances_185 ?_
              refine lv_topi (fun v215 ev215 => ?_)
              have dv215 : dkN [(0, 89)] v215 := by rw [ev215]; exact (by rw [eI214, dkU_sn (by decide)]; exact (by rw [hF167 340 9 rfl]; exact (by rw [hF129 340 9 rfl]; exact (by rw [eI128, dkU_sn (by decide)]; exact f127))))
              have xv215 : v215 = I0 340 9 := ev215.trans ((by rw [eI214, dkU_sn (by decide)] : I214 340 9 = _).trans ((hF167 340 9 rfl).trans ((hF129 340 9 rfl).trans ((by rw [eI128, dkU_sn (by decide)] : I128 340 9 = _).trans ((hF107 340 9 rfl).trans ((by rw [eI105, dkU_sn (by decide)] : I105 340 9 = _).trans rfl))))))
              refine lv_aload_n hx hb dX6_advances_188 rfl (lv_at hl 1 rfl) ?_
              refine dk_get (k := 340) hx hb hts iX6_advances_6 hown hK (dk_at340 hW) rfl 11 (by decide) (hts (.fieldLink RX6 98 "DogKingsModel" "token" "I") (List.mem_of_getElem? (i := 4) rfl)) rfl dX6_advances_189 ?_
              refine lv_topi (fun v216 ev216 => ?_)
              have dv216 : dkN [(1, 1)] v216 := by rw [ev216]; exact (by rw [eI214, dkU_ss]; exact (dkN_lit (x := 1) (1) rfl))
              have xv216 : v216 = 1 := ev216.trans (by rw [eI214, dkU_ss])
              refine lv_if_ne (tgt := 199) hx hb dX6_advances_192 (by decide) (fun c217 => ?_) (fun c217 => ?_)
              ·
                refine lv_iconst (v := 1) hx hb dX6_advances_199 (by decide) ?_
                refine lv_iadd hx hb dX6_advances_200 ?_
                refine lv_topi (fun v218 ev218 => ?_)
                have dv218 : dkN [(1, 90)] v218 := by rw [ev218]; exact dkN_add dv215 (dkN_lit (x := 1) (1) rfl) rfl
                have xv218 : v218 = (I0 340 9) + (1 : Int32) := by rw [ev218, xv215]
                have q219 : ((I0 340 9) + (1 : Int32)).toInt = (I0 340 9).toInt + (1 : Int) := by first | (rw [← xv218, ← xv215]; exact (by rw [ev218]; exact dk_addE dv215 (dkN_lit (x := 1) (1) rfl) rfl)) | (subst xv218 xv215; exact (by rw [ev218]; exact dk_addE dv215 (dkN_lit (x := 1) (1) rfl) rfl))
                refine dk_put (k := 340) hx hb hts iX6_advances_6 tyX6 tyX6_ok nmX6 hown hK hW (dk_at340 hW) hS rfl 9 (by decide) (hts (.fieldLink RX6 86 "DogKingsModel" "at" "I") (List.mem_of_getElem? (i := 1) rfl)) rfl rfl (Nat.le_of_ble_eq_true rfl) rfl dX6_advances_201 (fun I220 H220 L220 eI220 hW hS => ?_)
                have eI220 : I220 = dkU I214 340 9 v218 := eI220
                have hO := dkO_set hO eI220 (dkN_sub dv218 rfl)
                have hF := dkF_set hF eI220 rfl
                have q221 := (show dkTk (I0 345) (I0 340 6) (I0 340 9) = 1 ∧ dkTv (I0 345) (I0 340 6) (I0 340 9) = (I0 345) (Int32.toNatClampNeg (I0 340 9)) ∧ dkTe (I0 345) (I0 340 6) (I0 340 9) = (I0 340 9) + (1 : Int32) from dkT_let (by omega) (by omega) (by omega))
                exact W.vret hx hb hr (fun t ht hW9 => ⟨⟨I220, rfl, ⟨hF, hO, ⟨(show dkN [(0, 5)] (I220 340 11) from dkN_sub (by rw [eI220, dkU_sn (by decide)]; exact (by rw [eI214, dkU_ss]; exact (dkN_lit (x := 1) (1) rfl))) rfl), (((show I220 340 9 = (I0 340 9) + (1 : Int32) from (by rw [eI220, dkU_ss, xv218]))).trans q221.2.2.symm), (show I220 340 10 = I0 340 9 from ((by rw [eI220, dkU_sn (by decide)] : I220 340 10 = _).trans ((by rw [eI214, dkU_sn (by decide)] : I214 340 10 = _).trans ((hF167 340 10 rfl).trans ((hF129 340 10 rfl).trans ((by rw [eI128, dkU_sn (by decide)] : I128 340 10 = _).trans ((hF107 340 10 rfl).trans (by rw [eI105, dkU_ss, xv104])))))))), (((show I220 340 11 = 1 from ((by rw [eI220, dkU_sn (by decide)] : I220 340 11 = _).trans (by rw [eI214, dkU_ss])))).trans q221.1.symm), (((show I220 340 12 = (I0 345) (Int32.toNatClampNeg (I0 340 9)) from ((by rw [eI220, dkU_sn (by decide)] : I220 340 12 = _).trans ((by rw [eI214, dkU_sn (by decide)] : I214 340 12 = _).trans ((hF167 340 12 rfl).trans ((hF129 340 12 rfl).trans (by rw [eI128, dkU_ss, xv107]))))))).trans q221.2.1.symm), trivial⟩⟩, dkW_eq ht hW⟩, hS.F ht⟩) hS.2.2 dX6_advances_204
              ·
                exact (dkN_nil (show dkN [] v216 from dkN_eq1 dv216 (dkN_lit (x := 0) (0) rfl) (congrArg Int32.toInt c217) rfl)).elim
        ·
          exact (dkN_nil (show dkN [] 0 from dkN_le2 1 d163 (dkN_lit (x := 0) (0) rfl) (dkc_nle c165) rfl)).elim
      ·
        exact absurd ((xv129).trans (rfl).symm) c164
    ·
      obtain ⟨dv129, a129_0, x129_0, x129_1, xr129, -⟩ := hc129
      have q222 : (48 : Int) + 0 ≤ ((I0 345) (Int32.toNatClampNeg (I0 340 9))).toInt := by have h := x129_0; rw [xv107] at h; exact h
      have q223 : ((I0 345) (Int32.toNatClampNeg (I0 340 9))).toInt + 0 ≤ (57 : Int) := by have h := x129_1; rw [xv107] at h; exact h
      have xv129 : v129 = 1 := by have h := xr129; exact h
      have d224 : dkN [(48, 57)] v107 := dkN_eq1 dv107 a129_0 rfl rfl
      refine lv_if_eq (tgt := 135) hx hb dX6_advances_30 (by decide) (fun c225 => ?_) (fun c225 => ?_)
      ·
        exact (dkN_nil (show dkN [] v129 from dkN_eq1 dv129 (dkN_lit (x := 0) (0) rfl) (congrArg Int32.toInt c225) rfl)).elim
      ·
        refine lv_aload_n hx hb dX6_advances_33 rfl (lv_at hl 1 rfl) ?_
        refine lv_iconst (v := 0) hx hb dX6_advances_34 (by decide) ?_
        refine dk_put (k := 340) hx hb hts iX6_advances_6 tyX6 tyX6_ok nmX6 hown hK hW (dk_at340 hW) hS rfl 12 (by decide) (hts (.fieldLink RX6 95 "DogKingsModel" "value" "I") (List.mem_of_getElem? (i := 3) rfl)) rfl rfl (Nat.le_of_ble_eq_true rfl) rfl dX6_advances_35 (fun I226 H226 L226 eI226 hW hS => ?_)
        have eI226 : I226 = dkU I128 340 12 0 := eI226
        have hO := dkO_set hO eI226 (dkN_sub (dkN_lit (x := 0) (0) rfl) rfl)
        have hF := dkF_set hF eI226 rfl
        exact C38 _ I226 _ _ ls v107 (Nat.lt_succ_self _) hW hS hF hO (dkN_sub d224 rfl) ((by rw [eI226, dkU_n (by decide)] : I226 345 = _).trans ((funext fun j => hF129 345 j dkNin_nil).trans ((by rw [eI128, dkU_n (by decide)] : I128 345 = _).trans ((funext fun j => hF107 345 j dkNin_nil).trans ((by rw [eI105, dkU_n (by decide)] : I105 345 = _).trans rfl))))) ((by rw [eI226, dkU_sn (by decide)] : I226 340 10 = _).trans ((hF129 340 10 rfl).trans ((by rw [eI128, dkU_sn (by decide)] : I128 340 10 = _).trans ((hF107 340 10 rfl).trans (by rw [eI105, dkU_ss, xv104]))))) ((by rw [eI226, dkU_sn (by decide)] : I226 340 6 = _).trans ((hF129 340 6 rfl).trans ((by rw [eI128, dkU_sn (by decide)] : I128 340 6 = _).trans ((hF107 340 6 rfl).trans ((by rw [eI105, dkU_sn (by decide)] : I105 340 6 = _).trans rfl))))) q123 q222 q223 (by rw [(show I226 340 9 = I0 340 9 from ((by rw [eI226, dkU_sn (by decide)] : I226 340 9 = _).trans ((hF129 340 9 rfl).trans ((by rw [eI128, dkU_sn (by decide)] : I128 340 9 = _).trans ((hF107 340 9 rfl).trans ((by rw [eI105, dkU_sn (by decide)] : I105 340 9 = _).trans rfl)))))), (show I226 340 12 = 0 from (by rw [eI226, dkU_ss]))]; exact dkAdv_0 (by omega) (by omega) (by omega)) (lv_sub hl [1, 0] rfl)
set_option maxHeartbeats 4000000 in
set_option maxRecDepth 100000 in
theorem fx_X6_isWell_6 (l : Launch) (g : dkG) (z : Nat) (I0 : dkI) (np0 : dkN [(-1, -1)] (I0 340 8))  (hO : dkOk I0) : Met l yX6_isWell wsX6_isWell (dkR 0) (dkPc g z [.ref (z + 340)] I0) (dkQi g z (fun r I1 => dkF [] I0 I1 ∧ dkOk I1 ∧ ((dkN [(1, 1)] r ∧ dkN [(-1, -1)] (I1 340 8) ∧ (I0 340 8).toInt + 1 ≤ (0 : Int) ∧ r = 1 ∧ True)))) 0 0 (dkA z) := by
  refine Met.ofW (cc := cX6_isWell) (maxL := 1) (ret := (some .boolean)) (by decide) rfl ?_
  intro p e s m args below meth c s₁ B hml hv
  obtain ⟨ha, hW, hK, hT⟩ := hv
  have hx := B.exec
  have hb := B.bytes
  have hr := B.returns
  have hts := atoms_spec (ws := wsX6_isWell) B.pre
  have hown : s.vm.findClass RX6 = some m.cls := findClass_of_methodNamed B.named
  have hlocks := B.notSynchronized
  have hS : va_S (dkA z) s.heap s.heap [] := va_S.rf
  have hF : dkF [] I0 I0 := dkF_rf _ _
  have hl := lv_entry ([.ref (z + 340)]) (n := 1) (Nat.le_of_ble_eq_true rfl)
  have hgo : entryFrame m args 1 = entryFrame m ([.ref (z + 340)] : List Value).toArray 1 := by rw [ha]
  rw [hgo, lg_entry_eq]
  generalize (lg_sl ([.ref (z + 340)]) ++ List.replicate (1 - (lg_sl ([.ref (z + 340)])).length) Slot.unset).toArray = ls at hl ⊢
  have hl : lv_has ls 1 [(0, .ref (z + 340))] := hl
  refine lv_aload_n hx hb dX6_isWell_0 rfl (lv_at hl 0 rfl) ?_
  refine dk_get (k := 340) hx hb hts iX6_isWell_6 hown hK (dk_at340 hW) rfl 8 (by decide) (hts (.fieldLink RX6 101 "DogKingsModel" "faultPlace" "I") (List.mem_of_getElem? (i := 1) rfl)) rfl dX6_isWell_1 ?_
  refine lv_topi (fun v1 ev1 => ?_)
  have dv1 : dkN [(-1, -1)] v1 := by rw [ev1]; exact np0
  have xv1 : v1 = I0 340 8 := ev1.trans rfl
  refine lv_if_ge (tgt := 11) hx hb dX6_isWell_4 (by decide) (fun c2 => ?_) (fun c2 => ?_)
  ·
    exact (dkN_nil (show dkN [] 0 from dkN_le1 0 (dkN_lit (x := 0) (0) rfl) dv1 (dkc_le c2) rfl)).elim
  ·
    have q3 : (I0 340 8).toInt + 1 ≤ (0 : Int) := by first | (rw [← xv1]; exact (dkc_nle c2)) | (subst xv1; exact (dkc_nle c2))
    refine lv_iconst (v := 1) hx hb dX6_isWell_7 (by decide) ?_
    refine lv_goto (tgt := 12) hx hb dX6_isWell_8 (by decide) ?_
    exact W.zret (v := 1) (ty := .boolean) hx hb hr rfl (fun t ht hW9 => ⟨⟨1, I0, rfl, ⟨hF, hO, ⟨dkN_sub (dkN_lit (x := 1) (1) rfl) rfl, (show dkN [(-1, -1)] (I0 340 8) from dkN_sub np0 rfl), q3, rfl, trivial⟩⟩, dkW_eq ht hW⟩, hS.F ht⟩) hS.2.2 dX6_isWell_12
set_option maxHeartbeats 4000000 in
set_option maxRecDepth 100000 in
theorem fx_X6_takes_31 (l : Launch) (g : dkG) (z : Nat) (I0 : dkI) (p0 : Int32) (p1 : Int32) (dp0 : dkN [(0, 0)] p0) (dp1 : dkN [(1, 1)] p1) (np0 : dkN [(-1, -1)] (I0 340 8))  (hO : dkOk I0) : Met l yX6_takes wsX6_takes (dkR 1) (dkPc g z [.ref (z + 340), .int p0, .int p1] I0) (dkQi g z (fun r I1 => dkF [(340, 340, 7, 8)] I0 I1 ∧ dkOk I1 ∧ ((dkN [(0, 0)] r ∧ dkN [(1, 1)] (I1 340 7) ∧ dkN [(0, 90)] (I1 340 8) ∧ (I0 340 8).toInt + 1 ≤ (0 : Int) ∧ p0.toInt = (0 : Int) ∧ r = 0 ∧ I1 340 7 = p1 ∧ I1 340 8 = I0 340 10 ∧ I1 340 9 = I0 340 9 ∧ I1 340 10 = I0 340 10 ∧ I1 340 11 = I0 340 11 ∧ I1 340 12 = I0 340 12 ∧ True)))) 0 0 (dkA z) := by
  refine Met.ofW (cc := cX6_takes) (maxL := 4) (ret := (some .int)) (by decide) rfl ?_
  intro p e s m args below meth c s₁ B hml hv
  obtain ⟨ha, hW, hK, hT⟩ := hv
  have hx := B.exec
  have hb := B.bytes
  have hr := B.returns
  have hts := atoms_spec (ws := wsX6_takes) B.pre
  have hown : s.vm.findClass RX6 = some m.cls := findClass_of_methodNamed B.named
  have hlocks := B.notSynchronized
  have hS : va_S (dkA z) s.heap s.heap [] := va_S.rf
  have hF : dkF [(340, 340, 7, 8)] I0 I0 := dkF_rf _ _
  have hl := lv_entry ([.ref (z + 340), .int p0, .int p1]) (n := 4) (Nat.le_of_ble_eq_true rfl)
  have hgo : entryFrame m args 4 = entryFrame m ([.ref (z + 340), .int p0, .int p1] : List Value).toArray 4 := by rw [ha]
  rw [hgo, lg_entry_eq]
  generalize (lg_sl ([.ref (z + 340), .int p0, .int p1]) ++ List.replicate (4 - (lg_sl ([.ref (z + 340), .int p0, .int p1])).length) Slot.unset).toArray = ls at hl ⊢
  have hl : lv_has ls 4 [(0, .ref (z + 340)), (1, .int p0), (2, .int p1)] := hl
  refine lv_aload_n hx hb dX6_takes_0 rfl (lv_at hl 0 rfl) ?_
  refine dk_Vi (As := []) (rest := []) ⟨hx, hb, hml, hown, hts⟩ (fx_X6_isWell_6 l g z I0 (show dkN [(-1, -1)] (I0 340 8) from dkN_sub np0 rfl) hO) (cwV 0 hts gX6_takes_X6_isWell rfl rfl rfl (by decide +kernel) ⟨Nat.le_of_ble_eq_true rfl, Nat.le_of_ble_eq_true rfl⟩) (dk_at340 hW) rfl hK hT hW hS rfl hl.1 rfl (Nat.le_of_ble_eq_true rfl) dX6_takes_1 ⟨Nat.zero_le _, Nat.zero_le _⟩ (fun v1 I1 H1 L1 hp1 hW hS => ?_)
  obtain ⟨hF1, hO, hc1⟩ := hp1
  have hF := dkF_call hF hF1 rfl
  have eI1 : I0 = I1 := (dkF_nil hF1).symm
  subst eI1
  obtain ⟨dv1, f1_340_8, x1_0, xr1, -⟩ := hc1
  have q2 : (I0 340 8).toInt + 1 ≤ (0 : Int) := x1_0
  have xv1 : v1 = 1 := by have h := xr1; exact h
  refine lv_if_ne (tgt := 9) hx hb dX6_takes_4 (by decide) (fun c3 => ?_) (fun c3 => ?_)
  ·
    refine lv_iload_n hx hb dX6_takes_9 rfl (lv_at hl 1 rfl) ?_
    refine lv_if_ne (tgt := 28) hx hb dX6_takes_10 (by decide) (fun c4 => ?_) (fun c4 => ?_)
    ·
      exact (dkN_nil (show dkN [] p0 from dkN_ne1 (0) dp0 (dkN_lit (x := 0) (0) rfl) (dk_ne c4) rfl)).elim
    ·
      have q5 : p0.toInt = (0 : Int) := (congrArg Int32.toInt c4)
      refine lv_aload_n hx hb dX6_takes_13 rfl (lv_at hl 0 rfl) ?_
      refine lv_aload_n hx hb dX6_takes_14 rfl (lv_at hl 0 rfl) ?_
      refine dk_get (k := 340) hx hb hts iX6_takes_6 hown hK (dk_at340 hW) rfl 10 (by decide) (hts (.fieldLink RX6 89 "DogKingsModel" "start" "I") (List.mem_of_getElem? (i := 1) rfl)) rfl dX6_takes_15 ?_
      refine lv_topi (fun v6 ev6 => ?_)
      have dv6 : dkN [(0, 90)] v6 := by rw [ev6]; exact (hO 340 10)
      have xv6 : v6 = I0 340 10 := ev6.trans rfl
      refine dk_put (k := 340) hx hb hts iX6_takes_6 tyX6 tyX6_ok nmX6 hown hK hW (dk_at340 hW) hS rfl 8 (by decide) (hts (.fieldLink RX6 101 "DogKingsModel" "faultPlace" "I") (List.mem_of_getElem? (i := 2) rfl)) rfl rfl (Nat.le_of_ble_eq_true rfl) rfl dX6_takes_18 (fun I7 H7 L7 eI7 hW hS => ?_)
      have eI7 : I7 = dkU I0 340 8 v6 := eI7
      have hO := dkO_set hO eI7 (dkN_sub dv6 rfl)
      have hF := dkF_set hF eI7 rfl
      refine lv_aload_n hx hb dX6_takes_21 rfl (lv_at hl 0 rfl) ?_
      refine lv_iload_n hx hb dX6_takes_22 rfl (lv_at hl 2 rfl) ?_
      refine dk_put (k := 340) hx hb hts iX6_takes_6 tyX6 tyX6_ok nmX6 hown hK hW (dk_at340 hW) hS rfl 7 (by decide) (hts (.fieldLink RX6 108 "DogKingsModel" "faultKind" "I") (List.mem_of_getElem? (i := 3) rfl)) rfl rfl (Nat.le_of_ble_eq_true rfl) rfl dX6_takes_23 (fun I8 H8 L8 eI8 hW hS => ?_)
      have eI8 : I8 = dkU I7 340 7 p1 := eI8
      have hO := dkO_set hO eI8 (dkN_sub dp1 rfl)
      have hF := dkF_set hF eI8 rfl
      refine lv_iconst (v := 0) hx hb dX6_takes_26 (by decide) ?_
      exact W.iret (v := 0) hx hb hr (fun t ht hW9 => ⟨⟨0, I8, rfl, ⟨hF, hO, ⟨dkN_sub (dkN_lit (x := 0) (0) rfl) rfl, (show dkN [(1, 1)] (I8 340 7) from dkN_sub (by rw [eI8, dkU_ss]; exact dp1) rfl), (show dkN [(0, 90)] (I8 340 8) from dkN_sub (by rw [eI8, dkU_sn (by decide)]; exact (by rw [eI7, dkU_ss]; exact dv6)) rfl), q2, q5, rfl, (by rw [eI8, dkU_ss]), ((by rw [eI8, dkU_sn (by decide)] : I8 340 8 = _).trans (by rw [eI7, dkU_ss, xv6])), ((by rw [eI8, dkU_sn (by decide)] : I8 340 9 = _).trans ((by rw [eI7, dkU_sn (by decide)] : I7 340 9 = _).trans rfl)), ((by rw [eI8, dkU_sn (by decide)] : I8 340 10 = _).trans ((by rw [eI7, dkU_sn (by decide)] : I7 340 10 = _).trans rfl)), ((by rw [eI8, dkU_sn (by decide)] : I8 340 11 = _).trans ((by rw [eI7, dkU_sn (by decide)] : I7 340 11 = _).trans rfl)), ((by rw [eI8, dkU_sn (by decide)] : I8 340 12 = _).trans ((by rw [eI7, dkU_sn (by decide)] : I7 340 12 = _).trans rfl)), trivial⟩⟩, dkW_eq ht hW⟩, hS.F ht⟩) hS.2.2 dX6_takes_27
  ·
    exact (dkN_nil (show dkN [] v1 from dkN_eq1 dv1 (dkN_lit (x := 0) (0) rfl) (congrArg Int32.toInt c3) rfl)).elim
set_option maxHeartbeats 4000000 in
set_option maxRecDepth 100000 in
theorem fx_X6_isWell_7 (l : Launch) (g : dkG) (z : Nat) (I0 : dkI) (np0 : dkN [(0, 90)] (I0 340 8))  (hO : dkOk I0) : Met l yX6_isWell wsX6_isWell (dkR 0) (dkPc g z [.ref (z + 340)] I0) (dkQi g z (fun r I1 => dkF [] I0 I1 ∧ dkOk I1 ∧ ((dkN [(0, 0)] r ∧ dkN [(0, 90)] (I1 340 8) ∧ (0 : Int) + 0 ≤ (I0 340 8).toInt ∧ r = 0 ∧ True)))) 0 0 (dkA z) := by
  refine Met.ofW (cc := cX6_isWell) (maxL := 1) (ret := (some .boolean)) (by decide) rfl ?_
  intro p e s m args below meth c s₁ B hml hv
  obtain ⟨ha, hW, hK, hT⟩ := hv
  have hx := B.exec
  have hb := B.bytes
  have hr := B.returns
  have hts := atoms_spec (ws := wsX6_isWell) B.pre
  have hown : s.vm.findClass RX6 = some m.cls := findClass_of_methodNamed B.named
  have hlocks := B.notSynchronized
  have hS : va_S (dkA z) s.heap s.heap [] := va_S.rf
  have hF : dkF [] I0 I0 := dkF_rf _ _
  have hl := lv_entry ([.ref (z + 340)]) (n := 1) (Nat.le_of_ble_eq_true rfl)
  have hgo : entryFrame m args 1 = entryFrame m ([.ref (z + 340)] : List Value).toArray 1 := by rw [ha]
  rw [hgo, lg_entry_eq]
  generalize (lg_sl ([.ref (z + 340)]) ++ List.replicate (1 - (lg_sl ([.ref (z + 340)])).length) Slot.unset).toArray = ls at hl ⊢
  have hl : lv_has ls 1 [(0, .ref (z + 340))] := hl
  refine lv_aload_n hx hb dX6_isWell_0 rfl (lv_at hl 0 rfl) ?_
  refine dk_get (k := 340) hx hb hts iX6_isWell_6 hown hK (dk_at340 hW) rfl 8 (by decide) (hts (.fieldLink RX6 101 "DogKingsModel" "faultPlace" "I") (List.mem_of_getElem? (i := 1) rfl)) rfl dX6_isWell_1 ?_
  refine lv_topi (fun v1 ev1 => ?_)
  have dv1 : dkN [(0, 90)] v1 := by rw [ev1]; exact np0
  have xv1 : v1 = I0 340 8 := ev1.trans rfl
  refine lv_if_ge (tgt := 11) hx hb dX6_isWell_4 (by decide) (fun c2 => ?_) (fun c2 => ?_)
  ·
    have q3 : (0 : Int) + 0 ≤ (I0 340 8).toInt := by first | (rw [← xv1]; exact (dkc_le c2)) | (subst xv1; exact (dkc_le c2))
    refine lv_iconst (v := 0) hx hb dX6_isWell_11 (by decide) ?_
    exact W.zret (v := 0) (ty := .boolean) hx hb hr rfl (fun t ht hW9 => ⟨⟨0, I0, rfl, ⟨hF, hO, ⟨dkN_sub (dkN_lit (x := 0) (0) rfl) rfl, (show dkN [(0, 90)] (I0 340 8) from dkN_sub np0 rfl), q3, rfl, trivial⟩⟩, dkW_eq ht hW⟩, hS.F ht⟩) hS.2.2 dX6_isWell_12
  ·
    exact (dkN_nil (show dkN [] 0 from dkN_le2 1 dv1 (dkN_lit (x := 0) (0) rfl) (dkc_nle c2) rfl)).elim
set_option maxHeartbeats 4000000 in
set_option maxRecDepth 100000 in
theorem fx_X6_in_27 (l : Launch) (g : dkG) (z : Nat) (I0 : dkI) (p0 : Int32) (p1 : Int32) (p2 : Int32)  (hO : dkOk I0) : Met l yX6_in wsX6_in (dkR 0) (dkPc g z [.int p0, .int p1, .int p2] I0) (dkQi g z (fun r I1 => dkF [] I0 I1 ∧ dkOk I1 ∧ ((dkN [(0, 0)] r ∧ dkN [(-2147483648, 2147483646)] p0 ∧ dkN [(-2147483647, 2147483647)] p1 ∧ p0.toInt + 1 ≤ p1.toInt ∧ r = 0 ∧ True) ∨ (dkN [(0, 0)] r ∧ dkN [(-2147483647, 2147483647)] p0 ∧ dkN [(-2147483648, 2147483646)] p2 ∧ p1.toInt + 0 ≤ p0.toInt ∧ p2.toInt + 1 ≤ p0.toInt ∧ r = 0 ∧ True) ∨ (dkN [(1, 1)] r ∧ p1.toInt + 0 ≤ p0.toInt ∧ p0.toInt + 0 ≤ p2.toInt ∧ r = 1 ∧ True)))) 0 0 (dkA z) := by
  refine Met.ofW (cc := cX6_in) (maxL := 3) (ret := (some .boolean)) (by decide) rfl ?_
  intro p e s m args below meth c s₁ B hml hv
  obtain ⟨ha, hW, hK, hT⟩ := hv
  have hx := B.exec
  have hb := B.bytes
  have hr := B.returns
  have hts := atoms_spec (ws := wsX6_in) B.pre
  have hown : s.vm.findClass RX6 = some m.cls := findClass_of_methodNamed B.named
  have hlocks := B.notSynchronized
  have hS : va_S (dkA z) s.heap s.heap [] := va_S.rf
  have hF : dkF [] I0 I0 := dkF_rf _ _
  have hl := lv_entry ([.int p0, .int p1, .int p2]) (n := 3) (Nat.le_of_ble_eq_true rfl)
  have hgo : entryFrame m args 3 = entryFrame m ([.int p0, .int p1, .int p2] : List Value).toArray 3 := by rw [ha]
  rw [hgo, lg_entry_eq]
  generalize (lg_sl ([.int p0, .int p1, .int p2]) ++ List.replicate (3 - (lg_sl ([.int p0, .int p1, .int p2])).length) Slot.unset).toArray = ls at hl ⊢
  have hl : lv_has ls 3 [(0, .int p0), (1, .int p1), (2, .int p2)] := hl
  refine lv_iload_n hx hb dX6_in_0 rfl (lv_at hl 0 rfl) ?_
  refine lv_iload_n hx hb dX6_in_1 rfl (lv_at hl 1 rfl) ?_
  refine lv_icmp_lt (tgt := 14) hx hb dX6_in_2 (by decide) (fun c1 => ?_) (fun c1 => ?_)
  ·
    have q2 : p0.toInt + 1 ≤ p1.toInt := (dkc_lt c1)
    have d3 : dkN [(-2147483648, 2147483646)] p0 := dkN_le1 1 (dkN_top p0) (dkN_top p1) (dkc_lt c1) rfl
    have d4 : dkN [(-2147483647, 2147483647)] p1 := dkN_le2 1 (dkN_top p0) (dkN_top p1) (dkc_lt c1) rfl
    refine lv_iconst (v := 0) hx hb dX6_in_14 (by decide) ?_
    exact W.zret (v := 0) (ty := .boolean) hx hb hr rfl (fun t ht hW9 => ⟨⟨0, I0, rfl, ⟨hF, hO, Or.inl ⟨dkN_sub (dkN_lit (x := 0) (0) rfl) rfl, dkN_sub d3 rfl, dkN_sub d4 rfl, q2, rfl, trivial⟩⟩, dkW_eq ht hW⟩, hS.F ht⟩) hS.2.2 dX6_in_15
  ·
    have q5 : p1.toInt + 0 ≤ p0.toInt := (dkc_nlt c1)
    refine lv_iload_n hx hb dX6_in_5 rfl (lv_at hl 0 rfl) ?_
    refine lv_iload_n hx hb dX6_in_6 rfl (lv_at hl 2 rfl) ?_
    refine lv_icmp_gt (tgt := 14) hx hb dX6_in_7 (by decide) (fun c6 => ?_) (fun c6 => ?_)
    ·
      have q7 : p2.toInt + 1 ≤ p0.toInt := (dkc_lt c6)
      have d8 : dkN [(-2147483648, 2147483646)] p2 := dkN_le1 1 (dkN_top p2) (dkN_top p0) (dkc_lt c6) rfl
      have d9 : dkN [(-2147483647, 2147483647)] p0 := dkN_le2 1 (dkN_top p2) (dkN_top p0) (dkc_lt c6) rfl
      refine lv_iconst (v := 0) hx hb dX6_in_14 (by decide) ?_
      exact W.zret (v := 0) (ty := .boolean) hx hb hr rfl (fun t ht hW9 => ⟨⟨0, I0, rfl, ⟨hF, hO, Or.inr (Or.inl ⟨dkN_sub (dkN_lit (x := 0) (0) rfl) rfl, dkN_sub d9 rfl, dkN_sub d8 rfl, q5, q7, rfl, trivial⟩)⟩, dkW_eq ht hW⟩, hS.F ht⟩) hS.2.2 dX6_in_15
    ·
      have q10 : p0.toInt + 0 ≤ p2.toInt := (dkc_nlt c6)
      refine lv_iconst (v := 1) hx hb dX6_in_10 (by decide) ?_
      refine lv_goto (tgt := 15) hx hb dX6_in_11 (by decide) ?_
      exact W.zret (v := 1) (ty := .boolean) hx hb hr rfl (fun t ht hW9 => ⟨⟨1, I0, rfl, ⟨hF, hO, Or.inr (Or.inr (⟨dkN_sub (dkN_lit (x := 1) (1) rfl) rfl, q5, q10, rfl, trivial⟩))⟩, dkW_eq ht hW⟩, hS.F ht⟩) hS.2.2 dX6_in_15
set_option maxHeartbeats 4000000 in
set_option maxRecDepth 100000 in
theorem fx_X6_takes_32 (l : Launch) (g : dkG) (z : Nat) (I0 : dkI) (p0 : Int32) (p1 : Int32) (np0 : dkN [(0, 90)] (I0 340 8))  (hO : dkOk I0) : Met l yX6_takes wsX6_takes (dkR 1) (dkPc g z [.ref (z + 340), .int p0, .int p1] I0) (dkQi g z (fun r I1 => dkF [] I0 I1 ∧ dkOk I1 ∧ ((dkN [(0, 0)] r ∧ dkN [(0, 90)] (I1 340 8) ∧ (0 : Int) + 0 ≤ (I0 340 8).toInt ∧ r = 0 ∧ I1 340 7 = I0 340 7 ∧ I1 340 8 = I0 340 8 ∧ I1 340 9 = I0 340 9 ∧ I1 340 10 = I0 340 10 ∧ I1 340 11 = I0 340 11 ∧ I1 340 12 = I0 340 12 ∧ True)))) 0 0 (dkA z) := by
  refine Met.ofW (cc := cX6_takes) (maxL := 4) (ret := (some .int)) (by decide) rfl ?_
  intro p e s m args below meth c s₁ B hml hv
  obtain ⟨ha, hW, hK, hT⟩ := hv
  have hx := B.exec
  have hb := B.bytes
  have hr := B.returns
  have hts := atoms_spec (ws := wsX6_takes) B.pre
  have hown : s.vm.findClass RX6 = some m.cls := findClass_of_methodNamed B.named
  have hlocks := B.notSynchronized
  have hS : va_S (dkA z) s.heap s.heap [] := va_S.rf
  have hF : dkF [] I0 I0 := dkF_rf _ _
  have hl := lv_entry ([.ref (z + 340), .int p0, .int p1]) (n := 4) (Nat.le_of_ble_eq_true rfl)
  have hgo : entryFrame m args 4 = entryFrame m ([.ref (z + 340), .int p0, .int p1] : List Value).toArray 4 := by rw [ha]
  rw [hgo, lg_entry_eq]
  generalize (lg_sl ([.ref (z + 340), .int p0, .int p1]) ++ List.replicate (4 - (lg_sl ([.ref (z + 340), .int p0, .int p1])).length) Slot.unset).toArray = ls at hl ⊢
  have hl : lv_has ls 4 [(0, .ref (z + 340)), (1, .int p0), (2, .int p1)] := hl
  refine lv_aload_n hx hb dX6_takes_0 rfl (lv_at hl 0 rfl) ?_
  refine dk_Vi (As := []) (rest := []) ⟨hx, hb, hml, hown, hts⟩ (fx_X6_isWell_7 l g z I0 (show dkN [(0, 90)] (I0 340 8) from dkN_sub np0 rfl) hO) (cwV 0 hts gX6_takes_X6_isWell rfl rfl rfl (by decide +kernel) ⟨Nat.le_of_ble_eq_true rfl, Nat.le_of_ble_eq_true rfl⟩) (dk_at340 hW) rfl hK hT hW hS rfl hl.1 rfl (Nat.le_of_ble_eq_true rfl) dX6_takes_1 ⟨Nat.zero_le _, Nat.zero_le _⟩ (fun v1 I1 H1 L1 hp1 hW hS => ?_)
  obtain ⟨hF1, hO, hc1⟩ := hp1
  have hF := dkF_call hF hF1 rfl
  have eI1 : I0 = I1 := (dkF_nil hF1).symm
  subst eI1
  obtain ⟨dv1, f1_340_8, x1_0, xr1, -⟩ := hc1
  have q2 : (0 : Int) + 0 ≤ (I0 340 8).toInt := x1_0
  have xv1 : v1 = 0 := by have h := xr1; exact h
  refine lv_if_ne (tgt := 9) hx hb dX6_takes_4 (by decide) (fun c3 => ?_) (fun c3 => ?_)
  ·
    exact absurd ((xv1).trans (rfl).symm) c3
  ·
    refine lv_iconst (v := 0) hx hb dX6_takes_7 (by decide) ?_
    exact W.iret (v := 0) hx hb hr (fun t ht hW9 => ⟨⟨0, I0, rfl, ⟨hF, hO, ⟨dkN_sub (dkN_lit (x := 0) (0) rfl) rfl, (show dkN [(0, 90)] (I0 340 8) from dkN_sub f1_340_8 rfl), q2, rfl, rfl, rfl, rfl, rfl, rfl, rfl, trivial⟩⟩, dkW_eq ht hW⟩, hS.F ht⟩) hS.2.2 dX6_takes_8
set_option maxHeartbeats 4000000 in
set_option maxRecDepth 100000 in
theorem h_X6_takes_0 (l : Launch) (g : dkG) (z : Nat) (I0 : dkI) (p0 : Int32) (p1 : Int32) (np0 : dkN [(0, 90)] (I0 340 8)) (hO : dkOk I0) : Met l yX6_takes wsX6_takes (dkR 1) (dkPc g z [.ref (z + 340), .int p0, .int p1] I0) (dkQi g z (fun r I1 => dkF [] I0 I1 ∧ dkOk I1 ∧ ((dkN [(0, 0)] r ∧ r = 0 ∧ True)))) 0 0 (dkA z) := by
  refine dk_weakI (fx_X6_takes_32 l g z I0 p0 p1 np0 hO) (fun r I1 h => ?_)
  obtain ⟨hF, hO1, hc⟩ := h
  refine ⟨hF, hO1, ?_⟩
  rcases hc with ⟨d, G0, u0, ER, H340_7, H340_8, H340_9, H340_10, H340_11, H340_12, -⟩
  · exact ⟨dkN_sub d rfl, ER, trivial⟩
