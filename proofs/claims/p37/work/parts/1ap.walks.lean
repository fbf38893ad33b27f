set_option maxHeartbeats 4000000 in
set_option maxRecDepth 100000 in
theorem c_X6_begins_0 (l : Launch) (g : dkG) (z : Nat) (I0 : dkI) (p0 : Int32) (dp0 : dkN [(22, 22), (24, 24)] p0)  (hO : dkOk I0) : Met l yX6_begins wsX6_begins (dkR 0) (dkPc g z [.ref (z + 340), .int p0] I0) (dkQv g z (fun I1 => dkF [(340, 340, 25, 25), (353, 353, 0, 15)] I0 I1 ∧ dkOk I1 ∧ ((dkN [(1, 16)] (I1 340 25) ∧ True)))) 0 0 (dkA z) := by
  refine Met.ofW (cc := cX6_begins) (maxL := 2) (ret := none) (by decide) rfl ?_
  intro p e s m args below meth c s₁ B hml hv
  obtain ⟨ha, hW, hK, hT⟩ := hv
  have hx := B.exec
  have hb := B.bytes
  have hr := B.returns
  have hts := atoms_spec (ws := wsX6_begins) B.pre
  have hown : s.vm.findClass RX6 = some m.cls := findClass_of_methodNamed B.named
  have hlocks := B.notSynchronized
  have hS : va_S (dkA z) s.heap s.heap [] := va_S.rf
  have hF : dkF [(340, 340, 25, 25), (353, 353, 0, 15)] I0 I0 := dkF_rf _ _
  have hl := lv_entry ([.ref (z + 340), .int p0]) (n := 2) (Nat.le_of_ble_eq_true rfl)
  have hgo : entryFrame m args 2 = entryFrame m ([.ref (z + 340), .int p0] : List Value).toArray 2 := by rw [ha]
  rw [hgo, lg_entry_eq]
  generalize (lg_sl ([.ref (z + 340), .int p0]) ++ List.replicate (2 - (lg_sl ([.ref (z + 340), .int p0])).length) Slot.unset).toArray = ls at hl ⊢
  have hl : lv_has ls 2 [(0, .ref (z + 340)), (1, .int p0)] := hl
  refine lv_aload_n hx hb dX6_begins_0 rfl (lv_at hl 0 rfl) ?_
  refine dk_get (k := 340) hx hb hts iX6_begins_6 hown hK (dk_at340 hW) rfl 25 (by decide) (hts (.fieldLink RX6 252 "DogKingsModel" "traced" "I") (List.mem_of_getElem? (i := 1) rfl)) rfl dX6_begins_1 ?_
  refine lv_topi (fun v1 ev1 => ?_)
  have dv1 : dkN [(0, 16)] v1 := by rw [ev1]; exact (hO 340 25)
  refine lv_bipush (v := 16) hx hb dX6_begins_4 (by decide) ?_
  refine lv_icmp_ge (tgt := 29) hx hb dX6_begins_6 (by decide) (fun c2 => ?_) (fun c2 => ?_)
  ·
    have d3 : dkN [(16, 16)] v1 := dkN_le2 0 (dkN_lit (x := 16) (16) rfl) dv1 (dkc_le c2) rfl
    have f4 : dkN [(16, 16)] (I0 340 25) := by rw [← ev1]; exact d3
    exact W.vret hx hb hr (fun t ht hW9 => ⟨⟨I0, rfl, ⟨hF, hO, ⟨(show dkN [(1, 16)] (I0 340 25) from dkN_sub f4 rfl), trivial⟩⟩, dkW_eq ht hW⟩, hS.F ht⟩) hS.2.2 dX6_begins_29
  ·
    have d5 : dkN [(0, 15)] v1 := dkN_le1 1 dv1 (dkN_lit (x := 16) (16) rfl) (dkc_nle c2) rfl
    have f6 : dkN [(0, 15)] (I0 340 25) := by rw [← ev1]; exact d5
    refine lv_aload_n hx hb dX6_begins_9 rfl (lv_at hl 0 rfl) ?_
    refine dk_get (k := 340) hx hb hts iX6_begins_6 hown hK (dk_at340 hW) rfl 24 (by decide) (hts (.fieldLink RX6 47 "DogKingsModel" "trace" "[I") (List.mem_of_getElem? (i := 2) rfl)) rfl dX6_begins_10 ?_
    refine lv_aload_n hx hb dX6_begins_13 rfl (lv_at hl 0 rfl) ?_
    refine dk_get (k := 340) hx hb hts iX6_begins_6 hown hK (dk_at340 hW) rfl 25 (by decide) (hts (.fieldLink RX6 252 "DogKingsModel" "traced" "I") (List.mem_of_getElem? (i := 1) rfl)) rfl dX6_begins_14 ?_
    refine lv_topi (fun v7 ev7 => ?_)
    have dv7 : dkN [(0, 15)] v7 := by rw [ev7]; exact f6
    refine lv_iload_n hx hb dX6_begins_17 rfl (lv_at hl 1 rfl) ?_
    refine dk_ist (k := 353) hx hb hK hW (fun _ => rfl) (by decide) hS (dkN_in (n := 16) dv7 rfl) dX6_begins_18 (fun I8 H8 L8 eI8 hW hS => ?_)
    have hO := dkO_set hO eI8 (dkN_sub dp0 rfl)
    have hF := dkF_set hF eI8 (dkIn_v dv7 rfl)
    refine lv_aload_n hx hb dX6_begins_19 rfl (lv_at hl 0 rfl) ?_
    refine lv_dup hx hb dX6_begins_20 rfl ?_
    refine dk_get (k := 340) hx hb hts iX6_begins_6 hown hK (dk_at340 hW) rfl 25 (by decide) (hts (.fieldLink RX6 252 "DogKingsModel" "traced" "I") (List.mem_of_getElem? (i := 1) rfl)) rfl dX6_begins_21 ?_
    refine lv_topi (fun v9 ev9 => ?_)
    have dv9 : dkN [(0, 15)] v9 := by rw [ev9]; exact (by rw [eI8, dkU_n (by decide)]; exact f6)
    refine lv_iconst (v := 1) hx hb dX6_begins_24 (by decide) ?_
    refine lv_iadd hx hb dX6_begins_25 ?_
    refine lv_topi (fun v10 ev10 => ?_)
    have dv10 : dkN [(1, 16)] v10 := by rw [ev10]; exact dkN_add dv9 (dkN_lit (x := 1) (1) rfl) rfl
    refine dk_put (k := 340) hx hb hts iX6_begins_6 tyX6 tyX6_ok nmX6 hown hK hW (dk_at340 hW) hS rfl 25 (by decide) (hts (.fieldLink RX6 252 "DogKingsModel" "traced" "I") (List.mem_of_getElem? (i := 1) rfl)) rfl rfl (Nat.le_of_ble_eq_true rfl) rfl dX6_begins_26 (fun I11 H11 L11 eI11 hW hS => ?_)
    have eI11 : I11 = dkU I8 340 25 v10 := eI11
    have hO := dkO_set hO eI11 (dkN_sub dv10 rfl)
    have hF := dkF_set hF eI11 rfl
    exact W.vret hx hb hr (fun t ht hW9 => ⟨⟨I11, rfl, ⟨hF, hO, ⟨(show dkN [(1, 16)] (I11 340 25) from dkN_sub (by rw [eI11, dkU_ss]; exact dv10) rfl), trivial⟩⟩, dkW_eq ht hW⟩, hS.F ht⟩) hS.2.2 dX6_begins_29
set_option maxHeartbeats 4000000 in
set_option maxRecDepth 100000 in
theorem c_X6_begins_1 (l : Launch) (g : dkG) (z : Nat) (I0 : dkI) (p0 : Int32) (dp0 : dkN [(21, 21)] p0)  (hO : dkOk I0) : Met l yX6_begins wsX6_begins (dkR 0) (dkPc g z [.ref (z + 340), .int p0] I0) (dkQv g z (fun I1 => dkF [(340, 340, 25, 25), (353, 353, 0, 15)] I0 I1 ∧ dkOk I1 ∧ ((dkN [(1, 16)] (I1 340 25) ∧ True)))) 0 0 (dkA z) := by
  refine Met.ofW (cc := cX6_begins) (maxL := 2) (ret := none) (by decide) rfl ?_
  intro p e s m args below meth c s₁ B hml hv
  obtain ⟨ha, hW, hK, hT⟩ := hv
  have hx := B.exec
  have hb := B.bytes
  have hr := B.returns
  have hts := atoms_spec (ws := wsX6_begins) B.pre
  have hown : s.vm.findClass RX6 = some m.cls := findClass_of_methodNamed B.named
  have hlocks := B.notSynchronized
  have hS : va_S (dkA z) s.heap s.heap [] := va_S.rf
  have hF : dkF [(340, 340, 25, 25), (353, 353, 0, 15)] I0 I0 := dkF_rf _ _
  have hl := lv_entry ([.ref (z + 340), .int p0]) (n := 2) (Nat.le_of_ble_eq_true rfl)
  have hgo : entryFrame m args 2 = entryFrame m ([.ref (z + 340), .int p0] : List Value).toArray 2 := by rw [ha]
  rw [hgo, lg_entry_eq]
  generalize (lg_sl ([.ref (z + 340), .int p0]) ++ List.replicate (2 - (lg_sl ([.ref (z + 340), .int p0])).length) Slot.unset).toArray = ls at hl ⊢
  have hl : lv_has ls 2 [(0, .ref (z + 340)), (1, .int p0)] := hl
  refine lv_aload_n hx hb dX6_begins_0 rfl (lv_at hl 0 rfl) ?_
  refine dk_get (k := 340) hx hb hts iX6_begins_6 hown hK (dk_at340 hW) rfl 25 (by decide) (hts (.fieldLink RX6 252 "DogKingsModel" "traced" "I") (List.mem_of_getElem? (i := 1) rfl)) rfl dX6_begins_1 ?_
  refine lv_topi (fun v1 ev1 => ?_)
  have dv1 : dkN [(0, 16)] v1 := by rw [ev1]; exact (hO 340 25)
  refine lv_bipush (v := 16) hx hb dX6_begins_4 (by decide) ?_
  refine lv_icmp_ge (tgt := 29) hx hb dX6_begins_6 (by decide) (fun c2 => ?_) (fun c2 => ?_)
  ·
    have d3 : dkN [(16, 16)] v1 := dkN_le2 0 (dkN_lit (x := 16) (16) rfl) dv1 (dkc_le c2) rfl
    have f4 : dkN [(16, 16)] (I0 340 25) := by rw [← ev1]; exact d3
    exact W.vret hx hb hr (fun t ht hW9 => ⟨⟨I0, rfl, ⟨hF, hO, ⟨(show dkN [(1, 16)] (I0 340 25) from dkN_sub f4 rfl), trivial⟩⟩, dkW_eq ht hW⟩, hS.F ht⟩) hS.2.2 dX6_begins_29
  ·
    have d5 : dkN [(0, 15)] v1 := dkN_le1 1 dv1 (dkN_lit (x := 16) (16) rfl) (dkc_nle c2) rfl
    have f6 : dkN [(0, 15)] (I0 340 25) := by rw [← ev1]; exact d5
    refine lv_aload_n hx hb dX6_begins_9 rfl (lv_at hl 0 rfl) ?_
    refine dk_get (k := 340) hx hb hts iX6_begins_6 hown hK (dk_at340 hW) rfl 24 (by decide) (hts (.fieldLink RX6 47 "DogKingsModel" "trace" "[I") (List.mem_of_getElem? (i := 2) rfl)) rfl dX6_begins_10 ?_
    refine lv_aload_n hx hb dX6_begins_13 rfl (lv_at hl 0 rfl) ?_
    refine dk_get (k := 340) hx hb hts iX6_begins_6 hown hK (dk_at340 hW) rfl 25 (by decide) (hts (.fieldLink RX6 252 "DogKingsModel" "traced" "I") (List.mem_of_getElem? (i := 1) rfl)) rfl dX6_begins_14 ?_
    refine lv_topi (fun v7 ev7 => ?_)
    have dv7 : dkN [(0, 15)] v7 := by rw [ev7]; exact f6
    refine lv_iload_n hx hb dX6_begins_17 rfl (lv_at hl 1 rfl) ?_
    refine dk_ist (k := 353) hx hb hK hW (fun _ => rfl) (by decide) hS (dkN_in (n := 16) dv7 rfl) dX6_begins_18 (fun I8 H8 L8 eI8 hW hS => ?_)
    have hO := dkO_set hO eI8 (dkN_sub dp0 rfl)
    have hF := dkF_set hF eI8 (dkIn_v dv7 rfl)
    refine lv_aload_n hx hb dX6_begins_19 rfl (lv_at hl 0 rfl) ?_
    refine lv_dup hx hb dX6_begins_20 rfl ?_
    refine dk_get (k := 340) hx hb hts iX6_begins_6 hown hK (dk_at340 hW) rfl 25 (by decide) (hts (.fieldLink RX6 252 "DogKingsModel" "traced" "I") (List.mem_of_getElem? (i := 1) rfl)) rfl dX6_begins_21 ?_
    refine lv_topi (fun v9 ev9 => ?_)
    have dv9 : dkN [(0, 15)] v9 := by rw [ev9]; exact (by rw [eI8, dkU_n (by decide)]; exact f6)
    refine lv_iconst (v := 1) hx hb dX6_begins_24 (by decide) ?_
    refine lv_iadd hx hb dX6_begins_25 ?_
    refine lv_topi (fun v10 ev10 => ?_)
    have dv10 : dkN [(1, 16)] v10 := by rw [ev10]; exact dkN_add dv9 (dkN_lit (x := 1) (1) rfl) rfl
    refine dk_put (k := 340) hx hb hts iX6_begins_6 tyX6 tyX6_ok nmX6 hown hK hW (dk_at340 hW) hS rfl 25 (by decide) (hts (.fieldLink RX6 252 "DogKingsModel" "traced" "I") (List.mem_of_getElem? (i := 1) rfl)) rfl rfl (Nat.le_of_ble_eq_true rfl) rfl dX6_begins_26 (fun I11 H11 L11 eI11 hW hS => ?_)
    have eI11 : I11 = dkU I8 340 25 v10 := eI11
    have hO := dkO_set hO eI11 (dkN_sub dv10 rfl)
    have hF := dkF_set hF eI11 rfl
    exact W.vret hx hb hr (fun t ht hW9 => ⟨⟨I11, rfl, ⟨hF, hO, ⟨(show dkN [(1, 16)] (I11 340 25) from dkN_sub (by rw [eI11, dkU_ss]; exact dv10) rfl), trivial⟩⟩, dkW_eq ht hW⟩, hS.F ht⟩) hS.2.2 dX6_begins_29
set_option maxHeartbeats 4000000 in
set_option maxRecDepth 100000 in
theorem c_X6_begins_2 (l : Launch) (g : dkG) (z : Nat) (I0 : dkI) (p0 : Int32) (dp0 : dkN [(20, 20)] p0)  (hO : dkOk I0) : Met l yX6_begins wsX6_begins (dkR 0) (dkPc g z [.ref (z + 340), .int p0] I0) (dkQv g z (fun I1 => dkF [(340, 340, 25, 25), (353, 353, 0, 15)] I0 I1 ∧ dkOk I1 ∧ ((dkN [(1, 16)] (I1 340 25) ∧ True)))) 0 0 (dkA z) := by
  refine Met.ofW (cc := cX6_begins) (maxL := 2) (ret := none) (by decide) rfl ?_
  intro p e s m args below meth c s₁ B hml hv
  obtain ⟨ha, hW, hK, hT⟩ := hv
  have hx := B.exec
  have hb := B.bytes
  have hr := B.returns
  have hts := atoms_spec (ws := wsX6_begins) B.pre
  have hown : s.vm.findClass RX6 = some m.cls := findClass_of_methodNamed B.named
  have hlocks := B.notSynchronized
  have hS : va_S (dkA z) s.heap s.heap [] := va_S.rf
  have hF : dkF [(340, 340, 25, 25), (353, 353, 0, 15)] I0 I0 := dkF_rf _ _
  have hl := lv_entry ([.ref (z + 340), .int p0]) (n := 2) (Nat.le_of_ble_eq_true rfl)
  have hgo : entryFrame m args 2 = entryFrame m ([.ref (z + 340), .int p0] : List Value).toArray 2 := by rw [ha]
  rw [hgo, lg_entry_eq]
  generalize (lg_sl ([.ref (z + 340), .int p0]) ++ List.replicate (2 - (lg_sl ([.ref (z + 340), .int p0])).length) Slot.unset).toArray = ls at hl ⊢
  have hl : lv_has ls 2 [(0, .ref (z + 340)), (1, .int p0)] := hl
  refine lv_aload_n hx hb dX6_begins_0 rfl (lv_at hl 0 rfl) ?_
  refine dk_get (k := 340) hx hb hts iX6_begins_6 hown hK (dk_at340 hW) rfl 25 (by decide) (hts (.fieldLink RX6 252 "DogKingsModel" "traced" "I") (List.mem_of_getElem? (i := 1) rfl)) rfl dX6_begins_1 ?_
  refine lv_topi (fun v1 ev1 => ?_)
  have dv1 : dkN [(0, 16)] v1 := by rw [ev1]; exact (hO 340 25)
  refine lv_bipush (v := 16) hx hb dX6_begins_4 (by decide) ?_
  refine lv_icmp_ge (tgt := 29) hx hb dX6_begins_6 (by decide) (fun c2 => ?_) (fun c2 => ?_)
  ·
    have d3 : dkN [(16, 16)] v1 := dkN_le2 0 (dkN_lit (x := 16) (16) rfl) dv1 (dkc_le c2) rfl
    have f4 : dkN [(16, 16)] (I0 340 25) := by rw [← ev1]; exact d3
    exact W.vret hx hb hr (fun t ht hW9 => ⟨⟨I0, rfl, ⟨hF, hO, ⟨(show dkN [(1, 16)] (I0 340 25) from dkN_sub f4 rfl), trivial⟩⟩, dkW_eq ht hW⟩, hS.F ht⟩) hS.2.2 dX6_begins_29
  ·
    have d5 : dkN [(0, 15)] v1 := dkN_le1 1 dv1 (dkN_lit (x := 16) (16) rfl) (dkc_nle c2) rfl
    have f6 : dkN [(0, 15)] (I0 340 25) := by rw [← ev1]; exact d5
    refine lv_aload_n hx hb dX6_begins_9 rfl (lv_at hl 0 rfl) ?_
    refine dk_get (k := 340) hx hb hts iX6_begins_6 hown hK (dk_at340 hW) rfl 24 (by decide) (hts (.fieldLink RX6 47 "DogKingsModel" "trace" "[I") (List.mem_of_getElem? (i := 2) rfl)) rfl dX6_begins_10 ?_
    refine lv_aload_n hx hb dX6_begins_13 rfl (lv_at hl 0 rfl) ?_
    refine dk_get (k := 340) hx hb hts iX6_begins_6 hown hK (dk_at340 hW) rfl 25 (by decide) (hts (.fieldLink RX6 252 "DogKingsModel" "traced" "I") (List.mem_of_getElem? (i := 1) rfl)) rfl dX6_begins_14 ?_
    refine lv_topi (fun v7 ev7 => ?_)
    have dv7 : dkN [(0, 15)] v7 := by rw [ev7]; exact f6
    refine lv_iload_n hx hb dX6_begins_17 rfl (lv_at hl 1 rfl) ?_
    refine dk_ist (k := 353) hx hb hK hW (fun _ => rfl) (by decide) hS (dkN_in (n := 16) dv7 rfl) dX6_begins_18 (fun I8 H8 L8 eI8 hW hS => ?_)
    have hO := dkO_set hO eI8 (dkN_sub dp0 rfl)
    have hF := dkF_set hF eI8 (dkIn_v dv7 rfl)
    refine lv_aload_n hx hb dX6_begins_19 rfl (lv_at hl 0 rfl) ?_
    refine lv_dup hx hb dX6_begins_20 rfl ?_
    refine dk_get (k := 340) hx hb hts iX6_begins_6 hown hK (dk_at340 hW) rfl 25 (by decide) (hts (.fieldLink RX6 252 "DogKingsModel" "traced" "I") (List.mem_of_getElem? (i := 1) rfl)) rfl dX6_begins_21 ?_
    refine lv_topi (fun v9 ev9 => ?_)
    have dv9 : dkN [(0, 15)] v9 := by rw [ev9]; exact (by rw [eI8, dkU_n (by decide)]; exact f6)
    refine lv_iconst (v := 1) hx hb dX6_begins_24 (by decide) ?_
    refine lv_iadd hx hb dX6_begins_25 ?_
    refine lv_topi (fun v10 ev10 => ?_)
    have dv10 : dkN [(1, 16)] v10 := by rw [ev10]; exact dkN_add dv9 (dkN_lit (x := 1) (1) rfl) rfl
    refine dk_put (k := 340) hx hb hts iX6_begins_6 tyX6 tyX6_ok nmX6 hown hK hW (dk_at340 hW) hS rfl 25 (by decide) (hts (.fieldLink RX6 252 "DogKingsModel" "traced" "I") (List.mem_of_getElem? (i := 1) rfl)) rfl rfl (Nat.le_of_ble_eq_true rfl) rfl dX6_begins_26 (fun I11 H11 L11 eI11 hW hS => ?_)
    have eI11 : I11 = dkU I8 340 25 v10 := eI11
    have hO := dkO_set hO eI11 (dkN_sub dv10 rfl)
    have hF := dkF_set hF eI11 rfl
    exact W.vret hx hb hr (fun t ht hW9 => ⟨⟨I11, rfl, ⟨hF, hO, ⟨(show dkN [(1, 16)] (I11 340 25) from dkN_sub (by rw [eI11, dkU_ss]; exact dv10) rfl), trivial⟩⟩, dkW_eq ht hW⟩, hS.F ht⟩) hS.2.2 dX6_begins_29
set_option maxHeartbeats 4000000 in
set_option maxRecDepth 100000 in
theorem c_X6_houndMark_0 (l : Launch) (g : dkG) (z : Nat) (I0 : dkI) (p0 : Int32) (dp0 : dkN [(0, 5)] p0)  (hO : dkOk I0) : Met l yX6_houndMark wsX6_houndMark (dkR 1) (dkPc g z [.ref (z + 340), .int p0] I0) (dkQi g z (fun r I1 => dkF [(340, 340, 25, 25), (353, 353, 0, 15)] I0 I1 ∧ dkOk I1 ∧ ((True ∧ dkN [(1, 16)] (I1 340 25) ∧ True)))) 0 0 (dkA z) := by
  refine Met.ofW (cc := cX6_houndMark) (maxL := 4) (ret := (some .int)) (by decide) rfl ?_
  intro p e s m args below meth c s₁ B hml hv
  obtain ⟨ha, hW, hK, hT⟩ := hv
  have hx := B.exec
  have hb := B.bytes
  have hr := B.returns
  have hts := atoms_spec (ws := wsX6_houndMark) B.pre
  have hown : s.vm.findClass RX6 = some m.cls := findClass_of_methodNamed B.named
  have hlocks := B.notSynchronized
  have hS : va_S (dkA z) s.heap s.heap [] := va_S.rf
  have hF : dkF [(340, 340, 25, 25), (353, 353, 0, 15)] I0 I0 := dkF_rf _ _
  have hl := lv_entry ([.ref (z + 340), .int p0]) (n := 4) (Nat.le_of_ble_eq_true rfl)
  have hgo : entryFrame m args 4 = entryFrame m ([.ref (z + 340), .int p0] : List Value).toArray 4 := by rw [ha]
  rw [hgo, lg_entry_eq]
  generalize (lg_sl ([.ref (z + 340), .int p0]) ++ List.replicate (4 - (lg_sl ([.ref (z + 340), .int p0])).length) Slot.unset).toArray = ls at hl ⊢
  have hl : lv_has ls 4 [(0, .ref (z + 340)), (1, .int p0)] := hl
  have C27 : ∀ (I : dkI) (H : Heap) (locs : List Loc) (ls : Array Slot) (x27_2 : Int32), dkW g z I H → va_S (dkA z) s.heap H locs → dkF [(340, 340, 25, 25), (353, 353, 0, 15)] I0 I → dkOk I → lv_has ls 4 [(0, .ref (z + 340)), (1, .int p0), (2, .int x27_2)] → W p l e (headSpec wsX6_houndMark (dkR 1)).room s m args below meth c H locs 0 0 (MQ below (dkQi g z (fun r I1 => dkF [(340, 340, 25, 25), (353, 353, 0, 15)] I0 I1 ∧ dkOk I1 ∧ ((True ∧ dkN [(1, 16)] (I1 340 25) ∧ True)))) args s 0 0 (dkA z)) (F0 m 27 ls []) := by
    intro I27_ H locs ls x27_2 hW hS hF_27 hO hl
    have hF := hF_27
    refine lv_aload_n hx hb dX6_houndMark_27 rfl (lv_at hl 0 rfl) ?_
    refine lv_bipush (v := 21) hx hb dX6_houndMark_28 (by decide) ?_
    refine dk_Vv (As := [.int 21]) (rest := []) ⟨hx, hb, hml, hown, hts⟩ (c_X6_begins_1 l g z I27_ 21 (dkN_lit (x := 21) (21) rfl) hO) (cwV 1 hts gX6_houndMark_X6_begins rfl rfl rfl (by decide +kernel) ⟨Nat.le_of_ble_eq_true rfl, Nat.le_of_ble_eq_true rfl⟩) (dk_at340 hW) rfl hK hT hW hS rfl hl.1 rfl (Nat.le_of_ble_eq_true rfl) dX6_houndMark_30 ⟨Nat.zero_le _, Nat.zero_le _⟩ (fun I1 H1 L1 hp1 hW hS => ?_)
    obtain ⟨hF1, hO, hc1⟩ := hp1
    have hF := dkF_call hF hF1 rfl
    obtain ⟨f1_340_25, -⟩ := hc1
    refine lv_aload_n hx hb dX6_houndMark_33 rfl (lv_at hl 0 rfl) ?_
    refine lv_bipush (v := 20) hx hb dX6_houndMark_34 (by decide) ?_
    refine dk_Vv (As := [.int 20]) (rest := []) ⟨hx, hb, hml, hown, hts⟩ (c_X6_begins_2 l g z I1 20 (dkN_lit (x := 20) (20) rfl) hO) (cwV 1 hts gX6_houndMark_X6_begins rfl rfl rfl (by decide +kernel) ⟨Nat.le_of_ble_eq_true rfl, Nat.le_of_ble_eq_true rfl⟩) (dk_at340 hW) rfl hK hT hW hS rfl hl.1 rfl (Nat.le_of_ble_eq_true rfl) dX6_houndMark_36 ⟨Nat.zero_le _, Nat.zero_le _⟩ (fun I2 H2 L2 hp2 hW hS => ?_)
    obtain ⟨hF2, hO, hc2⟩ := hp2
    have hF := dkF_call hF hF2 rfl
    obtain ⟨f2_340_25, -⟩ := hc2
    refine lv_iload_n hx hb dX6_houndMark_39 rfl (lv_at hl 1 rfl) ?_
    refine lv_aload_n hx hb dX6_houndMark_40 rfl (lv_at hl 0 rfl) ?_
    refine dk_get (k := 340) hx hb hts iX6_houndMark_6 hown hK (dk_at340 hW) rfl 13 (by decide) (hts (.fieldLink RX6 25 "DogKingsModel" "now" "[I") (List.mem_of_getElem? (i := 1) rfl)) rfl dX6_houndMark_41 ?_
    refine lv_bipush (v := 36) hx hb dX6_houndMark_44 (by decide) ?_
    refine lv_iconst (v := 3) hx hb dX6_houndMark_46 (by decide) ?_
    refine lv_iload_n hx hb dX6_houndMark_47 rfl (lv_at hl 1 rfl) ?_
    refine lv_imul hx hb dX6_houndMark_48 ?_
    refine lv_topi (fun v3 ev3 => ?_)
    have dv3 : dkN [(0, 0), (3, 3), (6, 6), (9, 9), (12, 12), (15, 15)] v3 := by rw [ev3]; exact dkN_mulPt 3 (dkN_lit (x := 3) (3) rfl) dp0 rfl
    refine lv_iadd hx hb dX6_houndMark_49 ?_
    refine lv_topi (fun v4 ev4 => ?_)
    have dv4 : dkN [(36, 36), (39, 39), (42, 42), (45, 45), (48, 48), (51, 51)] v4 := by rw [ev4]; exact dkN_add (dkN_lit (x := 36) (36) rfl) dv3 rfl
    refine lv_iconst (v := 2) hx hb dX6_houndMark_50 (by decide) ?_
    refine lv_iadd hx hb dX6_houndMark_51 ?_
    refine lv_topi (fun v5 ev5 => ?_)
    have dv5 : dkN [(38, 38), (41, 41), (44, 44), (47, 47), (50, 50), (53, 53)] v5 := by rw [ev5]; exact dkN_add dv4 (dkN_lit (x := 2) (2) rfl) rfl
    refine dk_ild (k := 346) hx hb hK (dk_at346 hW) (dkN_in (n := 54) dv5 rfl) dX6_houndMark_52 ?_
    refine lv_topi (fun v6 ev6 => ?_)
    refine lv_iadd hx hb dX6_houndMark_53 ?_
    refine lv_topi (fun v7 ev7 => ?_)
    refine lv_istore_n (lv' := [(3, .int v7), (0, .ref (z + 340)), (1, .int p0), (2, .int x27_2)]) hx hb dX6_houndMark_54 rfl hl (by decide) rfl (fun ls hl => ?_)
    refine lv_iload_n hx hb dX6_houndMark_55 rfl (lv_at hl 3 rfl) ?_
    refine lv_iconst (v := 2) hx hb dX6_houndMark_56 (by decide) ?_
    refine lv_icmp_ne (tgt := 66) hx hb dX6_houndMark_57 (by decide) (fun c8 => ?_) (fun c8 => ?_)
    ·
      have d9 : dkN [(-2147483648, 1), (3, 2147483647)] x27_2 := dkN_ne1 (2) (dkN_top x27_2) (dkN_lit (x := 2) (2) rfl) (dk_ne c8) rfl
      refine lv_iload_n hx hb dX6_houndMark_66 rfl (lv_at hl 3 rfl) ?_
      refine lv_iconst (v := 3) hx hb dX6_houndMark_67 (by decide) ?_
      refine lv_icmp_ne (tgt := 79) hx hb dX6_houndMark_68 (by decide) (fun c10 => ?_) (fun c10 => ?_)
      ·
        have d11 : dkN [(-2147483648, 1), (4, 2147483647)] x27_2 := dkN_ne1 (3) d9 (dkN_lit (x := 3) (3) rfl) (dk_ne c10) rfl
        refine lv_iload_n hx hb dX6_houndMark_79 rfl (lv_at hl 0 rfl) ?_
        exact W.iret (v := v7) hx hb hr (fun t ht hW9 => ⟨⟨v7, I2, rfl, ⟨hF, hO, ⟨trivial, (show dkN [(1, 16)] (I2 340 25) from dkN_sub f2_340_25 rfl), trivial⟩⟩, dkW_eq ht hW⟩, hS.F ht⟩) hS.2.2 dX6_houndMark_80
      ·
        have d12 : dkN [(3, 3)] x27_2 := dkN_eq1 d9 (dkN_lit (x := 3) (3) rfl) (congrArg Int32.toInt c10) rfl
        refine lv_iload_n hx hb dX6_houndMark_71 rfl (lv_at hl 0 rfl) ?_
        refine lv_sipush (v := 1000) hx hb dX6_houndMark_72 (by decide) ?_
        refine lv_isub hx hb dX6_houndMark_75 ?_
        refine lv_topi (fun v13 ev13 => ?_)
        refine lv_goto (tgt := 80) hx hb dX6_houndMark_76 (by decide) ?_
        exact W.iret (v := v13) hx hb hr (fun t ht hW9 => ⟨⟨v13, I2, rfl, ⟨hF, hO, ⟨trivial, (show dkN [(1, 16)] (I2 340 25) from dkN_sub f2_340_25 rfl), trivial⟩⟩, dkW_eq ht hW⟩, hS.F ht⟩) hS.2.2 dX6_houndMark_80
    ·
      have d14 : dkN [(2, 2)] x27_2 := dkN_eq1 (dkN_top x27_2) (dkN_lit (x := 2) (2) rfl) (congrArg Int32.toInt c8) rfl
      refine lv_iconst (v := 2) hx hb dX6_houndMark_60 (by decide) ?_
      refine lv_iload_n hx hb dX6_houndMark_61 rfl (lv_at hl 0 rfl) ?_
      refine lv_imul hx hb dX6_houndMark_62 ?_
      refine lv_topi (fun v15 ev15 => ?_)
      refine lv_goto (tgt := 80) hx hb dX6_houndMark_63 (by decide) ?_
      exact W.iret (v := v15) hx hb hr (fun t ht hW9 => ⟨⟨v15, I2, rfl, ⟨hF, hO, ⟨trivial, (show dkN [(1, 16)] (I2 340 25) from dkN_sub f2_340_25 rfl), trivial⟩⟩, dkW_eq ht hW⟩, hS.F ht⟩) hS.2.2 dX6_houndMark_80
  have C24 : ∀ (I : dkI) (H : Heap) (locs : List Loc) (ls : Array Slot) (x24_2 : Int32) (x24_s0 : Int32), dkW g z I H → va_S (dkA z) s.heap H locs → dkF [(340, 340, 25, 25), (353, 353, 0, 15)] I0 I → dkOk I → dkN [(-2147483648, 0), (2, 2147483647)] x24_2 → dkN [(22, 22), (24, 24)] x24_s0 → lv_has ls 4 [(0, .ref (z + 340)), (1, .int p0), (2, .int x24_2)] → W p l e (headSpec wsX6_houndMark (dkR 1)).room s m args below meth c H locs 0 0 (MQ below (dkQi g z (fun r I1 => dkF [(340, 340, 25, 25), (353, 353, 0, 15)] I0 I1 ∧ dkOk I1 ∧ ((True ∧ dkN [(1, 16)] (I1 340 25) ∧ True)))) args s 0 0 (dkA z)) (F0 m 24 ls [.int x24_s0, .ref (z + 340)]) := by
    intro I24_ H locs ls x24_2 x24_s0 hW hS hF_24 hO k24_0 k24_1 hl
    have hF := hF_24
    refine dk_Vv (As := [.int x24_s0]) (rest := []) ⟨hx, hb, hml, hown, hts⟩ (c_X6_begins_0 l g z I24_ x24_s0 k24_1 hO) (cwV 1 hts gX6_houndMark_X6_begins rfl rfl rfl (by decide +kernel) ⟨Nat.le_of_ble_eq_true rfl, Nat.le_of_ble_eq_true rfl⟩) (dk_at340 hW) rfl hK hT hW hS rfl hl.1 rfl (Nat.le_of_ble_eq_true rfl) dX6_houndMark_24 ⟨Nat.zero_le _, Nat.zero_le _⟩ (fun I16 H16 L16 hp16 hW hS => ?_)
    obtain ⟨hF16, hO, hc16⟩ := hp16
    have hF := dkF_call hF hF16 rfl
    obtain ⟨f16_340_25, -⟩ := hc16
    exact C27 I16 _ _ ls x24_2 hW hS hF hO  (lv_sub hl [0, 1, 2] rfl)
  refine lv_aload_n hx hb dX6_houndMark_0 rfl (lv_at hl 0 rfl) ?_
  refine lv_iload_n hx hb dX6_houndMark_1 rfl (lv_at hl 1 rfl) ?_
  refine dk_Vi (As := [.int p0]) (rest := []) ⟨hx, hb, hml, hown, hts⟩ (c_X6_kindIn_0 l g z I0 p0 dp0 hO) (cwV 1 hts gX6_houndMark_X6_kindIn rfl rfl rfl (by decide +kernel) ⟨Nat.le_of_ble_eq_true rfl, Nat.le_of_ble_eq_true rfl⟩) (dk_at340 hW) rfl hK hT hW hS rfl hl.1 rfl (Nat.le_of_ble_eq_true rfl) dX6_houndMark_2 ⟨Nat.zero_le _, Nat.zero_le _⟩ (fun v17 I17 H17 L17 hp17 hW hS => ?_)
  obtain ⟨hF17, hO, hc17⟩ := hp17
  have hF := dkF_call hF hF17 rfl
  obtain ⟨_, -⟩ := hc17
  refine lv_istore_n (lv' := [(2, .int v17), (0, .ref (z + 340)), (1, .int p0)]) hx hb dX6_houndMark_5 rfl hl (by decide) rfl (fun ls hl => ?_)
  refine lv_iload_n hx hb dX6_houndMark_6 rfl (lv_at hl 0 rfl) ?_
  refine lv_iconst (v := 1) hx hb dX6_houndMark_7 (by decide) ?_
  refine lv_icmp_eq (tgt := 27) hx hb dX6_houndMark_8 (by decide) (fun c18 => ?_) (fun c18 => ?_)
  ·
    have d19 : dkN [(1, 1)] v17 := dkN_eq1 (dkN_top v17) (dkN_lit (x := 1) (1) rfl) (congrArg Int32.toInt c18) rfl
    exact C27 I17 _ _ ls v17 hW hS hF hO  (lv_sub hl [1, 2, 0] rfl)
  ·
    have d20 : dkN [(-2147483648, 0), (2, 2147483647)] v17 := dkN_ne1 (1) (dkN_top v17) (dkN_lit (x := 1) (1) rfl) (dk_ne c18) rfl
    refine lv_aload_n hx hb dX6_houndMark_11 rfl (lv_at hl 1 rfl) ?_
    refine lv_iload_n hx hb dX6_houndMark_12 rfl (lv_at hl 0 rfl) ?_
    refine lv_iconst (v := 2) hx hb dX6_houndMark_13 (by decide) ?_
    refine lv_icmp_ne (tgt := 22) hx hb dX6_houndMark_14 (by decide) (fun c21 => ?_) (fun c21 => ?_)
    ·
      have d22 : dkN [(-2147483648, 0), (3, 2147483647)] v17 := dkN_ne1 (2) d20 (dkN_lit (x := 2) (2) rfl) (dk_ne c21) rfl
      refine lv_bipush (v := 22) hx hb dX6_houndMark_22 (by decide) ?_
      exact C24 I17 _ _ ls v17 22 hW hS hF hO (dkN_sub d22 rfl) (dkN_sub (dkN_lit (x := 22) (22) rfl) rfl) (lv_sub hl [1, 2, 0] rfl)
    ·
      have d23 : dkN [(2, 2)] v17 := dkN_eq1 d20 (dkN_lit (x := 2) (2) rfl) (congrArg Int32.toInt c21) rfl
      refine lv_bipush (v := 24) hx hb dX6_houndMark_17 (by decide) ?_
      refine lv_goto (tgt := 24) hx hb dX6_houndMark_19 (by decide) ?_
      exact C24 I17 _ _ ls v17 24 hW hS hF hO (dkN_sub d23 rfl) (dkN_sub (dkN_lit (x := 24) (24) rfl) rfl) (lv_sub hl [1, 2, 0] rfl)
set_option maxHeartbeats 4000000 in
set_option maxRecDepth 100000 in
theorem c_X6_begins_3 (l : Launch) (g : dkG) (z : Nat) (I0 : dkI) (p0 : Int32) (dp0 : dkN [(23, 23)] p0)  (hO : dkOk I0) : Met l yX6_begins wsX6_begins (dkR 0) (dkPc g z [.ref (z + 340), .int p0] I0) (dkQv g z (fun I1 => dkF [(340, 340, 25, 25), (353, 353, 0, 15)] I0 I1 ∧ dkOk I1 ∧ ((dkN [(1, 16)] (I1 340 25) ∧ True)))) 0 0 (dkA z) := by
  refine Met.ofW (cc := cX6_begins) (maxL := 2) (ret := none) (by decide) rfl ?_
  intro p e s m args below meth c s₁ B hml hv
  obtain ⟨ha, hW, hK, hT⟩ := hv
  have hx := B.exec
  have hb := B.bytes
  have hr := B.returns
  have hts := atoms_spec (ws := wsX6_begins) B.pre
  have hown : s.vm.findClass RX6 = some m.cls := findClass_of_methodNamed B.named
  have hlocks := B.notSynchronized
  have hS : va_S (dkA z) s.heap s.heap [] := va_S.rf
  have hF : dkF [(340, 340, 25, 25), (353, 353, 0, 15)] I0 I0 := dkF_rf _ _
  have hl := lv_entry ([.ref (z + 340), .int p0]) (n := 2) (Nat.le_of_ble_eq_true rfl)
  have hgo : entryFrame m args 2 = entryFrame m ([.ref (z + 340), .int p0] : List Value).toArray 2 := by rw [ha]
  rw [hgo, lg_entry_eq]
  generalize (lg_sl ([.ref (z + 340), .int p0]) ++ List.replicate (2 - (lg_sl ([.ref (z + 340), .int p0])).length) Slot.unset).toArray = ls at hl ⊢
  have hl : lv_has ls 2 [(0, .ref (z + 340)), (1, .int p0)] := hl
  refine lv_aload_n hx hb dX6_begins_0 rfl (lv_at hl 0 rfl) ?_
  refine dk_get (k := 340) hx hb hts iX6_begins_6 hown hK (dk_at340 hW) rfl 25 (by decide) (hts (.fieldLink RX6 252 "DogKingsModel" "traced" "I") (List.mem_of_getElem? (i := 1) rfl)) rfl dX6_begins_1 ?_
  refine lv_topi (fun v1 ev1 => ?_)
  have dv1 : dkN [(0, 16)] v1 := by rw [ev1]; exact (hO 340 25)
  refine lv_bipush (v := 16) hx hb dX6_begins_4 (by decide) ?_
  refine lv_icmp_ge (tgt := 29) hx hb dX6_begins_6 (by decide) (fun c2 => ?_) (fun c2 => ?_)
  ·
    have d3 : dkN [(16, 16)] v1 := dkN_le2 0 (dkN_lit (x := 16) (16) rfl) dv1 (dkc_le c2) rfl
    have f4 : dkN [(16, 16)] (I0 340 25) := by rw [← ev1]; exact d3
    exact W.vret hx hb hr (fun t ht hW9 => ⟨⟨I0, rfl, ⟨hF, hO, ⟨(show dkN [(1, 16)] (I0 340 25) from dkN_sub f4 rfl), trivial⟩⟩, dkW_eq ht hW⟩, hS.F ht⟩) hS.2.2 dX6_begins_29
  ·
    have d5 : dkN [(0, 15)] v1 := dkN_le1 1 dv1 (dkN_lit (x := 16) (16) rfl) (dkc_nle c2) rfl
    have f6 : dkN [(0, 15)] (I0 340 25) := by rw [← ev1]; exact d5
    refine lv_aload_n hx hb dX6_begins_9 rfl (lv_at hl 0 rfl) ?_
    refine dk_get (k := 340) hx hb hts iX6_begins_6 hown hK (dk_at340 hW) rfl 24 (by decide) (hts (.fieldLink RX6 47 "DogKingsModel" "trace" "[I") (List.mem_of_getElem? (i := 2) rfl)) rfl dX6_begins_10 ?_
    refine lv_aload_n hx hb dX6_begins_13 rfl (lv_at hl 0 rfl) ?_
    refine dk_get (k := 340) hx hb hts iX6_begins_6 hown hK (dk_at340 hW) rfl 25 (by decide) (hts (.fieldLink RX6 252 "DogKingsModel" "traced" "I") (List.mem_of_getElem? (i := 1) rfl)) rfl dX6_begins_14 ?_
    refine lv_topi (fun v7 ev7 => ?_)
    have dv7 : dkN [(0, 15)] v7 := by rw [ev7]; exact f6
    refine lv_iload_n hx hb dX6_begins_17 rfl (lv_at hl 1 rfl) ?_
    refine dk_ist (k := 353) hx hb hK hW (fun _ => rfl) (by decide) hS (dkN_in (n := 16) dv7 rfl) dX6_begins_18 (fun I8 H8 L8 eI8 hW hS => ?_)
    have hO := dkO_set hO eI8 (dkN_sub dp0 rfl)
    have hF := dkF_set hF eI8 (dkIn_v dv7 rfl)
    refine lv_aload_n hx hb dX6_begins_19 rfl (lv_at hl 0 rfl) ?_
    refine lv_dup hx hb dX6_begins_20 rfl ?_
    refine dk_get (k := 340) hx hb hts iX6_begins_6 hown hK (dk_at340 hW) rfl 25 (by decide) (hts (.fieldLink RX6 252 "DogKingsModel" "traced" "I") (List.mem_of_getElem? (i := 1) rfl)) rfl dX6_begins_21 ?_
    refine lv_topi (fun v9 ev9 => ?_)
    have dv9 : dkN [(0, 15)] v9 := by rw [ev9]; exact (by rw [eI8, dkU_n (by decide)]; exact f6)
    refine lv_iconst (v := 1) hx hb dX6_begins_24 (by decide) ?_
    refine lv_iadd hx hb dX6_begins_25 ?_
    refine lv_topi (fun v10 ev10 => ?_)
    have dv10 : dkN [(1, 16)] v10 := by rw [ev10]; exact dkN_add dv9 (dkN_lit (x := 1) (1) rfl) rfl
    refine dk_put (k := 340) hx hb hts iX6_begins_6 tyX6 tyX6_ok nmX6 hown hK hW (dk_at340 hW) hS rfl 25 (by decide) (hts (.fieldLink RX6 252 "DogKingsModel" "traced" "I") (List.mem_of_getElem? (i := 1) rfl)) rfl rfl (Nat.le_of_ble_eq_true rfl) rfl dX6_begins_26 (fun I11 H11 L11 eI11 hW hS => ?_)
    have eI11 : I11 = dkU I8 340 25 v10 := eI11
    have hO := dkO_set hO eI11 (dkN_sub dv10 rfl)
    have hF := dkF_set hF eI11 rfl
    exact W.vret hx hb hr (fun t ht hW9 => ⟨⟨I11, rfl, ⟨hF, hO, ⟨(show dkN [(1, 16)] (I11 340 25) from dkN_sub (by rw [eI11, dkU_ss]; exact dv10) rfl), trivial⟩⟩, dkW_eq ht hW⟩, hS.F ht⟩) hS.2.2 dX6_begins_29
set_option maxHeartbeats 4000000 in
set_option maxRecDepth 100000 in
theorem c_X6_begins_4 (l : Launch) (g : dkG) (z : Nat) (I0 : dkI) (p0 : Int32) (dp0 : dkN [(14, 14)] p0)  (hO : dkOk I0) : Met l yX6_begins wsX6_begins (dkR 0) (dkPc g z [.ref (z + 340), .int p0] I0) (dkQv g z (fun I1 => dkF [(340, 340, 25, 25), (353, 353, 0, 15)] I0 I1 ∧ dkOk I1 ∧ ((dkN [(1, 16)] (I1 340 25) ∧ True)))) 0 0 (dkA z) := by
  refine Met.ofW (cc := cX6_begins) (maxL := 2) (ret := none) (by decide) rfl ?_
  intro p e s m args below meth c s₁ B hml hv
  obtain ⟨ha, hW, hK, hT⟩ := hv
  have hx := B.exec
  have hb := B.bytes
  have hr := B.returns
  have hts := atoms_spec (ws := wsX6_begins) B.pre
  have hown : s.vm.findClass RX6 = some m.cls := findClass_of_methodNamed B.named
  have hlocks := B.notSynchronized
  have hS : va_S (dkA z) s.heap s.heap [] := va_S.rf
  have hF : dkF [(340, 340, 25, 25), (353, 353, 0, 15)] I0 I0 := dkF_rf _ _
  have hl := lv_entry ([.ref (z + 340), .int p0]) (n := 2) (Nat.le_of_ble_eq_true rfl)
  have hgo : entryFrame m args 2 = entryFrame m ([.ref (z + 340), .int p0] : List Value).toArray 2 := by rw [ha]
  rw [hgo, lg_entry_eq]
  generalize (lg_sl ([.ref (z + 340), .int p0]) ++ List.replicate (2 - (lg_sl ([.ref (z + 340), .int p0])).length) Slot.unset).toArray = ls at hl ⊢
  have hl : lv_has ls 2 [(0, .ref (z + 340)), (1, .int p0)] := hl
  refine lv_aload_n hx hb dX6_begins_0 rfl (lv_at hl 0 rfl) ?_
  refine dk_get (k := 340) hx hb hts iX6_begins_6 hown hK (dk_at340 hW) rfl 25 (by decide) (hts (.fieldLink RX6 252 "DogKingsModel" "traced" "I") (List.mem_of_getElem? (i := 1) rfl)) rfl dX6_begins_1 ?_
  refine lv_topi (fun v1 ev1 => ?_)
  have dv1 : dkN [(0, 16)] v1 := by rw [ev1]; exact (hO 340 25)
  refine lv_bipush (v := 16) hx hb dX6_begins_4 (by decide) ?_
  refine lv_icmp_ge (tgt := 29) hx hb dX6_begins_6 (by decide) (fun c2 => ?_) (fun c2 => ?_)
  ·
    have d3 : dkN [(16, 16)] v1 := dkN_le2 0 (dkN_lit (x := 16) (16) rfl) dv1 (dkc_le c2) rfl
    have f4 : dkN [(16, 16)] (I0 340 25) := by rw [← ev1]; exact d3
    exact W.vret hx hb hr (fun t ht hW9 => ⟨⟨I0, rfl, ⟨hF, hO, ⟨(show dkN [(1, 16)] (I0 340 25) from dkN_sub f4 rfl), trivial⟩⟩, dkW_eq ht hW⟩, hS.F ht⟩) hS.2.2 dX6_begins_29
  ·
    have d5 : dkN [(0, 15)] v1 := dkN_le1 1 dv1 (dkN_lit (x := 16) (16) rfl) (dkc_nle c2) rfl
    have f6 : dkN [(0, 15)] (I0 340 25) := by rw [← ev1]; exact d5
    refine lv_aload_n hx hb dX6_begins_9 rfl (lv_at hl 0 rfl) ?_
    refine dk_get (k := 340) hx hb hts iX6_begins_6 hown hK (dk_at340 hW) rfl 24 (by decide) (hts (.fieldLink RX6 47 "DogKingsModel" "trace" "[I") (List.mem_of_getElem? (i := 2) rfl)) rfl dX6_begins_10 ?_
    refine lv_aload_n hx hb dX6_begins_13 rfl (lv_at hl 0 rfl) ?_
    refine dk_get (k := 340) hx hb hts iX6_begins_6 hown hK (dk_at340 hW) rfl 25 (by decide) (hts (.fieldLink RX6 252 "DogKingsModel" "traced" "I") (List.mem_of_getElem? (i := 1) rfl)) rfl dX6_begins_14 ?_
    refine lv_topi (fun v7 ev7 => ?_)
    have dv7 : dkN [(0, 15)] v7 := by rw [ev7]; exact f6
    refine lv_iload_n hx hb dX6_begins_17 rfl (lv_at hl 1 rfl) ?_
    refine dk_ist (k := 353) hx hb hK hW (fun _ => rfl) (by decide) hS (dkN_in (n := 16) dv7 rfl) dX6_begins_18 (fun I8 H8 L8 eI8 hW hS => ?_)
    have hO := dkO_set hO eI8 (dkN_sub dp0 rfl)
    have hF := dkF_set hF eI8 (dkIn_v dv7 rfl)
    refine lv_aload_n hx hb dX6_begins_19 rfl (lv_at hl 0 rfl) ?_
    refine lv_dup hx hb dX6_begins_20 rfl ?_
    refine dk_get (k := 340) hx hb hts iX6_begins_6 hown hK (dk_at340 hW) rfl 25 (by decide) (hts (.fieldLink RX6 252 "DogKingsModel" "traced" "I") (List.mem_of_getElem? (i := 1) rfl)) rfl dX6_begins_21 ?_
    refine lv_topi (fun v9 ev9 => ?_)
    have dv9 : dkN [(0, 15)] v9 := by rw [ev9]; exact (by rw [eI8, dkU_n (by decide)]; exact f6)
    refine lv_iconst (v := 1) hx hb dX6_begins_24 (by decide) ?_
    refine lv_iadd hx hb dX6_begins_25 ?_
    refine lv_topi (fun v10 ev10 => ?_)
    have dv10 : dkN [(1, 16)] v10 := by rw [ev10]; exact dkN_add dv9 (dkN_lit (x := 1) (1) rfl) rfl
    refine dk_put (k := 340) hx hb hts iX6_begins_6 tyX6 tyX6_ok nmX6 hown hK hW (dk_at340 hW) hS rfl 25 (by decide) (hts (.fieldLink RX6 252 "DogKingsModel" "traced" "I") (List.mem_of_getElem? (i := 1) rfl)) rfl rfl (Nat.le_of_ble_eq_true rfl) rfl dX6_begins_26 (fun I11 H11 L11 eI11 hW hS => ?_)
    have eI11 : I11 = dkU I8 340 25 v10 := eI11
    have hO := dkO_set hO eI11 (dkN_sub dv10 rfl)
    have hF := dkF_set hF eI11 rfl
    exact W.vret hx hb hr (fun t ht hW9 => ⟨⟨I11, rfl, ⟨hF, hO, ⟨(show dkN [(1, 16)] (I11 340 25) from dkN_sub (by rw [eI11, dkU_ss]; exact dv10) rfl), trivial⟩⟩, dkW_eq ht hW⟩, hS.F ht⟩) hS.2.2 dX6_begins_29
set_option maxHeartbeats 4000000 in
set_option maxRecDepth 100000 in
theorem c_X6_begins_5 (l : Launch) (g : dkG) (z : Nat) (I0 : dkI) (p0 : Int32) (dp0 : dkN [(13, 13)] p0)  (hO : dkOk I0) : Met l yX6_begins wsX6_begins (dkR 0) (dkPc g z [.ref (z + 340), .int p0] I0) (dkQv g z (fun I1 => dkF [(340, 340, 25, 25), (353, 353, 0, 15)] I0 I1 ∧ dkOk I1 ∧ ((dkN [(1, 16)] (I1 340 25) ∧ True)))) 0 0 (dkA z) := by
  refine Met.ofW (cc := cX6_begins) (maxL := 2) (ret := none) (by decide) rfl ?_
  intro p e s m args below meth c s₁ B hml hv
  obtain ⟨ha, hW, hK, hT⟩ := hv
  have hx := B.exec
  have hb := B.bytes
  have hr := B.returns
  have hts := atoms_spec (ws := wsX6_begins) B.pre
  have hown : s.vm.findClass RX6 = some m.cls := findClass_of_methodNamed B.named
  have hlocks := B.notSynchronized
  have hS : va_S (dkA z) s.heap s.heap [] := va_S.rf
  have hF : dkF [(340, 340, 25, 25), (353, 353, 0, 15)] I0 I0 := dkF_rf _ _
  have hl := lv_entry ([.ref (z + 340), .int p0]) (n := 2) (Nat.le_of_ble_eq_true rfl)
  have hgo : entryFrame m args 2 = entryFrame m ([.ref (z + 340), .int p0] : List Value).toArray 2 := by rw [ha]
  rw [hgo, lg_entry_eq]
  generalize (lg_sl ([.ref (z + 340), .int p0]) ++ List.replicate (2 - (lg_sl ([.ref (z + 340), .int p0])).length) Slot.unset).toArray = ls at hl ⊢
  have hl : lv_has ls 2 [(0, .ref (z + 340)), (1, .int p0)] := hl
  refine lv_aload_n hx hb dX6_begins_0 rfl (lv_at hl 0 rfl) ?_
  refine dk_get (k := 340) hx hb hts iX6_begins_6 hown hK (dk_at340 hW) rfl 25 (by decide) (hts (.fieldLink RX6 252 "DogKingsModel" "traced" "I") (List.mem_of_getElem? (i := 1) rfl)) rfl dX6_begins_1 ?_
  refine lv_topi (fun v1 ev1 => ?_)
  have dv1 : dkN [(0, 16)] v1 := by rw [ev1]; exact (hO 340 25)
  refine lv_bipush (v := 16) hx hb dX6_begins_4 (by decide) ?_
  refine lv_icmp_ge (tgt := 29) hx hb dX6_begins_6 (by decide) (fun c2 => ?_) (fun c2 => ?_)
  ·
    have d3 : dkN [(16, 16)] v1 := dkN_le2 0 (dkN_lit (x := 16) (16) rfl) dv1 (dkc_le c2) rfl
    have f4 : dkN [(16, 16)] (I0 340 25) := by rw [← ev1]; exact d3
    exact W.vret hx hb hr (fun t ht hW9 => ⟨⟨I0, rfl, ⟨hF, hO, ⟨(show dkN [(1, 16)] (I0 340 25) from dkN_sub f4 rfl), trivial⟩⟩, dkW_eq ht hW⟩, hS.F ht⟩) hS.2.2 dX6_begins_29
  ·
    have d5 : dkN [(0, 15)] v1 := dkN_le1 1 dv1 (dkN_lit (x := 16) (16) rfl) (dkc_nle c2) rfl
    have f6 : dkN [(0, 15)] (I0 340 25) := by rw [← ev1]; exact d5
    refine lv_aload_n hx hb dX6_begins_9 rfl (lv_at hl 0 rfl) ?_
    refine dk_get (k := 340) hx hb hts iX6_begins_6 hown hK (dk_at340 hW) rfl 24 (by decide) (hts (.fieldLink RX6 47 "DogKingsModel" "trace" "[I") (List.mem_of_getElem? (i := 2) rfl)) rfl dX6_begins_10 ?_
    refine lv_aload_n hx hb dX6_begins_13 rfl (lv_at hl 0 rfl) ?_
    refine dk_get (k := 340) hx hb hts iX6_begins_6 hown hK (dk_at340 hW) rfl 25 (by decide) (hts (.fieldLink RX6 252 "DogKingsModel" "traced" "I") (List.mem_of_getElem? (i := 1) rfl)) rfl dX6_begins_14 ?_
    refine lv_topi (fun v7 ev7 => ?_)
    have dv7 : dkN [(0, 15)] v7 := by rw [ev7]; exact f6
    refine lv_iload_n hx hb dX6_begins_17 rfl (lv_at hl 1 rfl) ?_
    refine dk_ist (k := 353) hx hb hK hW (fun _ => rfl) (by decide) hS (dkN_in (n := 16) dv7 rfl) dX6_begins_18 (fun I8 H8 L8 eI8 hW hS => ?_)
    have hO := dkO_set hO eI8 (dkN_sub dp0 rfl)
    have hF := dkF_set hF eI8 (dkIn_v dv7 rfl)
    refine lv_aload_n hx hb dX6_begins_19 rfl (lv_at hl 0 rfl) ?_
    refine lv_dup hx hb dX6_begins_20 rfl ?_
    refine dk_get (k := 340) hx hb hts iX6_begins_6 hown hK (dk_at340 hW) rfl 25 (by decide) (hts (.fieldLink RX6 252 "DogKingsModel" "traced" "I") (List.mem_of_getElem? (i := 1) rfl)) rfl dX6_begins_21 ?_
    refine lv_topi (fun v9 ev9 => ?_)
    have dv9 : dkN [(0, 15)] v9 := by rw [ev9]; exact (by rw [eI8, dkU_n (by decide)]; exact f6)
    refine lv_iconst (v := 1) hx hb dX6_begins_24 (by decide) ?_
    refine lv_iadd hx hb dX6_begins_25 ?_
    refine lv_topi (fun v10 ev10 => ?_)
    have dv10 : dkN [(1, 16)] v10 := by rw [ev10]; exact dkN_add dv9 (dkN_lit (x := 1) (1) rfl) rfl
    refine dk_put (k := 340) hx hb hts iX6_begins_6 tyX6 tyX6_ok nmX6 hown hK hW (dk_at340 hW) hS rfl 25 (by decide) (hts (.fieldLink RX6 252 "DogKingsModel" "traced" "I") (List.mem_of_getElem? (i := 1) rfl)) rfl rfl (Nat.le_of_ble_eq_true rfl) rfl dX6_begins_26 (fun I11 H11 L11 eI11 hW hS => ?_)
    have eI11 : I11 = dkU I8 340 25 v10 := eI11
    have hO := dkO_set hO eI11 (dkN_sub dv10 rfl)
    have hF := dkF_set hF eI11 rfl
    exact W.vret hx hb hr (fun t ht hW9 => ⟨⟨I11, rfl, ⟨hF, hO, ⟨(show dkN [(1, 16)] (I11 340 25) from dkN_sub (by rw [eI11, dkU_ss]; exact dv10) rfl), trivial⟩⟩, dkW_eq ht hW⟩, hS.F ht⟩) hS.2.2 dX6_begins_29
set_option maxHeartbeats 4000000 in
set_option maxRecDepth 100000 in
theorem c_X6_begins_6 (l : Launch) (g : dkG) (z : Nat) (I0 : dkI) (p0 : Int32) (dp0 : dkN [(10, 10)] p0)  (hO : dkOk I0) : Met l yX6_begins wsX6_begins (dkR 0) (dkPc g z [.ref (z + 340), .int p0] I0) (dkQv g z (fun I1 => dkF [(340, 340, 25, 25), (353, 353, 0, 15)] I0 I1 ∧ dkOk I1 ∧ ((dkN [(1, 16)] (I1 340 25) ∧ True)))) 0 0 (dkA z) := by
  refine Met.ofW (cc := cX6_begins) (maxL := 2) (ret := none) (by decide) rfl ?_
  intro p e s m args below meth c s₁ B hml hv
  obtain ⟨ha, hW, hK, hT⟩ := hv
  have hx := B.exec
  have hb := B.bytes
  have hr := B.returns
  have hts := atoms_spec (ws := wsX6_begins) B.pre
  have hown : s.vm.findClass RX6 = some m.cls := findClass_of_methodNamed B.named
  have hlocks := B.notSynchronized
  have hS : va_S (dkA z) s.heap s.heap [] := va_S.rf
  have hF : dkF [(340, 340, 25, 25), (353, 353, 0, 15)] I0 I0 := dkF_rf _ _
  have hl := lv_entry ([.ref (z + 340), .int p0]) (n := 2) (Nat.le_of_ble_eq_true rfl)
  have hgo : entryFrame m args 2 = entryFrame m ([.ref (z + 340), .int p0] : List Value).toArray 2 := by rw [ha]
  rw [hgo, lg_entry_eq]
  generalize (lg_sl ([.ref (z + 340), .int p0]) ++ List.replicate (2 - (lg_sl ([.ref (z + 340), .int p0])).length) Slot.unset).toArray = ls at hl ⊢
  have hl : lv_has ls 2 [(0, .ref (z + 340)), (1, .int p0)] := hl
  refine lv_aload_n hx hb dX6_begins_0 rfl (lv_at hl 0 rfl) ?_
  refine dk_get (k := 340) hx hb hts iX6_begins_6 hown hK (dk_at340 hW) rfl 25 (by decide) (hts (.fieldLink RX6 252 "DogKingsModel" "traced" "I") (List.mem_of_getElem? (i := 1) rfl)) rfl dX6_begins_1 ?_
  refine lv_topi (fun v1 ev1 => ?_)
  have dv1 : dkN [(0, 16)] v1 := by rw [ev1]; exact (hO 340 25)
  refine lv_bipush (v := 16) hx hb dX6_begins_4 (by decide) ?_
  refine lv_icmp_ge (tgt := 29) hx hb dX6_begins_6 (by decide) (fun c2 => ?_) (fun c2 => ?_)
  ·
    have d3 : dkN [(16, 16)] v1 := dkN_le2 0 (dkN_lit (x := 16) (16) rfl) dv1 (dkc_le c2) rfl
    have f4 : dkN [(16, 16)] (I0 340 25) := by rw [← ev1]; exact d3
    exact W.vret hx hb hr (fun t ht hW9 => ⟨⟨I0, rfl, ⟨hF, hO, ⟨(show dkN [(1, 16)] (I0 340 25) from dkN_sub f4 rfl), trivial⟩⟩, dkW_eq ht hW⟩, hS.F ht⟩) hS.2.2 dX6_begins_29
  ·
    have d5 : dkN [(0, 15)] v1 := dkN_le1 1 dv1 (dkN_lit (x := 16) (16) rfl) (dkc_nle c2) rfl
    have f6 : dkN [(0, 15)] (I0 340 25) := by rw [← ev1]; exact d5
    refine lv_aload_n hx hb dX6_begins_9 rfl (lv_at hl 0 rfl) ?_
    refine dk_get (k := 340) hx hb hts iX6_begins_6 hown hK (dk_at340 hW) rfl 24 (by decide) (hts (.fieldLink RX6 47 "DogKingsModel" "trace" "[I") (List.mem_of_getElem? (i := 2) rfl)) rfl dX6_begins_10 ?_
    refine lv_aload_n hx hb dX6_begins_13 rfl (lv_at hl 0 rfl) ?_
    refine dk_get (k := 340) hx hb hts iX6_begins_6 hown hK (dk_at340 hW) rfl 25 (by decide) (hts (.fieldLink RX6 252 "DogKingsModel" "traced" "I") (List.mem_of_getElem? (i := 1) rfl)) rfl dX6_begins_14 ?_
    refine lv_topi (fun v7 ev7 => ?_)
    have dv7 : dkN [(0, 15)] v7 := by rw [ev7]; exact f6
    refine lv_iload_n hx hb dX6_begins_17 rfl (lv_at hl 1 rfl) ?_
    refine dk_ist (k := 353) hx hb hK hW (fun _ => rfl) (by decide) hS (dkN_in (n := 16) dv7 rfl) dX6_begins_18 (fun I8 H8 L8 eI8 hW hS => ?_)
    have hO := dkO_set hO eI8 (dkN_sub dp0 rfl)
    have hF := dkF_set hF eI8 (dkIn_v dv7 rfl)
    refine lv_aload_n hx hb dX6_begins_19 rfl (lv_at hl 0 rfl) ?_
    refine lv_dup hx hb dX6_begins_20 rfl ?_
    refine dk_get (k := 340) hx hb hts iX6_begins_6 hown hK (dk_at340 hW) rfl 25 (by decide) (hts (.fieldLink RX6 252 "DogKingsModel" "traced" "I") (List.mem_of_getElem? (i := 1) rfl)) rfl dX6_begins_21 ?_
    refine lv_topi (fun v9 ev9 => ?_)
    have dv9 : dkN [(0, 15)] v9 := by rw [ev9]; exact (by rw [eI8, dkU_n (by decide)]; exact f6)
    refine lv_iconst (v := 1) hx hb dX6_begins_24 (by decide) ?_
    refine lv_iadd hx hb dX6_begins_25 ?_
    refine lv_topi (fun v10 ev10 => ?_)
    have dv10 : dkN [(1, 16)] v10 := by rw [ev10]; exact dkN_add dv9 (dkN_lit (x := 1) (1) rfl) rfl
    refine dk_put (k := 340) hx hb hts iX6_begins_6 tyX6 tyX6_ok nmX6 hown hK hW (dk_at340 hW) hS rfl 25 (by decide) (hts (.fieldLink RX6 252 "DogKingsModel" "traced" "I") (List.mem_of_getElem? (i := 1) rfl)) rfl rfl (Nat.le_of_ble_eq_true rfl) rfl dX6_begins_26 (fun I11 H11 L11 eI11 hW hS => ?_)
    have eI11 : I11 = dkU I8 340 25 v10 := eI11
    have hO := dkO_set hO eI11 (dkN_sub dv10 rfl)
    have hF := dkF_set hF eI11 rfl
    exact W.vret hx hb hr (fun t ht hW9 => ⟨⟨I11, rfl, ⟨hF, hO, ⟨(show dkN [(1, 16)] (I11 340 25) from dkN_sub (by rw [eI11, dkU_ss]; exact dv10) rfl), trivial⟩⟩, dkW_eq ht hW⟩, hS.F ht⟩) hS.2.2 dX6_begins_29
set_option maxHeartbeats 4000000 in
set_option maxRecDepth 100000 in
theorem c_X6_packSize_0 (l : Launch) (g : dkG) (z : Nat) (I0 : dkI) (p0 : Int32) (dp0 : dkN [(0, 5)] p0)  (hO : dkOk I0) : Met l yX6_packSize wsX6_packSize (dkR 1) (dkPc g z [.ref (z + 340), .int p0] I0) (dkQi g z (fun r I1 => dkF [(340, 340, 25, 25), (353, 353, 0, 15)] I0 I1 ∧ dkOk I1 ∧ ((True ∧ dkN [(1, 16)] (I1 340 25) ∧ True)))) 0 0 (dkA z) := by
  refine Met.ofW (cc := cX6_packSize) (maxL := 4) (ret := (some .int)) (by decide) rfl ?_
  intro p e s m args below meth c s₁ B hml hv
  obtain ⟨ha, hW, hK, hT⟩ := hv
  have hx := B.exec
  have hb := B.bytes
  have hr := B.returns
  have hts := atoms_spec (ws := wsX6_packSize) B.pre
  have hown : s.vm.findClass RX6 = some m.cls := findClass_of_methodNamed B.named
  have hlocks := B.notSynchronized
  have hS : va_S (dkA z) s.heap s.heap [] := va_S.rf
  have hF : dkF [(340, 340, 25, 25), (353, 353, 0, 15)] I0 I0 := dkF_rf _ _
  have hl := lv_entry ([.ref (z + 340), .int p0]) (n := 4) (Nat.le_of_ble_eq_true rfl)
  have hgo : entryFrame m args 4 = entryFrame m ([.ref (z + 340), .int p0] : List Value).toArray 4 := by rw [ha]
  rw [hgo, lg_entry_eq]
  generalize (lg_sl ([.ref (z + 340), .int p0]) ++ List.replicate (4 - (lg_sl ([.ref (z + 340), .int p0])).length) Slot.unset).toArray = ls at hl ⊢
  have hl : lv_has ls 4 [(0, .ref (z + 340)), (1, .int p0)] := hl
  have C25 : ∀ (I : dkI) (H : Heap) (locs : List Loc) (ls : Array Slot) (x25_2 : Int32), dkW g z I H → va_S (dkA z) s.heap H locs → dkF [(340, 340, 25, 25), (353, 353, 0, 15)] I0 I → dkOk I → dkN [(0, 1)] x25_2 → lv_has ls 4 [(0, .ref (z + 340)), (1, .int p0), (2, .int x25_2)] → W p l e (headSpec wsX6_packSize (dkR 1)).room s m args below meth c H locs 0 0 (MQ below (dkQi g z (fun r I1 => dkF [(340, 340, 25, 25), (353, 353, 0, 15)] I0 I1 ∧ dkOk I1 ∧ ((True ∧ dkN [(1, 16)] (I1 340 25) ∧ True)))) args s 0 0 (dkA z)) (F0 m 25 ls []) := by
    intro I25_ H locs ls x25_2 hW hS hF_25 hO k25_0 hl
    have hF := hF_25
    refine lv_aload_n hx hb dX6_packSize_25 rfl (lv_at hl 0 rfl) ?_
    refine lv_bipush (v := 13) hx hb dX6_packSize_26 (by decide) ?_
    refine dk_Vv (As := [.int 13]) (rest := []) ⟨hx, hb, hml, hown, hts⟩ (c_X6_begins_5 l g z I25_ 13 (dkN_lit (x := 13) (13) rfl) hO) (cwV 1 hts gX6_packSize_X6_begins rfl rfl rfl (by decide +kernel) ⟨Nat.le_of_ble_eq_true rfl, Nat.le_of_ble_eq_true rfl⟩) (dk_at340 hW) rfl hK hT hW hS rfl hl.1 rfl (Nat.le_of_ble_eq_true rfl) dX6_packSize_28 ⟨Nat.zero_le _, Nat.zero_le _⟩ (fun I1 H1 L1 hp1 hW hS => ?_)
    obtain ⟨hF1, hO, hc1⟩ := hp1
    have hF := dkF_call hF hF1 rfl
    obtain ⟨f1_340_25, -⟩ := hc1
    refine lv_aload_n hx hb dX6_packSize_31 rfl (lv_at hl 0 rfl) ?_
    refine lv_bipush (v := 10) hx hb dX6_packSize_32 (by decide) ?_
    refine dk_Vv (As := [.int 10]) (rest := []) ⟨hx, hb, hml, hown, hts⟩ (c_X6_begins_6 l g z I1 10 (dkN_lit (x := 10) (10) rfl) hO) (cwV 1 hts gX6_packSize_X6_begins rfl rfl rfl (by decide +kernel) ⟨Nat.le_of_ble_eq_true rfl, Nat.le_of_ble_eq_true rfl⟩) (dk_at340 hW) rfl hK hT hW hS rfl hl.1 rfl (Nat.le_of_ble_eq_true rfl) dX6_packSize_34 ⟨Nat.zero_le _, Nat.zero_le _⟩ (fun I2 H2 L2 hp2 hW hS => ?_)
    obtain ⟨hF2, hO, hc2⟩ := hp2
    have hF := dkF_call hF hF2 rfl
    obtain ⟨f2_340_25, -⟩ := hc2
    refine lv_aload_n hx hb dX6_packSize_37 rfl (lv_at hl 0 rfl) ?_
    refine dk_get (k := 340) hx hb hts iX6_packSize_6 hown hK (dk_at340 hW) rfl 13 (by decide) (hts (.fieldLink RX6 25 "DogKingsModel" "now" "[I") (List.mem_of_getElem? (i := 1) rfl)) rfl dX6_packSize_38 ?_
    refine lv_bipush (v := 36) hx hb dX6_packSize_41 (by decide) ?_
    refine lv_iconst (v := 3) hx hb dX6_packSize_43 (by decide) ?_
    refine lv_iload_n hx hb dX6_packSize_44 rfl (lv_at hl 1 rfl) ?_
    refine lv_imul hx hb dX6_packSize_45 ?_
    refine lv_topi (fun v3 ev3 => ?_)
    have dv3 : dkN [(0, 0), (3, 3), (6, 6), (9, 9), (12, 12), (15, 15)] v3 := by rw [ev3]; exact dkN_mulPt 3 (dkN_lit (x := 3) (3) rfl) dp0 rfl
    refine lv_iadd hx hb dX6_packSize_46 ?_
    refine lv_topi (fun v4 ev4 => ?_)
    have dv4 : dkN [(36, 36), (39, 39), (42, 42), (45, 45), (48, 48), (51, 51)] v4 := by rw [ev4]; exact dkN_add (dkN_lit (x := 36) (36) rfl) dv3 rfl
    refine lv_iconst (v := 1) hx hb dX6_packSize_47 (by decide) ?_
    refine lv_iadd hx hb dX6_packSize_48 ?_
    refine lv_topi (fun v5 ev5 => ?_)
    have dv5 : dkN [(37, 37), (40, 40), (43, 43), (46, 46), (49, 49), (52, 52)] v5 := by rw [ev5]; exact dkN_add dv4 (dkN_lit (x := 1) (1) rfl) rfl
    refine dk_ild (k := 346) hx hb hK (dk_at346 hW) (dkN_in (n := 54) dv5 rfl) dX6_packSize_49 ?_
    refine lv_topi (fun v6 ev6 => ?_)
    refine lv_bipush (v := 100) hx hb dX6_packSize_50 (by decide) ?_
    refine lv_isub hx hb dX6_packSize_52 ?_
    refine lv_topi (fun v7 ev7 => ?_)
    refine lv_istore_n (lv' := [(3, .int v7), (0, .ref (z + 340)), (1, .int p0), (2, .int x25_2)]) hx hb dX6_packSize_53 rfl hl (by decide) rfl (fun ls hl => ?_)
    refine lv_iload_n hx hb dX6_packSize_54 rfl (lv_at hl 3 rfl) ?_
    refine lv_if_eq (tgt := 64) hx hb dX6_packSize_55 (by decide) (fun c8 => ?_) (fun c8 => ?_)
    ·
      have d9 : dkN [(0, 0)] x25_2 := dkN_eq1 k25_0 (dkN_lit (x := 0) (0) rfl) (congrArg Int32.toInt c8) rfl
      refine lv_iload_n hx hb dX6_packSize_64 rfl (lv_at hl 0 rfl) ?_
      exact W.iret (v := v7) hx hb hr (fun t ht hW9 => ⟨⟨v7, I2, rfl, ⟨hF, hO, ⟨trivial, (show dkN [(1, 16)] (I2 340 25) from dkN_sub f2_340_25 rfl), trivial⟩⟩, dkW_eq ht hW⟩, hS.F ht⟩) hS.2.2 dX6_packSize_65
    ·
      have d10 : dkN [(1, 1)] x25_2 := dkN_ne1 (0) k25_0 (dkN_lit (x := 0) (0) rfl) (dk_ne c8) rfl
      refine lv_iconst (v := 2) hx hb dX6_packSize_58 (by decide) ?_
      refine lv_iload_n hx hb dX6_packSize_59 rfl (lv_at hl 0 rfl) ?_
      refine lv_imul hx hb dX6_packSize_60 ?_
      refine lv_topi (fun v11 ev11 => ?_)
      refine lv_goto (tgt := 65) hx hb dX6_packSize_61 (by decide) ?_
      exact W.iret (v := v11) hx hb hr (fun t ht hW9 => ⟨⟨v11, I2, rfl, ⟨hF, hO, ⟨trivial, (show dkN [(1, 16)] (I2 340 25) from dkN_sub f2_340_25 rfl), trivial⟩⟩, dkW_eq ht hW⟩, hS.F ht⟩) hS.2.2 dX6_packSize_65
  have C14 : ∀ (I : dkI) (H : Heap) (locs : List Loc) (ls : Array Slot) (x14_s0 : Int32), dkW g z I H → va_S (dkA z) s.heap H locs → dkF [(340, 340, 25, 25), (353, 353, 0, 15)] I0 I → dkOk I → dkN [(0, 1)] x14_s0 → lv_has ls 4 [(0, .ref (z + 340)), (1, .int p0)] → W p l e (headSpec wsX6_packSize (dkR 1)).room s m args below meth c H locs 0 0 (MQ below (dkQi g z (fun r I1 => dkF [(340, 340, 25, 25), (353, 353, 0, 15)] I0 I1 ∧ dkOk I1 ∧ ((True ∧ dkN [(1, 16)] (I1 340 25) ∧ True)))) args s 0 0 (dkA z)) (F0 m 14 ls [.int x14_s0]) := by
    intro I14_ H locs ls x14_s0 hW hS hF_14 hO k14_0 hl
    have hF := hF_14
    refine lv_istore_n (lv' := [(2, .int x14_s0), (0, .ref (z + 340)), (1, .int p0)]) hx hb dX6_packSize_14 rfl hl (by decide) rfl (fun ls hl => ?_)
    refine lv_iload_n hx hb dX6_packSize_15 rfl (lv_at hl 0 rfl) ?_
    refine lv_if_eq (tgt := 25) hx hb dX6_packSize_16 (by decide) (fun c12 => ?_) (fun c12 => ?_)
    ·
      have d13 : dkN [(0, 0)] x14_s0 := dkN_eq1 k14_0 (dkN_lit (x := 0) (0) rfl) (congrArg Int32.toInt c12) rfl
      exact C25 I14_ _ _ ls x14_s0 hW hS hF hO (dkN_sub d13 rfl) (lv_sub hl [1, 2, 0] rfl)
    ·
      have d14 : dkN [(1, 1)] x14_s0 := dkN_ne1 (0) k14_0 (dkN_lit (x := 0) (0) rfl) (dk_ne c12) rfl
      refine lv_aload_n hx hb dX6_packSize_19 rfl (lv_at hl 1 rfl) ?_
      refine lv_bipush (v := 14) hx hb dX6_packSize_20 (by decide) ?_
      refine dk_Vv (As := [.int 14]) (rest := []) ⟨hx, hb, hml, hown, hts⟩ (c_X6_begins_4 l g z I14_ 14 (dkN_lit (x := 14) (14) rfl) hO) (cwV 1 hts gX6_packSize_X6_begins rfl rfl rfl (by decide +kernel) ⟨Nat.le_of_ble_eq_true rfl, Nat.le_of_ble_eq_true rfl⟩) (dk_at340 hW) rfl hK hT hW hS rfl hl.1 rfl (Nat.le_of_ble_eq_true rfl) dX6_packSize_22 ⟨Nat.zero_le _, Nat.zero_le _⟩ (fun I15 H15 L15 hp15 hW hS => ?_)
      obtain ⟨hF15, hO, hc15⟩ := hp15
      have hF := dkF_call hF hF15 rfl
      obtain ⟨f15_340_25, -⟩ := hc15
      exact C25 I15 _ _ ls x14_s0 hW hS hF hO (dkN_sub d14 rfl) (lv_sub hl [1, 2, 0] rfl)
  refine lv_aload_n hx hb dX6_packSize_0 rfl (lv_at hl 0 rfl) ?_
  refine lv_iload_n hx hb dX6_packSize_1 rfl (lv_at hl 1 rfl) ?_
  refine dk_Vi (As := [.int p0]) (rest := []) ⟨hx, hb, hml, hown, hts⟩ (c_X6_kindIn_0 l g z I0 p0 dp0 hO) (cwV 1 hts gX6_packSize_X6_kindIn rfl rfl rfl (by decide +kernel) ⟨Nat.le_of_ble_eq_true rfl, Nat.le_of_ble_eq_true rfl⟩) (dk_at340 hW) rfl hK hT hW hS rfl hl.1 rfl (Nat.le_of_ble_eq_true rfl) dX6_packSize_2 ⟨Nat.zero_le _, Nat.zero_le _⟩ (fun v16 I16 H16 L16 hp16 hW hS => ?_)
  obtain ⟨hF16, hO, hc16⟩ := hp16
  have hF := dkF_call hF hF16 rfl
  obtain ⟨_, -⟩ := hc16
  refine lv_iconst (v := 5) hx hb dX6_packSize_5 (by decide) ?_
  refine lv_icmp_ne (tgt := 13) hx hb dX6_packSize_6 (by decide) (fun c17 => ?_) (fun c17 => ?_)
  ·
    have d18 : dkN [(-2147483648, 4), (6, 2147483647)] v16 := dkN_ne1 (5) (dkN_top v16) (dkN_lit (x := 5) (5) rfl) (dk_ne c17) rfl
    refine lv_iconst (v := 0) hx hb dX6_packSize_13 (by decide) ?_
    exact C14 I16 _ _ ls 0 hW hS hF hO (dkN_sub (dkN_lit (x := 0) (0) rfl) rfl) (lv_sub hl [0, 1] rfl)
  ·
    have d19 : dkN [(5, 5)] v16 := dkN_eq1 (dkN_top v16) (dkN_lit (x := 5) (5) rfl) (congrArg Int32.toInt c17) rfl
    refine lv_iconst (v := 1) hx hb dX6_packSize_9 (by decide) ?_
    refine lv_goto (tgt := 14) hx hb dX6_packSize_10 (by decide) ?_
    exact C14 I16 _ _ ls 1 hW hS hF hO (dkN_sub (dkN_lit (x := 1) (1) rfl) rfl) (lv_sub hl [0, 1] rfl)
set_option maxHeartbeats 4000000 in
set_option maxRecDepth 100000 in
theorem c_X6_packMark_0 (l : Launch) (g : dkG) (z : Nat) (I0 : dkI) (p0 : Int32) (dp0 : dkN [(0, 5)] p0)  (hO : dkOk I0) : Met l yX6_packMark wsX6_packMark (dkR 2) (dkPc g z [.ref (z + 340), .int p0] I0) (dkQi g z (fun r I1 => dkF [(340, 340, 25, 25), (353, 353, 0, 15)] I0 I1 ∧ dkOk I1 ∧ ((True ∧ dkN [(1, 16)] (I1 340 25) ∧ True)))) 0 0 (dkA z) := by
  refine Met.ofW (cc := cX6_packMark) (maxL := 2) (ret := (some .int)) (by decide) rfl ?_
  intro p e s m args below meth c s₁ B hml hv
  obtain ⟨ha, hW, hK, hT⟩ := hv
  have hx := B.exec
  have hb := B.bytes
  have hr := B.returns
  have hts := atoms_spec (ws := wsX6_packMark) B.pre
  have hown : s.vm.findClass RX6 = some m.cls := findClass_of_methodNamed B.named
  have hlocks := B.notSynchronized
  have hS : va_S (dkA z) s.heap s.heap [] := va_S.rf
  have hF : dkF [(340, 340, 25, 25), (353, 353, 0, 15)] I0 I0 := dkF_rf _ _
  have hl := lv_entry ([.ref (z + 340), .int p0]) (n := 2) (Nat.le_of_ble_eq_true rfl)
  have hgo : entryFrame m args 2 = entryFrame m ([.ref (z + 340), .int p0] : List Value).toArray 2 := by rw [ha]
  rw [hgo, lg_entry_eq]
  generalize (lg_sl ([.ref (z + 340), .int p0]) ++ List.replicate (2 - (lg_sl ([.ref (z + 340), .int p0])).length) Slot.unset).toArray = ls at hl ⊢
  have hl : lv_has ls 2 [(0, .ref (z + 340)), (1, .int p0)] := hl
  refine lv_aload_n hx hb dX6_packMark_0 rfl (lv_at hl 0 rfl) ?_
  refine lv_bipush (v := 23) hx hb dX6_packMark_1 (by decide) ?_
  refine dk_Vv (As := [.int 23]) (rest := []) ⟨hx, hb, hml, hown, hts⟩ (c_X6_begins_3 l g z I0 23 (dkN_lit (x := 23) (23) rfl) hO) (cwV 1 hts gX6_packMark_X6_begins rfl rfl rfl (by decide +kernel) ⟨Nat.le_of_ble_eq_true rfl, Nat.le_of_ble_eq_true rfl⟩) (dk_at340 hW) rfl hK hT hW hS rfl hl.1 rfl (Nat.le_of_ble_eq_true rfl) dX6_packMark_3 ⟨Nat.zero_le _, Nat.zero_le _⟩ (fun I1 H1 L1 hp1 hW hS => ?_)
  obtain ⟨hF1, hO, hc1⟩ := hp1
  have hF := dkF_call hF hF1 rfl
  obtain ⟨f1_340_25, -⟩ := hc1
  refine lv_aload_n hx hb dX6_packMark_6 rfl (lv_at hl 0 rfl) ?_
  refine lv_bipush (v := 20) hx hb dX6_packMark_7 (by decide) ?_
  refine dk_Vv (As := [.int 20]) (rest := []) ⟨hx, hb, hml, hown, hts⟩ (c_X6_begins_2 l g z I1 20 (dkN_lit (x := 20) (20) rfl) hO) (cwV 1 hts gX6_packMark_X6_begins rfl rfl rfl (by decide +kernel) ⟨Nat.le_of_ble_eq_true rfl, Nat.le_of_ble_eq_true rfl⟩) (dk_at340 hW) rfl hK hT hW hS rfl hl.1 rfl (Nat.le_of_ble_eq_true rfl) dX6_packMark_9 ⟨Nat.zero_le _, Nat.zero_le _⟩ (fun I2 H2 L2 hp2 hW hS => ?_)
  obtain ⟨hF2, hO, hc2⟩ := hp2
  have hF := dkF_call hF hF2 rfl
  obtain ⟨f2_340_25, -⟩ := hc2
  refine lv_iload_n hx hb dX6_packMark_12 rfl (lv_at hl 1 rfl) ?_
  refine lv_aload_n hx hb dX6_packMark_13 rfl (lv_at hl 0 rfl) ?_
  refine lv_iload_n hx hb dX6_packMark_14 rfl (lv_at hl 1 rfl) ?_
  refine dk_Vi (As := [.int p0]) (rest := [.int p0]) ⟨hx, hb, hml, hown, hts⟩ (c_X6_packSize_0 l g z I2 p0 dp0 hO) (cwV 1 hts gX6_packMark_X6_packSize rfl rfl rfl (by decide +kernel) ⟨Nat.le_of_ble_eq_true rfl, Nat.le_of_ble_eq_true rfl⟩) (dk_at340 hW) rfl hK hT hW hS rfl hl.1 rfl (Nat.le_of_ble_eq_true rfl) dX6_packMark_15 ⟨Nat.zero_le _, Nat.zero_le _⟩ (fun v3 I3 H3 L3 hp3 hW hS => ?_)
  obtain ⟨hF3, hO, hc3⟩ := hp3
  have hF := dkF_call hF hF3 rfl
  obtain ⟨_, f3_340_25, -⟩ := hc3
  refine lv_isub hx hb dX6_packMark_18 ?_
  refine lv_topi (fun v4 ev4 => ?_)
  exact W.iret (v := v4) hx hb hr (fun t ht hW9 => ⟨⟨v4, I3, rfl, ⟨hF, hO, ⟨trivial, (show dkN [(1, 16)] (I3 340 25) from dkN_sub f3_340_25 rfl), trivial⟩⟩, dkW_eq ht hW⟩, hS.F ht⟩) hS.2.2 dX6_packMark_19
set_option maxHeartbeats 4000000 in
set_option maxRecDepth 100000 in
theorem c_X6_begins_7 (l : Launch) (g : dkG) (z : Nat) (I0 : dkI) (p0 : Int32) (dp0 : dkN [(12, 12)] p0)  (hO : dkOk I0) : Met l yX6_begins wsX6_begins (dkR 0) (dkPc g z [.ref (z + 340), .int p0] I0) (dkQv g z (fun I1 => dkF [(340, 340, 25, 25), (353, 353, 0, 15)] I0 I1 ∧ dkOk I1 ∧ ((dkN [(1, 16)] (I1 340 25) ∧ True)))) 0 0 (dkA z) := by
  refine Met.ofW (cc := cX6_begins) (maxL := 2) (ret := none) (by decide) rfl ?_
  intro p e s m args below meth c s₁ B hml hv
  obtain ⟨ha, hW, hK, hT⟩ := hv
  have hx := B.exec
  have hb := B.bytes
  have hr := B.returns
  have hts := atoms_spec (ws := wsX6_begins) B.pre
  have hown : s.vm.findClass RX6 = some m.cls := findClass_of_methodNamed B.named
  have hlocks := B.notSynchronized
  have hS : va_S (dkA z) s.heap s.heap [] := va_S.rf
  have hF : dkF [(340, 340, 25, 25), (353, 353, 0, 15)] I0 I0 := dkF_rf _ _
  have hl := lv_entry ([.ref (z + 340), .int p0]) (n := 2) (Nat.le_of_ble_eq_true rfl)
  have hgo : entryFrame m args 2 = entryFrame m ([.ref (z + 340), .int p0] : List Value).toArray 2 := by rw [ha]
  rw [hgo, lg_entry_eq]
  generalize (lg_sl ([.ref (z + 340), .int p0]) ++ List.replicate (2 - (lg_sl ([.ref (z + 340), .int p0])).length) Slot.unset).toArray = ls at hl ⊢
  have hl : lv_has ls 2 [(0, .ref (z + 340)), (1, .int p0)] := hl
  refine lv_aload_n hx hb dX6_begins_0 rfl (lv_at hl 0 rfl) ?_
  refine dk_get (k := 340) hx hb hts iX6_begins_6 hown hK (dk_at340 hW) rfl 25 (by decide) (hts (.fieldLink RX6 252 "DogKingsModel" "traced" "I") (List.mem_of_getElem? (i := 1) rfl)) rfl dX6_begins_1 ?_
  refine lv_topi (fun v1 ev1 => ?_)
  have dv1 : dkN [(0, 16)] v1 := by rw [ev1]; exact (hO 340 25)
  refine lv_bipush (v := 16) hx hb dX6_begins_4 (by decide) ?_
  refine lv_icmp_ge (tgt := 29) hx hb dX6_begins_6 (by decide) (fun c2 => ?_) (fun c2 => ?_)
  ·
    have d3 : dkN [(16, 16)] v1 := dkN_le2 0 (dkN_lit (x := 16) (16) rfl) dv1 (dkc_le c2) rfl
    have f4 : dkN [(16, 16)] (I0 340 25) := by rw [← ev1]; exact d3
    exact W.vret hx hb hr (fun t ht hW9 => ⟨⟨I0, rfl, ⟨hF, hO, ⟨(show dkN [(1, 16)] (I0 340 25) from dkN_sub f4 rfl), trivial⟩⟩, dkW_eq ht hW⟩, hS.F ht⟩) hS.2.2 dX6_begins_29
  ·
    have d5 : dkN [(0, 15)] v1 := dkN_le1 1 dv1 (dkN_lit (x := 16) (16) rfl) (dkc_nle c2) rfl
    have f6 : dkN [(0, 15)] (I0 340 25) := by rw [← ev1]; exact d5
    refine lv_aload_n hx hb dX6_begins_9 rfl (lv_at hl 0 rfl) ?_
    refine dk_get (k := 340) hx hb hts iX6_begins_6 hown hK (dk_at340 hW) rfl 24 (by decide) (hts (.fieldLink RX6 47 "DogKingsModel" "trace" "[I") (List.mem_of_getElem? (i := 2) rfl)) rfl dX6_begins_10 ?_
    refine lv_aload_n hx hb dX6_begins_13 rfl (lv_at hl 0 rfl) ?_
    refine dk_get (k := 340) hx hb hts iX6_begins_6 hown hK (dk_at340 hW) rfl 25 (by decide) (hts (.fieldLink RX6 252 "DogKingsModel" "traced" "I") (List.mem_of_getElem? (i := 1) rfl)) rfl dX6_begins_14 ?_
    refine lv_topi (fun v7 ev7 => ?_)
    have dv7 : dkN [(0, 15)] v7 := by rw [ev7]; exact f6
    refine lv_iload_n hx hb dX6_begins_17 rfl (lv_at hl 1 rfl) ?_
    refine dk_ist (k := 353) hx hb hK hW (fun _ => rfl) (by decide) hS (dkN_in (n := 16) dv7 rfl) dX6_begins_18 (fun I8 H8 L8 eI8 hW hS => ?_)
    have hO := dkO_set hO eI8 (dkN_sub dp0 rfl)
    have hF := dkF_set hF eI8 (dkIn_v dv7 rfl)
    refine lv_aload_n hx hb dX6_begins_19 rfl (lv_at hl 0 rfl) ?_
    refine lv_dup hx hb dX6_begins_20 rfl ?_
    refine dk_get (k := 340) hx hb hts iX6_begins_6 hown hK (dk_at340 hW) rfl 25 (by decide) (hts (.fieldLink RX6 252 "DogKingsModel" "traced" "I") (List.mem_of_getElem? (i := 1) rfl)) rfl dX6_begins_21 ?_
    refine lv_topi (fun v9 ev9 => ?_)
    have dv9 : dkN [(0, 15)] v9 := by rw [ev9]; exact (by rw [eI8, dkU_n (by decide)]; exact f6)
    refine lv_iconst (v := 1) hx hb dX6_begins_24 (by decide) ?_
    refine lv_iadd hx hb dX6_begins_25 ?_
    refine lv_topi (fun v10 ev10 => ?_)
    have dv10 : dkN [(1, 16)] v10 := by rw [ev10]; exact dkN_add dv9 (dkN_lit (x := 1) (1) rfl) rfl
    refine dk_put (k := 340) hx hb hts iX6_begins_6 tyX6 tyX6_ok nmX6 hown hK hW (dk_at340 hW) hS rfl 25 (by decide) (hts (.fieldLink RX6 252 "DogKingsModel" "traced" "I") (List.mem_of_getElem? (i := 1) rfl)) rfl rfl (Nat.le_of_ble_eq_true rfl) rfl dX6_begins_26 (fun I11 H11 L11 eI11 hW hS => ?_)
    have eI11 : I11 = dkU I8 340 25 v10 := eI11
    have hO := dkO_set hO eI11 (dkN_sub dv10 rfl)
    have hF := dkF_set hF eI11 rfl
    exact W.vret hx hb hr (fun t ht hW9 => ⟨⟨I11, rfl, ⟨hF, hO, ⟨(show dkN [(1, 16)] (I11 340 25) from dkN_sub (by rw [eI11, dkU_ss]; exact dv10) rfl), trivial⟩⟩, dkW_eq ht hW⟩, hS.F ht⟩) hS.2.2 dX6_begins_29
set_option maxHeartbeats 4000000 in
set_option maxRecDepth 100000 in
theorem c_X6_begins_8 (l : Launch) (g : dkG) (z : Nat) (I0 : dkI) (p0 : Int32) (dp0 : dkN [(11, 11)] p0)  (hO : dkOk I0) : Met l yX6_begins wsX6_begins (dkR 0) (dkPc g z [.ref (z + 340), .int p0] I0) (dkQv g z (fun I1 => dkF [(340, 340, 25, 25), (353, 353, 0, 15)] I0 I1 ∧ dkOk I1 ∧ ((dkN [(1, 16)] (I1 340 25) ∧ True)))) 0 0 (dkA z) := by
  refine Met.ofW (cc := cX6_begins) (maxL := 2) (ret := none) (by decide) rfl ?_
  intro p e s m args below meth c s₁ B hml hv
  obtain ⟨ha, hW, hK, hT⟩ := hv
  have hx := B.exec
  have hb := B.bytes
  have hr := B.returns
  have hts := atoms_spec (ws := wsX6_begins) B.pre
  have hown : s.vm.findClass RX6 = some m.cls := findClass_of_methodNamed B.named
  have hlocks := B.notSynchronized
  have hS : va_S (dkA z) s.heap s.heap [] := va_S.rf
  have hF : dkF [(340, 340, 25, 25), (353, 353, 0, 15)] I0 I0 := dkF_rf _ _
  have hl := lv_entry ([.ref (z + 340), .int p0]) (n := 2) (Nat.le_of_ble_eq_true rfl)
  have hgo : entryFrame m args 2 = entryFrame m ([.ref (z + 340), .int p0] : List Value).toArray 2 := by rw [ha]
  rw [hgo, lg_entry_eq]
  generalize (lg_sl ([.ref (z + 340), .int p0]) ++ List.replicate (2 - (lg_sl ([.ref (z + 340), .int p0])).length) Slot.unset).toArray = ls at hl ⊢
  have hl : lv_has ls 2 [(0, .ref (z + 340)), (1, .int p0)] := hl
  refine lv_aload_n hx hb dX6_begins_0 rfl (lv_at hl 0 rfl) ?_
  refine dk_get (k := 340) hx hb hts iX6_begins_6 hown hK (dk_at340 hW) rfl 25 (by decide) (hts (.fieldLink RX6 252 "DogKingsModel" "traced" "I") (List.mem_of_getElem? (i := 1) rfl)) rfl dX6_begins_1 ?_
  refine lv_topi (fun v1 ev1 => ?_)
  have dv1 : dkN [(0, 16)] v1 := by rw [ev1]; exact (hO 340 25)
  refine lv_bipush (v := 16) hx hb dX6_begins_4 (by decide) ?_
  refine lv_icmp_ge (tgt := 29) hx hb dX6_begins_6 (by decide) (fun c2 => ?_) (fun c2 => ?_)
  ·
    have d3 : dkN [(16, 16)] v1 := dkN_le2 0 (dkN_lit (x := 16) (16) rfl) dv1 (dkc_le c2) rfl
    have f4 : dkN [(16, 16)] (I0 340 25) := by rw [← ev1]; exact d3
    exact W.vret hx hb hr (fun t ht hW9 => ⟨⟨I0, rfl, ⟨hF, hO, ⟨(show dkN [(1, 16)] (I0 340 25) from dkN_sub f4 rfl), trivial⟩⟩, dkW_eq ht hW⟩, hS.F ht⟩) hS.2.2 dX6_begins_29
  ·
    have d5 : dkN [(0, 15)] v1 := dkN_le1 1 dv1 (dkN_lit (x := 16) (16) rfl) (dkc_nle c2) rfl
    have f6 : dkN [(0, 15)] (I0 340 25) := by rw [← ev1]; exact d5
    refine lv_aload_n hx hb dX6_begins_9 rfl (lv_at hl 0 rfl) ?_
    refine dk_get (k := 340) hx hb hts iX6_begins_6 hown hK (dk_at340 hW) rfl 24 (by decide) (hts (.fieldLink RX6 47 "DogKingsModel" "trace" "[I") (List.mem_of_getElem? (i := 2) rfl)) rfl dX6_begins_10 ?_
    refine lv_aload_n hx hb dX6_begins_13 rfl (lv_at hl 0 rfl) ?_
    refine dk_get (k := 340) hx hb hts iX6_begins_6 hown hK (dk_at340 hW) rfl 25 (by decide) (hts (.fieldLink RX6 252 "DogKingsModel" "traced" "I") (List.mem_of_getElem? (i := 1) rfl)) rfl dX6_begins_14 ?_
    refine lv_topi (fun v7 ev7 => ?_)
    have dv7 : dkN [(0, 15)] v7 := by rw [ev7]; exact f6
    refine lv_iload_n hx hb dX6_begins_17 rfl (lv_at hl 1 rfl) ?_
    refine dk_ist (k := 353) hx hb hK hW (fun _ => rfl) (by decide) hS (dkN_in (n := 16) dv7 rfl) dX6_begins_18 (fun I8 H8 L8 eI8 hW hS => ?_)
    have hO := dkO_set hO eI8 (dkN_sub dp0 rfl)
    have hF := dkF_set hF eI8 (dkIn_v dv7 rfl)
    refine lv_aload_n hx hb dX6_begins_19 rfl (lv_at hl 0 rfl) ?_
    refine lv_dup hx hb dX6_begins_20 rfl ?_
    refine dk_get (k := 340) hx hb hts iX6_begins_6 hown hK (dk_at340 hW) rfl 25 (by decide) (hts (.fieldLink RX6 252 "DogKingsModel" "traced" "I") (List.mem_of_getElem? (i := 1) rfl)) rfl dX6_begins_21 ?_
    refine lv_topi (fun v9 ev9 => ?_)
    have dv9 : dkN [(0, 15)] v9 := by rw [ev9]; exact (by rw [eI8, dkU_n (by decide)]; exact f6)
    refine lv_iconst (v := 1) hx hb dX6_begins_24 (by decide) ?_
    refine lv_iadd hx hb dX6_begins_25 ?_
    refine lv_topi (fun v10 ev10 => ?_)
    have dv10 : dkN [(1, 16)] v10 := by rw [ev10]; exact dkN_add dv9 (dkN_lit (x := 1) (1) rfl) rfl
    refine dk_put (k := 340) hx hb hts iX6_begins_6 tyX6 tyX6_ok nmX6 hown hK hW (dk_at340 hW) hS rfl 25 (by decide) (hts (.fieldLink RX6 252 "DogKingsModel" "traced" "I") (List.mem_of_getElem? (i := 1) rfl)) rfl rfl (Nat.le_of_ble_eq_true rfl) rfl dX6_begins_26 (fun I11 H11 L11 eI11 hW hS => ?_)
    have eI11 : I11 = dkU I8 340 25 v10 := eI11
    have hO := dkO_set hO eI11 (dkN_sub dv10 rfl)
    have hF := dkF_set hF eI11 rfl
    exact W.vret hx hb hr (fun t ht hW9 => ⟨⟨I11, rfl, ⟨hF, hO, ⟨(show dkN [(1, 16)] (I11 340 25) from dkN_sub (by rw [eI11, dkU_ss]; exact dv10) rfl), trivial⟩⟩, dkW_eq ht hW⟩, hS.F ht⟩) hS.2.2 dX6_begins_29
set_option maxHeartbeats 4000000 in
set_option maxRecDepth 100000 in
theorem c_X6_houndSize_0 (l : Launch) (g : dkG) (z : Nat) (I0 : dkI) (p0 : Int32) (dp0 : dkN [(0, 5)] p0)  (hO : dkOk I0) : Met l yX6_houndSize wsX6_houndSize (dkR 2) (dkPc g z [.ref (z + 340), .int p0] I0) (dkQi g z (fun r I1 => dkF [(340, 340, 25, 25), (353, 353, 0, 15)] I0 I1 ∧ dkOk I1 ∧ ((True ∧ dkN [(1, 16)] (I1 340 25) ∧ True)))) 0 0 (dkA z) := by
  refine Met.ofW (cc := cX6_houndSize) (maxL := 4) (ret := (some .int)) (by decide) rfl ?_
  intro p e s m args below meth c s₁ B hml hv
  obtain ⟨ha, hW, hK, hT⟩ := hv
  have hx := B.exec
  have hb := B.bytes
  have hr := B.returns
  have hts := atoms_spec (ws := wsX6_houndSize) B.pre
  have hown : s.vm.findClass RX6 = some m.cls := findClass_of_methodNamed B.named
  have hlocks := B.notSynchronized
  have hS : va_S (dkA z) s.heap s.heap [] := va_S.rf
  have hF : dkF [(340, 340, 25, 25), (353, 353, 0, 15)] I0 I0 := dkF_rf _ _
  have hl := lv_entry ([.ref (z + 340), .int p0]) (n := 4) (Nat.le_of_ble_eq_true rfl)
  have hgo : entryFrame m args 4 = entryFrame m ([.ref (z + 340), .int p0] : List Value).toArray 4 := by rw [ha]
  rw [hgo, lg_entry_eq]
  generalize (lg_sl ([.ref (z + 340), .int p0]) ++ List.replicate (4 - (lg_sl ([.ref (z + 340), .int p0])).length) Slot.unset).toArray = ls at hl ⊢
  have hl : lv_has ls 4 [(0, .ref (z + 340)), (1, .int p0)] := hl
  have C25 : ∀ (I : dkI) (H : Heap) (locs : List Loc) (ls : Array Slot) (x25_2 : Int32), dkW g z I H → va_S (dkA z) s.heap H locs → dkF [(340, 340, 25, 25), (353, 353, 0, 15)] I0 I → dkOk I → dkN [(0, 1)] x25_2 → lv_has ls 4 [(0, .ref (z + 340)), (1, .int p0), (2, .int x25_2)] → W p l e (headSpec wsX6_houndSize (dkR 2)).room s m args below meth c H locs 0 0 (MQ below (dkQi g z (fun r I1 => dkF [(340, 340, 25, 25), (353, 353, 0, 15)] I0 I1 ∧ dkOk I1 ∧ ((True ∧ dkN [(1, 16)] (I1 340 25) ∧ True)))) args s 0 0 (dkA z)) (F0 m 25 ls []) := by
    intro I25_ H locs ls x25_2 hW hS hF_25 hO k25_0 hl
    have hF := hF_25
    refine lv_aload_n hx hb dX6_houndSize_25 rfl (lv_at hl 0 rfl) ?_
    refine lv_bipush (v := 11) hx hb dX6_houndSize_26 (by decide) ?_
    refine dk_Vv (As := [.int 11]) (rest := []) ⟨hx, hb, hml, hown, hts⟩ (c_X6_begins_8 l g z I25_ 11 (dkN_lit (x := 11) (11) rfl) hO) (cwV 1 hts gX6_houndSize_X6_begins rfl rfl rfl (by decide +kernel) ⟨Nat.le_of_ble_eq_true rfl, Nat.le_of_ble_eq_true rfl⟩) (dk_at340 hW) rfl hK hT hW hS rfl hl.1 rfl (Nat.le_of_ble_eq_true rfl) dX6_houndSize_28 ⟨Nat.zero_le _, Nat.zero_le _⟩ (fun I1 H1 L1 hp1 hW hS => ?_)
    obtain ⟨hF1, hO, hc1⟩ := hp1
    have hF := dkF_call hF hF1 rfl
    obtain ⟨f1_340_25, -⟩ := hc1
    refine lv_aload_n hx hb dX6_houndSize_31 rfl (lv_at hl 0 rfl) ?_
    refine lv_bipush (v := 10) hx hb dX6_houndSize_32 (by decide) ?_
    refine dk_Vv (As := [.int 10]) (rest := []) ⟨hx, hb, hml, hown, hts⟩ (c_X6_begins_6 l g z I1 10 (dkN_lit (x := 10) (10) rfl) hO) (cwV 1 hts gX6_houndSize_X6_begins rfl rfl rfl (by decide +kernel) ⟨Nat.le_of_ble_eq_true rfl, Nat.le_of_ble_eq_true rfl⟩) (dk_at340 hW) rfl hK hT hW hS rfl hl.1 rfl (Nat.le_of_ble_eq_true rfl) dX6_houndSize_34 ⟨Nat.zero_le _, Nat.zero_le _⟩ (fun I2 H2 L2 hp2 hW hS => ?_)
    obtain ⟨hF2, hO, hc2⟩ := hp2
    have hF := dkF_call hF hF2 rfl
    obtain ⟨f2_340_25, -⟩ := hc2
    refine lv_aload_n hx hb dX6_houndSize_37 rfl (lv_at hl 0 rfl) ?_
    refine dk_get (k := 340) hx hb hts iX6_houndSize_6 hown hK (dk_at340 hW) rfl 13 (by decide) (hts (.fieldLink RX6 25 "DogKingsModel" "now" "[I") (List.mem_of_getElem? (i := 1) rfl)) rfl dX6_houndSize_38 ?_
    refine lv_bipush (v := 36) hx hb dX6_houndSize_41 (by decide) ?_
    refine lv_iconst (v := 3) hx hb dX6_houndSize_43 (by decide) ?_
    refine lv_iload_n hx hb dX6_houndSize_44 rfl (lv_at hl 1 rfl) ?_
    refine lv_imul hx hb dX6_houndSize_45 ?_
    refine lv_topi (fun v3 ev3 => ?_)
    have dv3 : dkN [(0, 0), (3, 3), (6, 6), (9, 9), (12, 12), (15, 15)] v3 := by rw [ev3]; exact dkN_mulPt 3 (dkN_lit (x := 3) (3) rfl) dp0 rfl
    refine lv_iadd hx hb dX6_houndSize_46 ?_
    refine lv_topi (fun v4 ev4 => ?_)
    have dv4 : dkN [(36, 36), (39, 39), (42, 42), (45, 45), (48, 48), (51, 51)] v4 := by rw [ev4]; exact dkN_add (dkN_lit (x := 36) (36) rfl) dv3 rfl
    refine lv_iconst (v := 1) hx hb dX6_houndSize_47 (by decide) ?_
    refine lv_iadd hx hb dX6_houndSize_48 ?_
    refine lv_topi (fun v5 ev5 => ?_)
    have dv5 : dkN [(37, 37), (40, 40), (43, 43), (46, 46), (49, 49), (52, 52)] v5 := by rw [ev5]; exact dkN_add dv4 (dkN_lit (x := 1) (1) rfl) rfl
    refine dk_ild (k := 346) hx hb hK (dk_at346 hW) (dkN_in (n := 54) dv5 rfl) dX6_houndSize_49 ?_
    refine lv_topi (fun v6 ev6 => ?_)
    refine lv_aload_n hx hb dX6_houndSize_50 rfl (lv_at hl 0 rfl) ?_
    refine lv_iload_n hx hb dX6_houndSize_51 rfl (lv_at hl 1 rfl) ?_
    refine dk_Vi (As := [.int p0]) (rest := [.int v6]) ⟨hx, hb, hml, hown, hts⟩ (c_X6_houndMark_0 l g z I2 p0 dp0 hO) (cwV 1 hts gX6_houndSize_X6_houndMark rfl rfl rfl (by decide +kernel) ⟨Nat.le_of_ble_eq_true rfl, Nat.le_of_ble_eq_true rfl⟩) (dk_at340 hW) rfl hK hT hW hS rfl hl.1 rfl (Nat.le_of_ble_eq_true rfl) dX6_houndSize_52 ⟨Nat.zero_le _, Nat.zero_le _⟩ (fun v7 I7 H7 L7 hp7 hW hS => ?_)
    obtain ⟨hF7, hO, hc7⟩ := hp7
    have hF := dkF_call hF hF7 rfl
    obtain ⟨_, f7_340_25, -⟩ := hc7
    refine lv_iadd hx hb dX6_houndSize_55 ?_
    refine lv_topi (fun v8 ev8 => ?_)
    refine lv_istore_n (lv' := [(3, .int v8), (0, .ref (z + 340)), (1, .int p0), (2, .int x25_2)]) hx hb dX6_houndSize_56 rfl hl (by decide) rfl (fun ls hl => ?_)
    refine lv_iload_n hx hb dX6_houndSize_57 rfl (lv_at hl 3 rfl) ?_
    refine lv_if_eq (tgt := 66) hx hb dX6_houndSize_58 (by decide) (fun c9 => ?_) (fun c9 => ?_)
    ·
      have d10 : dkN [(0, 0)] x25_2 := dkN_eq1 k25_0 (dkN_lit (x := 0) (0) rfl) (congrArg Int32.toInt c9) rfl
      refine lv_iload_n hx hb dX6_houndSize_66 rfl (lv_at hl 0 rfl) ?_
      exact W.iret (v := v8) hx hb hr (fun t ht hW9 => ⟨⟨v8, I7, rfl, ⟨hF, hO, ⟨trivial, (show dkN [(1, 16)] (I7 340 25) from dkN_sub f7_340_25 rfl), trivial⟩⟩, dkW_eq ht hW⟩, hS.F ht⟩) hS.2.2 dX6_houndSize_67
    ·
      have d11 : dkN [(1, 1)] x25_2 := dkN_ne1 (0) k25_0 (dkN_lit (x := 0) (0) rfl) (dk_ne c9) rfl
      refine lv_iload_n hx hb dX6_houndSize_61 rfl (lv_at hl 0 rfl) ?_
      refine lv_ineg hx hb dX6_houndSize_62 ?_
      refine lv_topi (fun v12 ev12 => ?_)
      refine lv_goto (tgt := 67) hx hb dX6_houndSize_63 (by decide) ?_
      exact W.iret (v := v12) hx hb hr (fun t ht hW9 => ⟨⟨v12, I7, rfl, ⟨hF, hO, ⟨trivial, (show dkN [(1, 16)] (I7 340 25) from dkN_sub f7_340_25 rfl), trivial⟩⟩, dkW_eq ht hW⟩, hS.F ht⟩) hS.2.2 dX6_houndSize_67
  have C14 : ∀ (I : dkI) (H : Heap) (locs : List Loc) (ls : Array Slot) (x14_s0 : Int32), dkW g z I H → va_S (dkA z) s.heap H locs → dkF [(340, 340, 25, 25), (353, 353, 0, 15)] I0 I → dkOk I → dkN [(0, 1)] x14_s0 → lv_has ls 4 [(0, .ref (z + 340)), (1, .int p0)] → W p l e (headSpec wsX6_houndSize (dkR 2)).room s m args below meth c H locs 0 0 (MQ below (dkQi g z (fun r I1 => dkF [(340, 340, 25, 25), (353, 353, 0, 15)] I0 I1 ∧ dkOk I1 ∧ ((True ∧ dkN [(1, 16)] (I1 340 25) ∧ True)))) args s 0 0 (dkA z)) (F0 m 14 ls [.int x14_s0]) := by
    intro I14_ H locs ls x14_s0 hW hS hF_14 hO k14_0 hl
    have hF := hF_14
    refine lv_istore_n (lv' := [(2, .int x14_s0), (0, .ref (z + 340)), (1, .int p0)]) hx hb dX6_houndSize_14 rfl hl (by decide) rfl (fun ls hl => ?_)
    refine lv_iload_n hx hb dX6_houndSize_15 rfl (lv_at hl 0 rfl) ?_
    refine lv_if_eq (tgt := 25) hx hb dX6_houndSize_16 (by decide) (fun c13 => ?_) (fun c13 => ?_)
    ·
      have d14 : dkN [(0, 0)] x14_s0 := dkN_eq1 k14_0 (dkN_lit (x := 0) (0) rfl) (congrArg Int32.toInt c13) rfl
      exact C25 I14_ _ _ ls x14_s0 hW hS hF hO (dkN_sub d14 rfl) (lv_sub hl [1, 2, 0] rfl)
    ·
      have d15 : dkN [(1, 1)] x14_s0 := dkN_ne1 (0) k14_0 (dkN_lit (x := 0) (0) rfl) (dk_ne c13) rfl
      refine lv_aload_n hx hb dX6_houndSize_19 rfl (lv_at hl 1 rfl) ?_
      refine lv_bipush (v := 12) hx hb dX6_houndSize_20 (by decide) ?_
      refine dk_Vv (As := [.int 12]) (rest := []) ⟨hx, hb, hml, hown, hts⟩ (c_X6_begins_7 l g z I14_ 12 (dkN_lit (x := 12) (12) rfl) hO) (cwV 1 hts gX6_houndSize_X6_begins rfl rfl rfl (by decide +kernel) ⟨Nat.le_of_ble_eq_true rfl, Nat.le_of_ble_eq_true rfl⟩) (dk_at340 hW) rfl hK hT hW hS rfl hl.1 rfl (Nat.le_of_ble_eq_true rfl) dX6_houndSize_22 ⟨Nat.zero_le _, Nat.zero_le _⟩ (fun I16 H16 L16 hp16 hW hS => ?_)
      obtain ⟨hF16, hO, hc16⟩ := hp16
      have hF := dkF_call hF hF16 rfl
      obtain ⟨f16_340_25, -⟩ := hc16
      exact C25 I16 _ _ ls x14_s0 hW hS hF hO (dkN_sub d15 rfl) (lv_sub hl [1, 2, 0] rfl)
  refine lv_aload_n hx hb dX6_houndSize_0 rfl (lv_at hl 0 rfl) ?_
  refine lv_iload_n hx hb dX6_houndSize_1 rfl (lv_at hl 1 rfl) ?_
  refine dk_Vi (As := [.int p0]) (rest := []) ⟨hx, hb, hml, hown, hts⟩ (c_X6_kindIn_0 l g z I0 p0 dp0 hO) (cwV 1 hts gX6_houndSize_X6_kindIn rfl rfl rfl (by decide +kernel) ⟨Nat.le_of_ble_eq_true rfl, Nat.le_of_ble_eq_true rfl⟩) (dk_at340 hW) rfl hK hT hW hS rfl hl.1 rfl (Nat.le_of_ble_eq_true rfl) dX6_houndSize_2 ⟨Nat.zero_le _, Nat.zero_le _⟩ (fun v17 I17 H17 L17 hp17 hW hS => ?_)
  obtain ⟨hF17, hO, hc17⟩ := hp17
  have hF := dkF_call hF hF17 rfl
  obtain ⟨_, -⟩ := hc17
  refine lv_iconst (v := 2) hx hb dX6_houndSize_5 (by decide) ?_
  refine lv_icmp_ne (tgt := 13) hx hb dX6_houndSize_6 (by decide) (fun c18 => ?_) (fun c18 => ?_)
  ·
    have d19 : dkN [(-2147483648, 1), (3, 2147483647)] v17 := dkN_ne1 (2) (dkN_top v17) (dkN_lit (x := 2) (2) rfl) (dk_ne c18) rfl
    refine lv_iconst (v := 0) hx hb dX6_houndSize_13 (by decide) ?_
    exact C14 I17 _ _ ls 0 hW hS hF hO (dkN_sub (dkN_lit (x := 0) (0) rfl) rfl) (lv_sub hl [0, 1] rfl)
  ·
    have d20 : dkN [(2, 2)] v17 := dkN_eq1 (dkN_top v17) (dkN_lit (x := 2) (2) rfl) (congrArg Int32.toInt c18) rfl
    refine lv_iconst (v := 1) hx hb dX6_houndSize_9 (by decide) ?_
    refine lv_goto (tgt := 14) hx hb dX6_houndSize_10 (by decide) ?_
    exact C14 I17 _ _ ls 1 hW hS hF hO (dkN_sub (dkN_lit (x := 1) (1) rfl) rfl) (lv_sub hl [0, 1] rfl)
set_option maxHeartbeats 4000000 in
set_option maxRecDepth 100000 in
theorem c_X6_ask_0 (l : Launch) (g : dkG) (z : Nat) (I0 : dkI) (p0 : Int32) (p1 : Int32)  (hO : dkOk I0) : Met l yX6_ask wsX6_ask (dkR 3) (dkPc g z [.ref (z + 340), .int p0, .int p1] I0) (dkQi g z (fun r I1 => dkF [(340, 340, 25, 25), (353, 353, 0, 15)] I0 I1 ∧ dkOk I1 ∧ ((True ∧ True)))) 0 0 (dkA z) := by
  refine Met.ofW (cc := cX6_ask) (maxL := 4) (ret := (some .int)) (by decide) rfl ?_
  intro p e s m args below meth c s₁ B hml hv
  obtain ⟨ha, hW, hK, hT⟩ := hv
  have hx := B.exec
  have hb := B.bytes
  have hr := B.returns
  have hts := atoms_spec (ws := wsX6_ask) B.pre
  have hown : s.vm.findClass RX6 = some m.cls := findClass_of_methodNamed B.named
  have hlocks := B.notSynchronized
  have hS : va_S (dkA z) s.heap s.heap [] := va_S.rf
  have hF : dkF [(340, 340, 25, 25), (353, 353, 0, 15)] I0 I0 := dkF_rf _ _
  have hl := lv_entry ([.ref (z + 340), .int p0, .int p1]) (n := 4) (Nat.le_of_ble_eq_true rfl)
  have hgo : entryFrame m args 4 = entryFrame m ([.ref (z + 340), .int p0, .int p1] : List Value).toArray 4 := by rw [ha]
  rw [hgo, lg_entry_eq]
  generalize (lg_sl ([.ref (z + 340), .int p0, .int p1]) ++ List.replicate (4 - (lg_sl ([.ref (z + 340), .int p0, .int p1])).length) Slot.unset).toArray = ls at hl ⊢
  have hl : lv_has ls 4 [(0, .ref (z + 340)), (1, .int p0), (2, .int p1)] := hl
  have C39 : ∀ (I : dkI) (H : Heap) (locs : List Loc) (ls : Array Slot) (x39_s0 : Int32), dkW g z I H → va_S (dkA z) s.heap H locs → dkF [(340, 340, 25, 25), (353, 353, 0, 15)] I0 I → dkOk I → dkN [(0, 1)] x39_s0 → dkN [(0, 5)] p0 → dkN [(0, 1)] p1 → dkN [(0, 0)] (I 340 25) → lv_has ls 4 [(0, .ref (z + 340)), (1, .int p0), (2, .int p1)] → W p l e (headSpec wsX6_ask (dkR 3)).room s m args below meth c H locs 0 0 (MQ below (dkQi g z (fun r I1 => dkF [(340, 340, 25, 25), (353, 353, 0, 15)] I0 I1 ∧ dkOk I1 ∧ ((True ∧ True)))) args s 0 0 (dkA z)) (F0 m 39 ls [.int x39_s0]) := by
    intro I39_ H locs ls x39_s0 hW hS hF_39 hO k39_0 r39_0 r39_1 f39_0 hl
    have hF := hF_39
    refine lv_istore_n (lv' := [(3, .int x39_s0), (0, .ref (z + 340)), (1, .int p0), (2, .int p1)]) hx hb dX6_ask_39 rfl hl (by decide) rfl (fun ls hl => ?_)
    refine lv_iload_n hx hb dX6_ask_40 rfl (lv_at hl 3 rfl) ?_
    refine lv_if_ne (tgt := 62) hx hb dX6_ask_41 (by decide) (fun c1 => ?_) (fun c1 => ?_)
    ·
      have d2 : dkN [(1, 1)] p1 := dkN_ne1 (0) r39_1 (dkN_lit (x := 0) (0) rfl) (dk_ne c1) rfl
      refine lv_iload_n hx hb dX6_ask_62 rfl (lv_at hl 0 rfl) ?_
      refine lv_if_eq (tgt := 74) hx hb dX6_ask_63 (by decide) (fun c3 => ?_) (fun c3 => ?_)
      ·
        have d4 : dkN [(0, 0)] x39_s0 := dkN_eq1 k39_0 (dkN_lit (x := 0) (0) rfl) (congrArg Int32.toInt c3) rfl
        refine lv_aload_n hx hb dX6_ask_74 rfl (lv_at hl 1 rfl) ?_
        refine lv_iload_n hx hb dX6_ask_75 rfl (lv_at hl 2 rfl) ?_
        refine dk_Vi (As := [.int p0]) (rest := []) ⟨hx, hb, hml, hown, hts⟩ (c_X6_houndMark_0 l g z I39_ p0 r39_0 hO) (cwV 1 hts gX6_ask_X6_houndMark rfl rfl rfl (by decide +kernel) ⟨Nat.le_of_ble_eq_true rfl, Nat.le_of_ble_eq_true rfl⟩) (dk_at340 hW) rfl hK hT hW hS rfl hl.1 rfl (Nat.le_of_ble_eq_true rfl) dX6_ask_76 ⟨Nat.zero_le _, Nat.zero_le _⟩ (fun v5 I5 H5 L5 hp5 hW hS => ?_)
        obtain ⟨hF5, hO, hc5⟩ := hp5
        have hF := dkF_call hF hF5 rfl
        obtain ⟨_, f5_340_25, -⟩ := hc5
        exact W.iret (v := v5) hx hb hr (fun t ht hW9 => ⟨⟨v5, I5, rfl, ⟨hF, hO, ⟨trivial, trivial⟩⟩, dkW_eq ht hW⟩, hS.F ht⟩) hS.2.2 dX6_ask_79
      ·
        have d6 : dkN [(1, 1)] x39_s0 := dkN_ne1 (0) k39_0 (dkN_lit (x := 0) (0) rfl) (dk_ne c3) rfl
        refine lv_aload_n hx hb dX6_ask_66 rfl (lv_at hl 1 rfl) ?_
        refine lv_iload_n hx hb dX6_ask_67 rfl (lv_at hl 2 rfl) ?_
        refine dk_Vi (As := [.int p0]) (rest := []) ⟨hx, hb, hml, hown, hts⟩ (c_X6_packMark_0 l g z I39_ p0 r39_0 hO) (cwV 1 hts gX6_ask_X6_packMark rfl rfl rfl (by decide +kernel) ⟨Nat.le_of_ble_eq_true rfl, Nat.le_of_ble_eq_true rfl⟩) (dk_at340 hW) rfl hK hT hW hS rfl hl.1 rfl (Nat.le_of_ble_eq_true rfl) dX6_ask_68 ⟨Nat.zero_le _, Nat.zero_le _⟩ (fun v7 I7 H7 L7 hp7 hW hS => ?_)
        obtain ⟨hF7, hO, hc7⟩ := hp7
        have hF := dkF_call hF hF7 rfl
        obtain ⟨_, f7_340_25, -⟩ := hc7
        refine lv_goto (tgt := 79) hx hb dX6_ask_71 (by decide) ?_
        exact W.iret (v := v7) hx hb hr (fun t ht hW9 => ⟨⟨v7, I7, rfl, ⟨hF, hO, ⟨trivial, trivial⟩⟩, dkW_eq ht hW⟩, hS.F ht⟩) hS.2.2 dX6_ask_79
    ·
      have d8 : dkN [(0, 0)] p1 := dkN_eq1 r39_1 (dkN_lit (x := 0) (0) rfl) (congrArg Int32.toInt c1) rfl
      refine lv_iload_n hx hb dX6_ask_44 rfl (lv_at hl 0 rfl) ?_
      refine lv_if_eq (tgt := 56) hx hb dX6_ask_45 (by decide) (fun c9 => ?_) (fun c9 => ?_)
      ·
        have d10 : dkN [(0, 0)] x39_s0 := dkN_eq1 k39_0 (dkN_lit (x := 0) (0) rfl) (congrArg Int32.toInt c9) rfl
        refine lv_aload_n hx hb dX6_ask_56 rfl (lv_at hl 1 rfl) ?_
        refine lv_iload_n hx hb dX6_ask_57 rfl (lv_at hl 2 rfl) ?_
        refine dk_Vi (As := [.int p0]) (rest := []) ⟨hx, hb, hml, hown, hts⟩ (c_X6_houndSize_0 l g z I39_ p0 r39_0 hO) (cwV 1 hts gX6_ask_X6_houndSize rfl rfl rfl (by decide +kernel) ⟨Nat.le_of_ble_eq_true rfl, Nat.le_of_ble_eq_true rfl⟩) (dk_at340 hW) rfl hK hT hW hS rfl hl.1 rfl (Nat.le_of_ble_eq_true rfl) dX6_ask_58 ⟨Nat.zero_le _, Nat.zero_le _⟩ (fun v11 I11 H11 L11 hp11 hW hS => ?_)
        obtain ⟨hF11, hO, hc11⟩ := hp11
        have hF := dkF_call hF hF11 rfl
        obtain ⟨_, f11_340_25, -⟩ := hc11
        exact W.iret (v := v11) hx hb hr (fun t ht hW9 => ⟨⟨v11, I11, rfl, ⟨hF, hO, ⟨trivial, trivial⟩⟩, dkW_eq ht hW⟩, hS.F ht⟩) hS.2.2 dX6_ask_61
      ·
        have d12 : dkN [(1, 1)] x39_s0 := dkN_ne1 (0) k39_0 (dkN_lit (x := 0) (0) rfl) (dk_ne c9) rfl
        refine lv_aload_n hx hb dX6_ask_48 rfl (lv_at hl 1 rfl) ?_
        refine lv_iload_n hx hb dX6_ask_49 rfl (lv_at hl 2 rfl) ?_
        refine dk_Vi (As := [.int p0]) (rest := []) ⟨hx, hb, hml, hown, hts⟩ (c_X6_packSize_0 l g z I39_ p0 r39_0 hO) (cwV 1 hts gX6_ask_X6_packSize rfl rfl rfl (by decide +kernel) ⟨Nat.le_of_ble_eq_true rfl, Nat.le_of_ble_eq_true rfl⟩) (dk_at340 hW) rfl hK hT hW hS rfl hl.1 rfl (Nat.le_of_ble_eq_true rfl) dX6_ask_50 ⟨Nat.zero_le _, Nat.zero_le _⟩ (fun v13 I13 H13 L13 hp13 hW hS => ?_)
        obtain ⟨hF13, hO, hc13⟩ := hp13
        have hF := dkF_call hF hF13 rfl
        obtain ⟨_, f13_340_25, -⟩ := hc13
        refine lv_goto (tgt := 61) hx hb dX6_ask_53 (by decide) ?_
        exact W.iret (v := v13) hx hb hr (fun t ht hW9 => ⟨⟨v13, I13, rfl, ⟨hF, hO, ⟨trivial, trivial⟩⟩, dkW_eq ht hW⟩, hS.F ht⟩) hS.2.2 dX6_ask_61
  refine lv_aload_n hx hb dX6_ask_0 rfl (lv_at hl 0 rfl) ?_
  refine lv_iload_n hx hb dX6_ask_1 rfl (lv_at hl 1 rfl) ?_
  refine dk_Vi (As := [.int p0]) (rest := []) ⟨hx, hb, hml, hown, hts⟩ (c_X6_isDog_0 l g z I0 p0 hO) (cwV 1 hts gX6_ask_X6_isDog rfl rfl rfl (by decide +kernel) ⟨Nat.le_of_ble_eq_true rfl, Nat.le_of_ble_eq_true rfl⟩) (dk_at340 hW) rfl hK hT hW hS rfl hl.1 rfl (Nat.le_of_ble_eq_true rfl) dX6_ask_2 ⟨Nat.zero_le _, Nat.zero_le _⟩ (fun v14 I14 H14 L14 hp14 hW hS => ?_)
  obtain ⟨hF14, hO, hc14⟩ := hp14
  have hF := dkF_call hF hF14 rfl
  rcases hc14 with ⟨dv14, -⟩ | hc14
  ·
    refine lv_if_eq (tgt := 17) hx hb dX6_ask_5 (by decide) (fun c15 => ?_) (fun c15 => ?_)
    ·
      refine lv_ldc (v := (-1000001)) hx hb hown (hts (.constant RX6 64 (-1000001)) (List.mem_of_getElem? (i := 1) rfl)) dX6_ask_17 ?_
      exact W.iret (v := (-1000001)) hx hb hr (fun t ht hW9 => ⟨⟨(-1000001), I14, rfl, ⟨hF, hO, ⟨trivial, trivial⟩⟩, dkW_eq ht hW⟩, hS.F ht⟩) hS.2.2 dX6_ask_19
    ·
      exact (dkN_nil (show dkN [] v14 from dkN_ne1 (0) dv14 (dkN_lit (x := 0) (0) rfl) (dk_ne c15) rfl)).elim
  ·
    obtain ⟨dv14, a14_0, -⟩ := hc14
    have d16 : dkN [(0, 5)] p0 := dkN_eq1 (dkN_top p0) a14_0 rfl rfl
    refine lv_if_eq (tgt := 17) hx hb dX6_ask_5 (by decide) (fun c17 => ?_) (fun c17 => ?_)
    ·
      exact (dkN_nil (show dkN [] v14 from dkN_eq1 dv14 (dkN_lit (x := 0) (0) rfl) (congrArg Int32.toInt c17) rfl)).elim
    ·
      refine lv_iload_n hx hb dX6_ask_8 rfl (lv_at hl 2 rfl) ?_
      refine lv_iconst (v := 0) hx hb dX6_ask_9 (by decide) ?_
      refine lv_iconst (v := 1) hx hb dX6_ask_10 (by decide) ?_
      refine dk_Si (As := [.int p1, .int 0, .int 1]) (rest := []) ⟨hx, hb, hml, hown, hts⟩ (c_X6_in_16 l g z I14 p1 0 1 (dkN_lit (x := 0) (0) rfl) (dkN_lit (x := 1) (1) rfl) hO) (va_cwS 3 hts gX6_ask_X6_in rfl rfl rfl (by decide +kernel) ⟨Nat.le_of_ble_eq_true rfl, Nat.le_of_ble_eq_true rfl⟩) hK hT hW hS rfl hl.1 rfl (Nat.le_of_ble_eq_true rfl) dX6_ask_11 ⟨Nat.zero_le _, Nat.zero_le _⟩ (fun v18 I18 H18 L18 hp18 hW hS => ?_)
      obtain ⟨hF18, hO, hc18⟩ := hp18
      have hF := dkF_call hF hF18 rfl
      rcases hc18 with ⟨dv18, a18_0, -⟩ | hc18
      ·
        have d19 : dkN [(-2147483648, -1), (2, 2147483647)] p1 := dkN_eq1 (dkN_top p1) a18_0 rfl rfl
        refine lv_if_ne (tgt := 20) hx hb dX6_ask_14 (by decide) (fun c20 => ?_) (fun c20 => ?_)
        ·
          exact (dkN_nil (show dkN [] v18 from dkN_ne1 (0) dv18 (dkN_lit (x := 0) (0) rfl) (dk_ne c20) rfl)).elim
        ·
          refine lv_ldc (v := (-1000001)) hx hb hown (hts (.constant RX6 64 (-1000001)) (List.mem_of_getElem? (i := 1) rfl)) dX6_ask_17 ?_
          exact W.iret (v := (-1000001)) hx hb hr (fun t ht hW9 => ⟨⟨(-1000001), I18, rfl, ⟨hF, hO, ⟨trivial, trivial⟩⟩, dkW_eq ht hW⟩, hS.F ht⟩) hS.2.2 dX6_ask_19
      ·
        obtain ⟨dv18, a18_0, -⟩ := hc18
        have d21 : dkN [(0, 1)] p1 := dkN_eq1 (dkN_top p1) a18_0 rfl rfl
        refine lv_if_ne (tgt := 20) hx hb dX6_ask_14 (by decide) (fun c22 => ?_) (fun c22 => ?_)
        ·
          refine lv_aload_n hx hb dX6_ask_20 rfl (lv_at hl 0 rfl) ?_
          refine lv_iconst (v := 0) hx hb dX6_ask_21 (by decide) ?_
          refine dk_put (k := 340) hx hb hts iX6_ask_6 tyX6 tyX6_ok nmX6 hown hK hW (dk_at340 hW) hS rfl 25 (by decide) (hts (.fieldLink RX6 252 "DogKingsModel" "traced" "I") (List.mem_of_getElem? (i := 2) rfl)) rfl rfl (Nat.le_of_ble_eq_true rfl) rfl dX6_ask_22 (fun I23 H23 L23 eI23 hW hS => ?_)
          have eI23 : I23 = dkU I18 340 25 0 := eI23
          have hO := dkO_set hO eI23 (dkN_sub (dkN_lit (x := 0) (0) rfl) rfl)
          have hF := dkF_set hF eI23 rfl
          refine lv_aload_n hx hb dX6_ask_25 rfl (lv_at hl 0 rfl) ?_
          refine lv_iload_n hx hb dX6_ask_26 rfl (lv_at hl 1 rfl) ?_
          refine dk_Vi (As := [.int p0]) (rest := []) ⟨hx, hb, hml, hown, hts⟩ (c_X6_kindIn_0 l g z I23 p0 d16 hO) (cwV 1 hts gX6_ask_X6_kindIn rfl rfl rfl (by decide +kernel) ⟨Nat.le_of_ble_eq_true rfl, Nat.le_of_ble_eq_true rfl⟩) (dk_at340 hW) rfl hK hT hW hS rfl hl.1 rfl (Nat.le_of_ble_eq_true rfl) dX6_ask_27 ⟨Nat.zero_le _, Nat.zero_le _⟩ (fun v24 I24 H24 L24 hp24 hW hS => ?_)
          obtain ⟨hF24, hO, hc24⟩ := hp24
          have hF := dkF_call hF hF24 rfl
          obtain ⟨_, -⟩ := hc24
          refine lv_iconst (v := 4) hx hb dX6_ask_30 (by decide) ?_
          refine lv_icmp_lt (tgt := 38) hx hb dX6_ask_31 (by decide) (fun c25 => ?_) (fun c25 => ?_)
          ·
            have d26 : dkN [(-2147483648, 3)] v24 := dkN_le1 1 (dkN_top v24) (dkN_lit (x := 4) (4) rfl) (dkc_lt c25) rfl
            refine lv_iconst (v := 0) hx hb dX6_ask_38 (by decide) ?_
            exact C39 I24 _ _ ls 0 hW hS hF hO (dkN_sub (dkN_lit (x := 0) (0) rfl) rfl) (dkN_sub d16 rfl) (dkN_sub d21 rfl) (show dkN [(0, 0)] (I24 340 25) from dkN_sub (by rw [hF24 340 25 rfl]; exact (by rw [eI23, dkU_ss]; exact (dkN_lit (x := 0) (0) rfl))) rfl) (lv_sub hl [0, 1, 2] rfl)
          ·
            have d27 : dkN [(4, 2147483647)] v24 := dkN_le2 0 (dkN_lit (x := 4) (4) rfl) (dkN_top v24) (dkc_nlt c25) rfl
            refine lv_iconst (v := 1) hx hb dX6_ask_34 (by decide) ?_
            refine lv_goto (tgt := 39) hx hb dX6_ask_35 (by decide) ?_
            exact C39 I24 _ _ ls 1 hW hS hF hO (dkN_sub (dkN_lit (x := 1) (1) rfl) rfl) (dkN_sub d16 rfl) (dkN_sub d21 rfl) (show dkN [(0, 0)] (I24 340 25) from dkN_sub (by rw [hF24 340 25 rfl]; exact (by rw [eI23, dkU_ss]; exact (dkN_lit (x := 0) (0) rfl))) rfl) (lv_sub hl [0, 1, 2] rfl)
        ·
          exact (dkN_nil (show dkN [] v18 from dkN_eq1 dv18 (dkN_lit (x := 0) (0) rfl) (congrArg Int32.toInt c22) rfl)).elim
set_option maxHeartbeats 4000000 in
set_option maxRecDepth 100000 in
theorem c_X1_begun_0 (l : Launch) (g : dkG) (z : Nat) (I0 : dkI) (p0 : Int32)  (hO : dkOk I0) : Met l yX1_begun wsX1_begun (dkR 0) (dkPc g z [.ref (z + 338), .int p0] I0) (dkQi g z (fun r I1 => dkF [] I0 I1 ∧ dkOk I1 ∧ ((True ∧ True)))) 0 0 (dkA z) := by
  refine Met.ofW (cc := cX1_begun) (maxL := 2) (ret := (some .int)) (by decide) rfl ?_
  intro p e s m args below meth c s₁ B hml hv
  obtain ⟨ha, hW, hK, hT⟩ := hv
  have hx := B.exec
  have hb := B.bytes
  have hr := B.returns
  have hts := atoms_spec (ws := wsX1_begun) B.pre
  have hown : s.vm.findClass RX1 = some m.cls := findClass_of_methodNamed B.named
  have hlocks := B.notSynchronized
  have hS : va_S (dkA z) s.heap s.heap [] := va_S.rf
  have hF : dkF [] I0 I0 := dkF_rf _ _
  have hl := lv_entry ([.ref (z + 338), .int p0]) (n := 2) (Nat.le_of_ble_eq_true rfl)
  have hgo : entryFrame m args 2 = entryFrame m ([.ref (z + 338), .int p0] : List Value).toArray 2 := by rw [ha]
  rw [hgo, lg_entry_eq]
  generalize (lg_sl ([.ref (z + 338), .int p0]) ++ List.replicate (2 - (lg_sl ([.ref (z + 338), .int p0])).length) Slot.unset).toArray = ls at hl ⊢
  have hl : lv_has ls 2 [(0, .ref (z + 338)), (1, .int p0)] := hl
  refine lv_iload_n hx hb dX1_begun_0 rfl (lv_at hl 1 rfl) ?_
  refine lv_if_lt (tgt := 21) hx hb dX1_begun_1 (by decide) (fun c1 => ?_) (fun c1 => ?_)
  ·
    have d2 : dkN [(-2147483648, -1)] p0 := dkN_le1 1 (dkN_top p0) (dkN_lit (x := 0) (0) rfl) (dkc_lt c1) rfl
    refine lv_ldc (v := (-1000000)) hx hb hown (hts (.constant RX1 34 (-1000000)) (List.mem_of_getElem? (i := 3) rfl)) dX1_begun_21 ?_
    exact W.iret (v := (-1000000)) hx hb hr (fun t ht hW9 => ⟨⟨(-1000000), I0, rfl, ⟨hF, hO, ⟨trivial, trivial⟩⟩, dkW_eq ht hW⟩, hS.F ht⟩) hS.2.2 dX1_begun_23
  ·
    have d3 : dkN [(0, 2147483647)] p0 := dkN_le2 0 (dkN_lit (x := 0) (0) rfl) (dkN_top p0) (dkc_nlt c1) rfl
    refine lv_iload_n hx hb dX1_begun_4 rfl (lv_at hl 1 rfl) ?_
    refine lv_aload_n hx hb dX1_begun_5 rfl (lv_at hl 0 rfl) ?_
    refine dk_get (k := 338) hx hb hts iX1_begun_1 hown hK (dk_at338 hW) rfl 2 (by decide) (hts (.fieldLink RX1 19 "DogKings$Asks" "tracedCount" "I") (List.mem_of_getElem? (i := 1) rfl)) rfl dX1_begun_6 ?_
    refine lv_topi (fun v4 ev4 => ?_)
    have dv4 : dkN [(0, 16)] v4 := by rw [ev4]; exact (hO 338 2)
    refine lv_icmp_ge (tgt := 21) hx hb dX1_begun_9 (by decide) (fun c5 => ?_) (fun c5 => ?_)
    ·
      refine lv_ldc (v := (-1000000)) hx hb hown (hts (.constant RX1 34 (-1000000)) (List.mem_of_getElem? (i := 3) rfl)) dX1_begun_21 ?_
      exact W.iret (v := (-1000000)) hx hb hr (fun t ht hW9 => ⟨⟨(-1000000), I0, rfl, ⟨hF, hO, ⟨trivial, trivial⟩⟩, dkW_eq ht hW⟩, hS.F ht⟩) hS.2.2 dX1_begun_23
    ·
      have d6 : dkN [(1, 16)] v4 := dkN_le2 1 d3 dv4 (dkc_nle c5) rfl
      have f7 : dkN [(1, 16)] (I0 338 2) := by rw [← ev4]; exact d6
      have d8 : dkN [(0, 15)] p0 := dkN_le1 1 d3 dv4 (dkc_nle c5) rfl
      refine lv_aload_n hx hb dX1_begun_12 rfl (lv_at hl 0 rfl) ?_
      refine dk_get (k := 338) hx hb hts iX1_begun_1 hown hK (dk_at338 hW) rfl 1 (by decide) (hts (.fieldLink RX1 11 "DogKings$Asks" "traced" "[I") (List.mem_of_getElem? (i := 2) rfl)) rfl dX1_begun_13 ?_
      refine lv_iload_n hx hb dX1_begun_16 rfl (lv_at hl 1 rfl) ?_
      refine dk_ild (k := 339) hx hb hK (dk_at339 hW) (dkN_in (n := 16) d8 rfl) dX1_begun_17 ?_
      refine lv_topi (fun v9 ev9 => ?_)
      refine lv_goto (tgt := 23) hx hb dX1_begun_18 (by decide) ?_
      exact W.iret (v := v9) hx hb hr (fun t ht hW9 => ⟨⟨v9, I0, rfl, ⟨hF, hO, ⟨trivial, trivial⟩⟩, dkW_eq ht hW⟩, hS.F ht⟩) hS.2.2 dX1_begun_23
set_option maxHeartbeats 4000000 in
set_option maxRecDepth 100000 in
theorem c_X5_trace_0 (l : Launch) (g : dkG) (z : Nat) (I0 : dkI) (p0 : Int32)  (hO : dkOk I0) : Met l yX5_trace wsX5_trace (dkR 1) (dkPc g z [.ref (z + 0), .int p0] I0) (dkQi g z (fun r I1 => dkF [] I0 I1 ∧ dkOk I1 ∧ ((True ∧ True)))) 0 0 (dkA z) := by
  refine Met.ofW (cc := cX5_trace) (maxL := 2) (ret := (some .int)) (by decide) rfl ?_
  intro p e s m args below meth c s₁ B hml hv
  obtain ⟨ha, hW, hK, hT⟩ := hv
  have hx := B.exec
  have hb := B.bytes
  have hr := B.returns
  have hts := atoms_spec (ws := wsX5_trace) B.pre
  have hown : s.vm.findClass RX5 = some m.cls := findClass_of_methodNamed B.named
  have hlocks := B.notSynchronized
  have hS : va_S (dkA z) s.heap s.heap [] := va_S.rf
  have hF : dkF [] I0 I0 := dkF_rf _ _
  have hl := lv_entry ([.ref (z + 0), .int p0]) (n := 2) (Nat.le_of_ble_eq_true rfl)
  have hgo : entryFrame m args 2 = entryFrame m ([.ref (z + 0), .int p0] : List Value).toArray 2 := by rw [ha]
  rw [hgo, lg_entry_eq]
  generalize (lg_sl ([.ref (z + 0), .int p0]) ++ List.replicate (2 - (lg_sl ([.ref (z + 0), .int p0])).length) Slot.unset).toArray = ls at hl ⊢
  have hl : lv_has ls 2 [(0, .ref (z + 0)), (1, .int p0)] := hl
  refine lv_aload_n hx hb dX5_trace_0 rfl (lv_at hl 0 rfl) ?_
  refine dk_get (k := 0) hx hb hts iX5_trace_5 hown hK (dk_at0 hW) rfl 9 (by decide) (hts (.fieldLink RX5 58 "DogKings" "asks" "LDogKings$Asks;") (List.mem_of_getElem? (i := 1) rfl)) rfl dX5_trace_1 ?_
  refine lv_iload_n hx hb dX5_trace_4 rfl (lv_at hl 1 rfl) ?_
  refine dk_Vi (As := [.int p0]) (rest := []) ⟨hx, hb, hml, hown, hts⟩ (c_X1_begun_0 l g z I0 p0 hO) (cwV 1 hts gX5_trace_X1_begun rfl rfl rfl (by decide +kernel) ⟨Nat.le_of_ble_eq_true rfl, Nat.le_of_ble_eq_true rfl⟩) (dk_at338 hW) rfl hK hT hW hS rfl hl.1 rfl (Nat.le_of_ble_eq_true rfl) dX5_trace_5 ⟨Nat.zero_le _, Nat.zero_le _⟩ (fun v1 I1 H1 L1 hp1 hW hS => ?_)
  obtain ⟨hF1, hO, hc1⟩ := hp1
  have hF := dkF_call hF hF1 rfl
  obtain ⟨_, -⟩ := hc1
  exact W.iret (v := v1) hx hb hr (fun t ht hW9 => ⟨⟨v1, I1, rfl, ⟨hF, hO, ⟨trivial, trivial⟩⟩, dkW_eq ht hW⟩, hS.F ht⟩) hS.2.2 dX5_trace_8
set_option maxHeartbeats 4000000 in
set_option maxRecDepth 100000 in
theorem c_X6_in_21 (l : Launch) (g : dkG) (z : Nat) (I0 : dkI) (p0 : Int32) (p1 : Int32) (p2 : Int32) (dp1 : dkN [(0, 0)] p1) (dp2 : dkN [(-1, 15)] p2)  (hO : dkOk I0) : Met l yX6_in wsX6_in (dkR 0) (dkPc g z [.int p0, .int p1, .int p2] I0) (dkQi g z (fun r I1 => dkF [] I0 I1 ∧ dkOk I1 ∧ ((dkN [(0, 0)] r ∧ True) ∨ (dkN [(1, 1)] r ∧ dkN [(0, 15)] p0 ∧ dkN [(0, 15)] p2 ∧ True)))) 0 0 (dkA z) := by
  refine Met.ofW (cc := cX6_in) (maxL := 3) (ret := (some .boolean)) (by decide) rfl ?_
  intro p e s m args below meth c s₁ B hml hv
  obtain ⟨ha, hW, hK, hT⟩ := hv
  have hx := B.exec
  have hb := B.bytes
  have hr := B.returns
  have hts := atoms_spec (ws := wsX6_in) B.pre
  have hown : s.vm.findClass RX6 = some m.cls := findClass_of_methodNamed B.named
  have hlocks := B.notSynchronized
  have hS : va_S (dkA z) s.heap s.heap [] := va_S.rf
  have hF : dkF [] I0 I0 := dkF_rf _ _
  have hl := lv_entry ([.int p0, .int p1, .int p2]) (n := 3) (Nat.le_of_ble_eq_true rfl)
  have hgo : entryFrame m args 3 = entryFrame m ([.int p0, .int p1, .int p2] : List Value).toArray 3 := by rw [ha]
  rw [hgo, lg_entry_eq]
  generalize (lg_sl ([.int p0, .int p1, .int p2]) ++ List.replicate (3 - (lg_sl ([.int p0, .int p1, .int p2])).length) Slot.unset).toArray = ls at hl ⊢
  have hl : lv_has ls 3 [(0, .int p0), (1, .int p1), (2, .int p2)] := hl
  refine lv_iload_n hx hb dX6_in_0 rfl (lv_at hl 0 rfl) ?_
  refine lv_iload_n hx hb dX6_in_1 rfl (lv_at hl 1 rfl) ?_
  refine lv_icmp_lt (tgt := 14) hx hb dX6_in_2 (by decide) (fun c1 => ?_) (fun c1 => ?_)
  ·
    have d2 : dkN [(-2147483648, -1)] p0 := dkN_le1 1 (dkN_top p0) dp1 (dkc_lt c1) rfl
    refine lv_iconst (v := 0) hx hb dX6_in_14 (by decide) ?_
    exact W.zret (v := 0) (ty := .boolean) hx hb hr rfl (fun t ht hW9 => ⟨⟨0, I0, rfl, ⟨hF, hO, Or.inl ⟨dkN_sub (dkN_lit (x := 0) (0) rfl) rfl, trivial⟩⟩, dkW_eq ht hW⟩, hS.F ht⟩) hS.2.2 dX6_in_15
  ·
    have d3 : dkN [(0, 2147483647)] p0 := dkN_le2 0 dp1 (dkN_top p0) (dkc_nlt c1) rfl
    refine lv_iload_n hx hb dX6_in_5 rfl (lv_at hl 0 rfl) ?_
    refine lv_iload_n hx hb dX6_in_6 rfl (lv_at hl 2 rfl) ?_
    refine lv_icmp_gt (tgt := 14) hx hb dX6_in_7 (by decide) (fun c4 => ?_) (fun c4 => ?_)
    ·
      refine lv_iconst (v := 0) hx hb dX6_in_14 (by decide) ?_
      exact W.zret (v := 0) (ty := .boolean) hx hb hr rfl (fun t ht hW9 => ⟨⟨0, I0, rfl, ⟨hF, hO, Or.inl ⟨dkN_sub (dkN_lit (x := 0) (0) rfl) rfl, trivial⟩⟩, dkW_eq ht hW⟩, hS.F ht⟩) hS.2.2 dX6_in_15
    ·
      have d5 : dkN [(0, 15)] p2 := dkN_le2 0 d3 dp2 (dkc_nlt c4) rfl
      have d6 : dkN [(0, 15)] p0 := dkN_le1 0 d3 dp2 (dkc_nlt c4) rfl
      refine lv_iconst (v := 1) hx hb dX6_in_10 (by decide) ?_
      refine lv_goto (tgt := 15) hx hb dX6_in_11 (by decide) ?_
      exact W.zret (v := 1) (ty := .boolean) hx hb hr rfl (fun t ht hW9 => ⟨⟨1, I0, rfl, ⟨hF, hO, Or.inr (⟨dkN_sub (dkN_lit (x := 1) (1) rfl) rfl, dkN_sub d6 rfl, dkN_sub d5 rfl, trivial⟩)⟩, dkW_eq ht hW⟩, hS.F ht⟩) hS.2.2 dX6_in_15
set_option maxHeartbeats 4000000 in
set_option maxRecDepth 100000 in
theorem c_X6_trace_0 (l : Launch) (g : dkG) (z : Nat) (I0 : dkI) (p0 : Int32)  (hO : dkOk I0) : Met l yX6_trace wsX6_trace (dkR 1) (dkPc g z [.ref (z + 340), .int p0] I0) (dkQi g z (fun r I1 => dkF [] I0 I1 ∧ dkOk I1 ∧ ((True ∧ True)))) 0 0 (dkA z) := by
  refine Met.ofW (cc := cX6_trace) (maxL := 2) (ret := (some .int)) (by decide) rfl ?_
  intro p e s m args below meth c s₁ B hml hv
  obtain ⟨ha, hW, hK, hT⟩ := hv
  have hx := B.exec
  have hb := B.bytes
  have hr := B.returns
  have hts := atoms_spec (ws := wsX6_trace) B.pre
  have hown : s.vm.findClass RX6 = some m.cls := findClass_of_methodNamed B.named
  have hlocks := B.notSynchronized
  have hS : va_S (dkA z) s.heap s.heap [] := va_S.rf
  have hF : dkF [] I0 I0 := dkF_rf _ _
  have hl := lv_entry ([.ref (z + 340), .int p0]) (n := 2) (Nat.le_of_ble_eq_true rfl)
  have hgo : entryFrame m args 2 = entryFrame m ([.ref (z + 340), .int p0] : List Value).toArray 2 := by rw [ha]
  rw [hgo, lg_entry_eq]
  generalize (lg_sl ([.ref (z + 340), .int p0]) ++ List.replicate (2 - (lg_sl ([.ref (z + 340), .int p0])).length) Slot.unset).toArray = ls at hl ⊢
  have hl : lv_has ls 2 [(0, .ref (z + 340)), (1, .int p0)] := hl
  refine lv_iload_n hx hb dX6_trace_0 rfl (lv_at hl 1 rfl) ?_
  refine lv_iconst (v := 0) hx hb dX6_trace_1 (by decide) ?_
  refine lv_aload_n hx hb dX6_trace_2 rfl (lv_at hl 0 rfl) ?_
  refine dk_get (k := 340) hx hb hts iX6_trace_6 hown hK (dk_at340 hW) rfl 25 (by decide) (hts (.fieldLink RX6 252 "DogKingsModel" "traced" "I") (List.mem_of_getElem? (i := 1) rfl)) rfl dX6_trace_3 ?_
  refine lv_topi (fun v1 ev1 => ?_)
  have dv1 : dkN [(0, 16)] v1 := by rw [ev1]; exact (hO 340 25)
  refine lv_iconst (v := 1) hx hb dX6_trace_6 (by decide) ?_
  refine lv_isub hx hb dX6_trace_7 ?_
  refine lv_topi (fun v2 ev2 => ?_)
  have dv2 : dkN [(-1, 15)] v2 := by rw [ev2]; exact dkN_subt dv1 (dkN_lit (x := 1) (1) rfl) rfl
  refine dk_Si (As := [.int p0, .int 0, .int v2]) (rest := []) ⟨hx, hb, hml, hown, hts⟩ (c_X6_in_21 l g z I0 p0 0 v2 (dkN_lit (x := 0) (0) rfl) dv2 hO) (va_cwS 3 hts gX6_trace_X6_in rfl rfl rfl (by decide +kernel) ⟨Nat.le_of_ble_eq_true rfl, Nat.le_of_ble_eq_true rfl⟩) hK hT hW hS rfl hl.1 rfl (Nat.le_of_ble_eq_true rfl) dX6_trace_8 ⟨Nat.zero_le _, Nat.zero_le _⟩ (fun v3 I3 H3 L3 hp3 hW hS => ?_)
  obtain ⟨hF3, hO, hc3⟩ := hp3
  have hF := dkF_call hF hF3 rfl
  rcases hc3 with ⟨dv3, -⟩ | hc3
  ·
    refine lv_if_eq (tgt := 23) hx hb dX6_trace_11 (by decide) (fun c4 => ?_) (fun c4 => ?_)
    ·
      refine lv_ldc (v := (-1000000)) hx hb hown (hts (.constant RX6 50 (-1000000)) (List.mem_of_getElem? (i := 3) rfl)) dX6_trace_23 ?_
      exact W.iret (v := (-1000000)) hx hb hr (fun t ht hW9 => ⟨⟨(-1000000), I3, rfl, ⟨hF, hO, ⟨trivial, trivial⟩⟩, dkW_eq ht hW⟩, hS.F ht⟩) hS.2.2 dX6_trace_25
    ·
      exact (dkN_nil (show dkN [] v3 from dkN_ne1 (0) dv3 (dkN_lit (x := 0) (0) rfl) (dk_ne c4) rfl)).elim
  ·
    obtain ⟨dv3, a3_0, a3_2, -⟩ := hc3
    have d5 : dkN [(0, 15)] p0 := dkN_eq1 (dkN_top p0) a3_0 rfl rfl
    have d6 : dkN [(0, 15)] v2 := dkN_eq1 dv2 a3_2 rfl rfl
    refine lv_if_eq (tgt := 23) hx hb dX6_trace_11 (by decide) (fun c7 => ?_) (fun c7 => ?_)
    ·
      exact (dkN_nil (show dkN [] v3 from dkN_eq1 dv3 (dkN_lit (x := 0) (0) rfl) (congrArg Int32.toInt c7) rfl)).elim
    ·
      refine lv_aload_n hx hb dX6_trace_14 rfl (lv_at hl 0 rfl) ?_
      refine dk_get (k := 340) hx hb hts iX6_trace_6 hown hK (dk_at340 hW) rfl 24 (by decide) (hts (.fieldLink RX6 47 "DogKingsModel" "trace" "[I") (List.mem_of_getElem? (i := 2) rfl)) rfl dX6_trace_15 ?_
      refine lv_iload_n hx hb dX6_trace_18 rfl (lv_at hl 1 rfl) ?_
      refine dk_ild (k := 353) hx hb hK (dk_at353 hW) (dkN_in (n := 16) d5 rfl) dX6_trace_19 ?_
      refine lv_topi (fun v8 ev8 => ?_)
      refine lv_goto (tgt := 25) hx hb dX6_trace_20 (by decide) ?_
      exact W.iret (v := v8) hx hb hr (fun t ht hW9 => ⟨⟨v8, I3, rfl, ⟨hF, hO, ⟨trivial, trivial⟩⟩, dkW_eq ht hW⟩, hS.F ht⟩) hS.2.2 dX6_trace_25
set_option maxHeartbeats 4000000 in
set_option maxRecDepth 100000 in
theorem c_X5_rowsThatStand_0 (l : Launch) (g : dkG) (z : Nat) (I0 : dkI)  (hO : dkOk I0) : Met l yX5_rowsThatStand wsX5_rowsThatStand (dkR 1) (dkPc g z [.ref (z + 0)] I0) (dkQi g z (fun r I1 => dkF [] I0 I1 ∧ dkOk I1 ∧ ((True ∧ True)))) 0 0 (dkA z) := by
  refine Met.ofW (cc := cX5_rowsThatStand) (maxL := 3) (ret := (some .int)) (by decide) rfl ?_
  intro p e s m args below meth c s₁ B hml hv
  obtain ⟨ha, hW, hK, hT⟩ := hv
  have hx := B.exec
  have hb := B.bytes
  have hr := B.returns
  have hts := atoms_spec (ws := wsX5_rowsThatStand) B.pre
  have hown : s.vm.findClass RX5 = some m.cls := findClass_of_methodNamed B.named
  have hlocks := B.notSynchronized
  have hS : va_S (dkA z) s.heap s.heap [] := va_S.rf
  have hF : dkF [] I0 I0 := dkF_rf _ _
  have hl := lv_entry ([.ref (z + 0)]) (n := 3) (Nat.le_of_ble_eq_true rfl)
  have hgo : entryFrame m args 3 = entryFrame m ([.ref (z + 0)] : List Value).toArray 3 := by rw [ha]
  rw [hgo, lg_entry_eq]
  generalize (lg_sl ([.ref (z + 0)]) ++ List.replicate (3 - (lg_sl ([.ref (z + 0)])).length) Slot.unset).toArray = ls at hl ⊢
  have hl : lv_has ls 3 [(0, .ref (z + 0))] := hl
  have C4 : ∀ (n : Nat), ∀ (I : dkI) (H : Heap) (locs : List Loc) (ls : Array Slot) (x4_1 : Int32) (x4_2 : Int32), (8 - x4_2.toInt).toNat < n → dkW g z I H → va_S (dkA z) s.heap H locs → dkF [] I0 I → dkOk I → dkN [(0, 8)] x4_2 → lv_has ls 3 [(0, .ref (z + 0)), (1, .int x4_1), (2, .int x4_2)] → W p l e (headSpec wsX5_rowsThatStand (dkR 1)).room s m args below meth c H locs 0 0 (MQ below (dkQi g z (fun r I1 => dkF [] I0 I1 ∧ dkOk I1 ∧ ((True ∧ True)))) args s 0 0 (dkA z)) (F0 m 4 ls []) := by
    intro n
    induction n with
    | zero => intro I H locs ls x4_1 x4_2 hn; exact absurd hn (Nat.not_lt_zero _)
    | succ n ih4 =>
      intro I4_ H locs ls x4_1 x4_2 hn4 hW hS hF_4 hO k4_1 hl
      have hF := hF_4
      have C21 : ∀ (I : dkI) (H : Heap) (locs : List Loc) (ls : Array Slot) (x21_1 : Int32), dkW g z I H → va_S (dkA z) s.heap H locs → dkF [] I0 I → dkOk I → dkN [(0, 7)] x4_2 → lv_has ls 3 [(0, .ref (z + 0)), (1, .int x21_1), (2, .int x4_2)] → W p l e (headSpec wsX5_rowsThatStand (dkR 1)).room s m args below meth c H locs 0 0 (MQ below (dkQi g z (fun r I1 => dkF [] I0 I1 ∧ dkOk I1 ∧ ((True ∧ True)))) args s 0 0 (dkA z)) (F0 m 21 ls []) := by
        intro I21_ H locs ls x21_1 hW hS hF_21 hO r21_0 hl
        have hF := hF_21
        obtain ⟨v1, ev1⟩ : ∃ y : Int32, y = x4_2 + 1 := ⟨_, rfl⟩
        have dv1 : dkN [(1, 8)] v1 := by rw [ev1]; exact dkN_add r21_0 (dkN_lit (x := 1) (1) rfl) rfl
        refine lv_iinc (v := v1) (lv' := [(2, .int v1), (0, .ref (z + 0)), (1, .int x21_1)]) hx hb dX5_rowsThatStand_21 hl (k := 2) rfl (by rw [ev1]; rfl) (by decide) rfl (fun ls hl => ?_)
        refine lv_goto (tgt := 4) hx hb dX5_rowsThatStand_24 (by decide) ?_
        exact ih4 I21_ _ _ ls x21_1 v1 (dk_near hn4 (by rw [ev1]; exact dk_inc r21_0 rfl) (dkN_lt r21_0 rfl)) hW hS hF hO (dkN_sub dv1 rfl) (lv_sub hl [1, 2, 0] rfl)
      refine lv_iload_n hx hb dX5_rowsThatStand_4 rfl (lv_at hl 2 rfl) ?_
      refine lv_bipush (v := 8) hx hb dX5_rowsThatStand_5 (by decide) ?_
      refine lv_icmp_ge (tgt := 27) hx hb dX5_rowsThatStand_7 (by decide) (fun c2 => ?_) (fun c2 => ?_)
      ·
        have d3 : dkN [(8, 8)] x4_2 := dkN_le2 0 (dkN_lit (x := 8) (8) rfl) k4_1 (dkc_le c2) rfl
        refine lv_iload_n hx hb dX5_rowsThatStand_27 rfl (lv_at hl 1 rfl) ?_
        exact W.iret (v := x4_1) hx hb hr (fun t ht hW9 => ⟨⟨x4_1, I4_, rfl, ⟨hF, hO, ⟨trivial, trivial⟩⟩, dkW_eq ht hW⟩, hS.F ht⟩) hS.2.2 dX5_rowsThatStand_28
      ·
        have d4 : dkN [(0, 7)] x4_2 := dkN_le1 1 k4_1 (dkN_lit (x := 8) (8) rfl) (dkc_nle c2) rfl
        refine lv_aload_n hx hb dX5_rowsThatStand_10 rfl (lv_at hl 0 rfl) ?_
        refine lv_iload_n hx hb dX5_rowsThatStand_11 rfl (lv_at hl 2 rfl) ?_
        refine dk_Vi (As := [.int x4_2]) (rest := []) ⟨hx, hb, hml, hown, hts⟩ (c_X5_isMissing_0 l g z I4_ x4_2 d4 hO) (cwV 1 hts gX5_rowsThatStand_X5_isMissing rfl rfl rfl (by decide +kernel) ⟨Nat.le_of_ble_eq_true rfl, Nat.le_of_ble_eq_true rfl⟩) (dk_at0 hW) rfl hK hT hW hS rfl hl.1 rfl (Nat.le_of_ble_eq_true rfl) dX5_rowsThatStand_12 ⟨Nat.zero_le _, Nat.zero_le _⟩ (fun v5 I5 H5 L5 hp5 hW hS => ?_)
        obtain ⟨hF5, hO, hc5⟩ := hp5
        have hF := dkF_call hF hF5 rfl
        obtain ⟨dv5, -⟩ := hc5
        refine lv_if_ne (tgt := 21) hx hb dX5_rowsThatStand_15 (by decide) (fun c6 => ?_) (fun c6 => ?_)
        ·
          have d7 : dkN [(1, 1)] v5 := dkN_ne1 (0) dv5 (dkN_lit (x := 0) (0) rfl) (dk_ne c6) rfl
          exact C21 I5 _ _ ls x4_1 hW hS hF hO (dkN_sub d4 rfl) (lv_sub hl [0, 1, 2] rfl)
        ·
          have d8 : dkN [(0, 0)] v5 := dkN_eq1 dv5 (dkN_lit (x := 0) (0) rfl) (congrArg Int32.toInt c6) rfl
          obtain ⟨v9, ev9⟩ : ∃ y : Int32, y = x4_1 + 1 := ⟨_, rfl⟩
          refine lv_iinc (v := v9) (lv' := [(1, .int v9), (0, .ref (z + 0)), (2, .int x4_2)]) hx hb dX5_rowsThatStand_18 hl (k := 1) rfl (by rw [ev9]; rfl) (by decide) rfl (fun ls hl => ?_)
          exact C21 I5 _ _ ls v9 hW hS hF hO (dkN_sub d4 rfl) (lv_sub hl [1, 0, 2] rfl)
  refine lv_iconst (v := 0) hx hb dX5_rowsThatStand_0 (by decide) ?_
  refine lv_istore_n (lv' := [(1, .int 0), (0, .ref (z + 0))]) hx hb dX5_rowsThatStand_1 rfl hl (by decide) rfl (fun ls hl => ?_)
  refine lv_iconst (v := 0) hx hb dX5_rowsThatStand_2 (by decide) ?_
  refine lv_istore_n (lv' := [(2, .int 0), (1, .int 0), (0, .ref (z + 0))]) hx hb dX5_rowsThatStand_3 rfl hl (by decide) rfl (fun ls hl => ?_)
  exact C4 _ I0 _ _ ls 0 0 (Nat.lt_succ_self _) hW hS hF hO (dkN_sub (dkN_lit (x := 0) (0) rfl) rfl) (lv_sub hl [2, 1, 0] rfl)
set_option maxHeartbeats 4000000 in
set_option maxRecDepth 100000 in
theorem c_X4_allReigns_0 (l : Launch) (g : dkG) (z : Nat) (I0 : dkI) (t0 : Nat) (ht0 : dkT t0)  (hO : dkOk I0) : Met l yX4_allReigns wsX4_allReigns (dkR 0) (dkPc g z [.ref (z + t0)] I0) (dkQi g z (fun r I1 => dkF [] I0 I1 ∧ dkOk I1 ∧ ((True ∧ True)))) 0 0 (dkA z) := by
  refine Met.ofW (cc := cX4_allReigns) (maxL := 3) (ret := (some .int)) (by decide) rfl ?_
  intro p e s m args below meth c s₁ B hml hv
  obtain ⟨ha, hW, hK, hT⟩ := hv
  have hx := B.exec
  have hb := B.bytes
  have hr := B.returns
  have hts := atoms_spec (ws := wsX4_allReigns) B.pre
  have hown : s.vm.findClass RX4 = some m.cls := findClass_of_methodNamed B.named
  have hlocks := B.notSynchronized
  have hS : va_S (dkA z) s.heap s.heap [] := va_S.rf
  have hF : dkF [] I0 I0 := dkF_rf _ _
  have hl := lv_entry ([.ref (z + t0)]) (n := 3) (Nat.le_of_ble_eq_true rfl)
  have hgo : entryFrame m args 3 = entryFrame m ([.ref (z + t0)] : List Value).toArray 3 := by rw [ha]
  rw [hgo, lg_entry_eq]
  generalize (lg_sl ([.ref (z + t0)]) ++ List.replicate (3 - (lg_sl ([.ref (z + t0)])).length) Slot.unset).toArray = ls at hl ⊢
  have hl : lv_has ls 3 [(0, .ref (z + t0))] := hl
  have C4 : ∀ (n : Nat), ∀ (I : dkI) (H : Heap) (locs : List Loc) (ls : Array Slot) (x4_1 : Int32) (x4_2 : Int32), (5 - x4_2.toInt).toNat < n → dkW g z I H → va_S (dkA z) s.heap H locs → dkF [] I0 I → dkOk I → dkN [(0, 5)] x4_2 → lv_has ls 3 [(0, .ref (z + t0)), (1, .int x4_1), (2, .int x4_2)] → W p l e (headSpec wsX4_allReigns (dkR 0)).room s m args below meth c H locs 0 0 (MQ below (dkQi g z (fun r I1 => dkF [] I0 I1 ∧ dkOk I1 ∧ ((True ∧ True)))) args s 0 0 (dkA z)) (F0 m 4 ls []) := by
    intro n
    induction n with
    | zero => intro I H locs ls x4_1 x4_2 hn; exact absurd hn (Nat.not_lt_zero _)
    | succ n ih4 =>
      intro I4_ H locs ls x4_1 x4_2 hn4 hW hS hF_4 hO k4_1 hl
      have hF := hF_4
      refine lv_iload_n hx hb dX4_allReigns_4 rfl (lv_at hl 2 rfl) ?_
      refine lv_aload_n hx hb dX4_allReigns_5 rfl (lv_at hl 0 rfl) ?_
      refine dk_get (k := t0) hx hb hts iX4_allReigns_4 hown hK (dk_aT0 ht0 hW) rfl 4 (by decide) (hts (.fieldLink RX4 55 "DogKings$Town" "people" "I") (List.mem_of_getElem? (i := 1) rfl)) rfl dX4_allReigns_6 ?_
      refine lv_topi (fun v1 ev1 => ?_)
      have dv1 : dkN [(0, 5)] v1 := by rw [ev1]; exact (dkO_at hO ht0 (c := 0) (by decide) 4)
      refine lv_icmp_ge (tgt := 27) hx hb dX4_allReigns_9 (by decide) (fun c2 => ?_) (fun c2 => ?_)
      ·
        refine lv_iload_n hx hb dX4_allReigns_27 rfl (lv_at hl 1 rfl) ?_
        exact W.iret (v := x4_1) hx hb hr (fun t ht hW9 => ⟨⟨x4_1, I4_, rfl, ⟨hF, hO, ⟨trivial, trivial⟩⟩, dkW_eq ht hW⟩, hS.F ht⟩) hS.2.2 dX4_allReigns_28
      ·
        have d3 : dkN [(1, 5)] v1 := dkN_le2 1 k4_1 dv1 (dkc_nle c2) rfl
        have f4 : dkN [(1, 5)] (I4_ t0 4) := by rw [← ev1]; exact d3
        have d5 : dkN [(0, 4)] x4_2 := dkN_le1 1 k4_1 dv1 (dkc_nle c2) rfl
        refine lv_iload_n hx hb dX4_allReigns_12 rfl (lv_at hl 1 rfl) ?_
        refine lv_aload_n hx hb dX4_allReigns_13 rfl (lv_at hl 0 rfl) ?_
        refine dk_get (k := t0) hx hb hts iX4_allReigns_4 hown hK (dk_aT0 ht0 hW) rfl 10 (by decide) (hts (.fieldLink RX4 27 "DogKings$Town" "reigns" "[I") (List.mem_of_getElem? (i := 2) rfl)) rfl dX4_allReigns_14 ?_
        refine lv_iload_n hx hb dX4_allReigns_17 rfl (lv_at hl 2 rfl) ?_
        refine dk_ild (k := (t0 + 6)) hx hb hK (dk_aT6 ht0 hW) (dkN_in (n := 5) d5 rfl) dX4_allReigns_18 ?_
        refine lv_topi (fun v6 ev6 => ?_)
        refine lv_iadd hx hb dX4_allReigns_19 ?_
        refine lv_topi (fun v7 ev7 => ?_)
        refine lv_istore_n (lv' := [(1, .int v7), (0, .ref (z + t0)), (2, .int x4_2)]) hx hb dX4_allReigns_20 rfl hl (by decide) rfl (fun ls hl => ?_)
        obtain ⟨v8, ev8⟩ : ∃ y : Int32, y = x4_2 + 1 := ⟨_, rfl⟩
        have dv8 : dkN [(1, 5)] v8 := by rw [ev8]; exact dkN_add d5 (dkN_lit (x := 1) (1) rfl) rfl
        refine lv_iinc (v := v8) (lv' := [(2, .int v8), (1, .int v7), (0, .ref (z + t0))]) hx hb dX4_allReigns_21 hl (k := 2) rfl (by rw [ev8]; rfl) (by decide) rfl (fun ls hl => ?_)
        refine lv_goto (tgt := 4) hx hb dX4_allReigns_24 (by decide) ?_
        exact ih4 I4_ _ _ ls v7 v8 (dk_near hn4 (by rw [ev8]; exact dk_inc d5 rfl) (dkN_lt d5 rfl)) hW hS hF hO (dkN_sub dv8 rfl) (lv_sub hl [2, 1, 0] rfl)
  refine lv_iconst (v := 0) hx hb dX4_allReigns_0 (by decide) ?_
  refine lv_istore_n (lv' := [(1, .int 0), (0, .ref (z + t0))]) hx hb dX4_allReigns_1 rfl hl (by decide) rfl (fun ls hl => ?_)
  refine lv_iconst (v := 0) hx hb dX4_allReigns_2 (by decide) ?_
  refine lv_istore_n (lv' := [(2, .int 0), (1, .int 0), (0, .ref (z + t0))]) hx hb dX4_allReigns_3 rfl hl (by decide) rfl (fun ls hl => ?_)
  exact C4 _ I0 _ _ ls 0 0 (Nat.lt_succ_self _) hW hS hF hO (dkN_sub (dkN_lit (x := 0) (0) rfl) rfl) (lv_sub hl [2, 1, 0] rfl)
