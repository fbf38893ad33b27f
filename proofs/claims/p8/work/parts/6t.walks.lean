set_option maxHeartbeats 4000000 in
set_option maxRecDepth 100000 in
theorem fx_X5_fault_1 (l : Launch) (g : dkG) (z : Nat) (I0 : dkI)  (hO : dkOk I0) : Met l yX5_fault wsX5_fault (dkR 0) (dkPc g z [.ref (z + 0)] I0) (dkQi g z (fun r I1 => dkF [] I0 I1 ∧ dkOk I1 ∧ ((True ∧ r = I0 12 5 ∧ True)))) 0 0 (dkA z) := by
  refine Met.ofW (cc := cX5_fault) (maxL := 1) (ret := (some .int)) (by decide) rfl ?_
  intro p e s m args below meth c s₁ B hml hv
  obtain ⟨ha, hW, hK, hT⟩ := hv
  have hx := B.exec
  have hb := B.bytes
  have hr := B.returns
  have hts := atoms_spec (ws := wsX5_fault) B.pre
  have hown : s.vm.findClass RX5 = some m.cls := findClass_of_methodNamed B.named
  have hlocks := B.notSynchronized
  have hS : va_S (dkA z) s.heap s.heap [] := va_S.rf
  have hF : dkF [] I0 I0 := dkF_rf _ _
  have hl := lv_entry ([.ref (z + 0)]) (n := 1) (Nat.le_of_ble_eq_true rfl)
  have hgo : entryFrame m args 1 = entryFrame m ([.ref (z + 0)] : List Value).toArray 1 := by rw [ha]
  rw [hgo, lg_entry_eq]
  generalize (lg_sl ([.ref (z + 0)]) ++ List.replicate (1 - (lg_sl ([.ref (z + 0)])).length) Slot.unset).toArray = ls at hl ⊢
  have hl : lv_has ls 1 [(0, .ref (z + 0))] := hl
  refine lv_aload_n hx hb dX5_fault_0 rfl (lv_at hl 0 rfl) ?_
  refine dk_get (k := 0) hx hb hts iX5_fault_5 hown hK (dk_at0 hW) rfl 4 (by decide) (hts (.fieldLink RX5 24 "DogKings" "reader" "LDogKings$Reader;") (List.mem_of_getElem? (i := 1) rfl)) rfl dX5_fault_1 ?_
  refine dk_get (k := 12) hx hb hts iX5_fault_2 hown hK (dk_at12 hW) rfl 5 (by decide) (hts (.fieldLink RX5 123 "DogKings$Reader" "faultNumber" "I") (List.mem_of_getElem? (i := 2) rfl)) rfl dX5_fault_4 ?_
  refine lv_topi (fun v1 ev1 => ?_)
  have xv1 : v1 = I0 12 5 := ev1.trans rfl
  exact W.iret (v := v1) hx hb hr (fun t ht hW9 => ⟨⟨v1, I0, rfl, ⟨hF, hO, ⟨trivial, xv1, trivial⟩⟩, dkW_eq ht hW⟩, hS.F ht⟩) hS.2.2 dX5_fault_7
set_option maxHeartbeats 4000000 in
set_option maxRecDepth 100000 in
theorem fx_X6_fault_1 (l : Launch) (g : dkG) (z : Nat) (I0 : dkI)  (hO : dkOk I0) : Met l yX6_fault wsX6_fault (dkR 0) (dkPc g z [.ref (z + 340)] I0) (dkQi g z (fun r I1 => dkF [] I0 I1 ∧ dkOk I1 ∧ ((True ∧ r = I0 340 7 ∧ True)))) 0 0 (dkA z) := by
  refine Met.ofW (cc := cX6_fault) (maxL := 1) (ret := (some .int)) (by decide) rfl ?_
  intro p e s m args below meth c s₁ B hml hv
  obtain ⟨ha, hW, hK, hT⟩ := hv
  have hx := B.exec
  have hb := B.bytes
  have hr := B.returns
  have hts := atoms_spec (ws := wsX6_fault) B.pre
  have hown : s.vm.findClass RX6 = some m.cls := findClass_of_methodNamed B.named
  have hlocks := B.notSynchronized
  have hS : va_S (dkA z) s.heap s.heap [] := va_S.rf
  have hF : dkF [] I0 I0 := dkF_rf _ _
  have hl := lv_entry ([.ref (z + 340)]) (n := 1) (Nat.le_of_ble_eq_true rfl)
  have hgo : entryFrame m args 1 = entryFrame m ([.ref (z + 340)] : List Value).toArray 1 := by rw [ha]
  rw [hgo, lg_entry_eq]
  generalize (lg_sl ([.ref (z + 340)]) ++ List.replicate (1 - (lg_sl ([.ref (z + 340)])).length) Slot.unset).toArray = ls at hl ⊢
  have hl : lv_has ls 1 [(0, .ref (z + 340))] := hl
  refine lv_aload_n hx hb dX6_fault_0 rfl (lv_at hl 0 rfl) ?_
  refine dk_get (k := 340) hx hb hts iX6_fault_6 hown hK (dk_at340 hW) rfl 7 (by decide) (hts (.fieldLink RX6 108 "DogKingsModel" "faultKind" "I") (List.mem_of_getElem? (i := 1) rfl)) rfl dX6_fault_1 ?_
  refine lv_topi (fun v1 ev1 => ?_)
  have xv1 : v1 = I0 340 7 := ev1.trans rfl
  exact W.iret (v := v1) hx hb hr (fun t ht hW9 => ⟨⟨v1, I0, rfl, ⟨hF, hO, ⟨trivial, xv1, trivial⟩⟩, dkW_eq ht hW⟩, hS.F ht⟩) hS.2.2 dX6_fault_4
