set_option maxHeartbeats 4000000 in
set_option maxRecDepth 100000 in
theorem fx_X5_isDog_1 (l : Launch) (g : dkG) (z : Nat) (I0 : dkI) (p0 : Int32)  (hO : dkOk I0) : Met l yX5_isDog wsX5_isDog (dkR 0) (dkPc g z [.ref (z + 0), .int p0] I0) (dkQi g z (fun r I1 => dkF [] I0 I1 ∧ dkOk I1 ∧ ((dkN [(0, 0)] r ∧ dkN [(-2147483648, -1)] p0 ∧ p0.toInt + 1 ≤ (0 : Int) ∧ r = 0 ∧ True) ∨ (dkN [(0, 0)] r ∧ dkN [(0, 2147483647)] p0 ∧ (0 : Int) + 0 ≤ p0.toInt ∧ (I0 25 11).toInt + 0 ≤ p0.toInt ∧ r = 0 ∧ True) ∨ (dkN [(1, 1)] r ∧ dkN [(0, 5)] p0 ∧ dkN [(1, 6)] (I1 25 11) ∧ (0 : Int) + 0 ≤ p0.toInt ∧ p0.toInt + 1 ≤ (I0 25 11).toInt ∧ r = 1 ∧ True)))) 0 0 (dkA z) := by
  refine Met.ofW (cc := cX5_isDog) (maxL := 2) (ret := (some .boolean)) (by decide) rfl ?_
  intro p e s m args below meth c s₁ B hml hv
  obtain ⟨ha, hW, hK, hT⟩ := hv
  have hx := B.exec
  have hb := B.bytes
  have hr := B.returns
  have hts := atoms_spec (ws := wsX5_isDog) B.pre
  have hown : s.vm.findClass RX5 = some m.cls := findClass_of_methodNamed B.named
  have hlocks := B.notSynchronized
  have hS : va_S (dkA z) s.heap s.heap [] := va_S.rf
  have hF : dkF [] I0 I0 := dkF_rf _ _
  have hl := lv_entry ([.ref (z + 0), .int p0]) (n := 2) (Nat.le_of_ble_eq_true rfl)
  have hgo : entryFrame m args 2 = entryFrame m ([.ref (z + 0), .int p0] : List Value).toArray 2 := by rw [ha]
  rw [hgo, lg_entry_eq]
  generalize (lg_sl ([.ref (z + 0), .int p0]) ++ List.replicate (2 - (lg_sl ([.ref (z + 0), .int p0])).length) Slot.unset).toArray = ls at hl ⊢
  have hl : lv_has ls 2 [(0, .ref (z + 0)), (1, .int p0)] := hl
  refine lv_iload_n hx hb dX5_isDog_0 rfl (lv_at hl 1 rfl) ?_
  refine lv_if_lt (tgt := 19) hx hb dX5_isDog_1 (by decide) (fun c1 => ?_) (fun c1 => ?_)
  ·
    have q2 : p0.toInt + 1 ≤ (0 : Int) := (dkc_lt c1)
    have d3 : dkN [(-2147483648, -1)] p0 := dkN_le1 1 (dkN_top p0) (dkN_lit (x := 0) (0) rfl) (dkc_lt c1) rfl
    refine lv_iconst (v := 0) hx hb dX5_isDog_19 (by decide) ?_
    exact W.zret (v := 0) (ty := .boolean) hx hb hr rfl (fun t ht hW9 => ⟨⟨0, I0, rfl, ⟨hF, hO, Or.inl ⟨dkN_sub (dkN_lit (x := 0) (0) rfl) rfl, dkN_sub d3 rfl, q2, rfl, trivial⟩⟩, dkW_eq ht hW⟩, hS.F ht⟩) hS.2.2 dX5_isDog_20
  ·
    have q4 : (0 : Int) + 0 ≤ p0.toInt := (dkc_nlt c1)
    have d5 : dkN [(0, 2147483647)] p0 := dkN_le2 0 (dkN_lit (x := 0) (0) rfl) (dkN_top p0) (dkc_nlt c1) rfl
    refine lv_iload_n hx hb dX5_isDog_4 rfl (lv_at hl 1 rfl) ?_
    refine lv_aload_n hx hb dX5_isDog_5 rfl (lv_at hl 0 rfl) ?_
    refine dk_get (k := 0) hx hb hts iX5_isDog_5 hown hK (dk_at0 hW) rfl 5 (by decide) (hts (.fieldLink RX5 31 "DogKings" "now" "LDogKings$Town;") (List.mem_of_getElem? (i := 1) rfl)) rfl dX5_isDog_6 ?_
    refine dk_get (k := 25) hx hb hts iX5_isDog_4 hown hK (dk_at25 hW) rfl 11 (by decide) (hts (.fieldLink RX5 120 "DogKings$Town" "dogs" "I") (List.mem_of_getElem? (i := 2) rfl)) rfl dX5_isDog_9 ?_
    refine lv_topi (fun v6 ev6 => ?_)
    have dv6 : dkN [(0, 6)] v6 := by rw [ev6]; exact (hO 25 11)
    have xv6 : v6 = I0 25 11 := ev6.trans rfl
    refine lv_icmp_ge (tgt := 19) hx hb dX5_isDog_12 (by decide) (fun c7 => ?_) (fun c7 => ?_)
    ·
      have q8 : (I0 25 11).toInt + 0 ≤ p0.toInt := by first | (rw [← xv6]; exact (dkc_le c7)) | (subst xv6; exact (dkc_le c7))
      refine lv_iconst (v := 0) hx hb dX5_isDog_19 (by decide) ?_
      exact W.zret (v := 0) (ty := .boolean) hx hb hr rfl (fun t ht hW9 => ⟨⟨0, I0, rfl, ⟨hF, hO, Or.inr (Or.inl ⟨dkN_sub (dkN_lit (x := 0) (0) rfl) rfl, dkN_sub d5 rfl, q4, q8, rfl, trivial⟩)⟩, dkW_eq ht hW⟩, hS.F ht⟩) hS.2.2 dX5_isDog_20
    ·
      have q9 : p0.toInt + 1 ≤ (I0 25 11).toInt := by first | (rw [← xv6]; exact (dkc_nle c7)) | (subst xv6; exact (dkc_nle c7))
      have d10 : dkN [(1, 6)] v6 := dkN_le2 1 d5 dv6 (dkc_nle c7) rfl
      have f11 : dkN [(1, 6)] (I0 25 11) := by rw [← ev6]; exact d10
      have d12 : dkN [(0, 5)] p0 := dkN_le1 1 d5 dv6 (dkc_nle c7) rfl
      refine lv_iconst (v := 1) hx hb dX5_isDog_15 (by decide) ?_
      refine lv_goto (tgt := 20) hx hb dX5_isDog_16 (by decide) ?_
      exact W.zret (v := 1) (ty := .boolean) hx hb hr rfl (fun t ht hW9 => ⟨⟨1, I0, rfl, ⟨hF, hO, Or.inr (Or.inr (⟨dkN_sub (dkN_lit (x := 1) (1) rfl) rfl, dkN_sub d12 rfl, (show dkN [(1, 6)] (I0 25 11) from dkN_sub f11 rfl), q4, q9, rfl, trivial⟩))⟩, dkW_eq ht hW⟩, hS.F ht⟩) hS.2.2 dX5_isDog_20
set_option maxHeartbeats 4000000 in
set_option maxRecDepth 100000 in
theorem fx_X5_isUpTo_13 (l : Launch) (g : dkG) (z : Nat) (I0 : dkI) (p0 : Int32) (p1 : Int32) (dp1 : dkN [(5, 5)] p1)  (hO : dkOk I0) : Met l yX5_isUpTo wsX5_isUpTo (dkR 0) (dkPc g z [.int p0, .int p1] I0) (dkQi g z (fun r I1 => dkF [] I0 I1 ∧ dkOk I1 ∧ ((dkN [(0, 0)] r ∧ dkN [(-2147483648, -1)] p0 ∧ p0.toInt + 1 ≤ (0 : Int) ∧ r = 0 ∧ True) ∨ (dkN [(0, 0)] r ∧ dkN [(6, 2147483647)] p0 ∧ (0 : Int) + 0 ≤ p0.toInt ∧ p1.toInt + 1 ≤ p0.toInt ∧ r = 0 ∧ True) ∨ (dkN [(1, 1)] r ∧ dkN [(0, 5)] p0 ∧ (0 : Int) + 0 ≤ p0.toInt ∧ p0.toInt + 0 ≤ p1.toInt ∧ r = 1 ∧ True)))) 0 0 (dkA z) := by
  refine Met.ofW (cc := cX5_isUpTo) (maxL := 2) (ret := (some .boolean)) (by decide) rfl ?_
  intro p e s m args below meth c s₁ B hml hv
  obtain ⟨ha, hW, hK, hT⟩ := hv
  have hx := B.exec
  have hb := B.bytes
  have hr := B.returns
  have hts := atoms_spec (ws := wsX5_isUpTo) B.pre
  have hown : s.vm.findClass RX5 = some m.cls := findClass_of_methodNamed B.named
  have hlocks := B.notSynchronized
  have hS : va_S (dkA z) s.heap s.heap [] := va_S.rf
  have hF : dkF [] I0 I0 := dkF_rf _ _
  have hl := lv_entry ([.int p0, .int p1]) (n := 2) (Nat.le_of_ble_eq_true rfl)
  have hgo : entryFrame m args 2 = entryFrame m ([.int p0, .int p1] : List Value).toArray 2 := by rw [ha]
  rw [hgo, lg_entry_eq]
  generalize (lg_sl ([.int p0, .int p1]) ++ List.replicate (2 - (lg_sl ([.int p0, .int p1])).length) Slot.unset).toArray = ls at hl ⊢
  have hl : lv_has ls 2 [(0, .int p0), (1, .int p1)] := hl
  refine lv_iload_n hx hb dX5_isUpTo_0 rfl (lv_at hl 0 rfl) ?_
  refine lv_if_lt (tgt := 13) hx hb dX5_isUpTo_1 (by decide) (fun c1 => ?_) (fun c1 => ?_)
  ·
    have q2 : p0.toInt + 1 ≤ (0 : Int) := (dkc_lt c1)
    have d3 : dkN [(-2147483648, -1)] p0 := dkN_le1 1 (dkN_top p0) (dkN_lit (x := 0) (0) rfl) (dkc_lt c1) rfl
    refine lv_iconst (v := 0) hx hb dX5_isUpTo_13 (by decide) ?_
    exact W.zret (v := 0) (ty := .boolean) hx hb hr rfl (fun t ht hW9 => ⟨⟨0, I0, rfl, ⟨hF, hO, Or.inl ⟨dkN_sub (dkN_lit (x := 0) (0) rfl) rfl, dkN_sub d3 rfl, q2, rfl, trivial⟩⟩, dkW_eq ht hW⟩, hS.F ht⟩) hS.2.2 dX5_isUpTo_14
  ·
    have q4 : (0 : Int) + 0 ≤ p0.toInt := (dkc_nlt c1)
    have d5 : dkN [(0, 2147483647)] p0 := dkN_le2 0 (dkN_lit (x := 0) (0) rfl) (dkN_top p0) (dkc_nlt c1) rfl
    refine lv_iload_n hx hb dX5_isUpTo_4 rfl (lv_at hl 0 rfl) ?_
    refine lv_iload_n hx hb dX5_isUpTo_5 rfl (lv_at hl 1 rfl) ?_
    refine lv_icmp_gt (tgt := 13) hx hb dX5_isUpTo_6 (by decide) (fun c6 => ?_) (fun c6 => ?_)
    ·
      have q7 : p1.toInt + 1 ≤ p0.toInt := (dkc_lt c6)
      have d8 : dkN [(6, 2147483647)] p0 := dkN_le2 1 dp1 d5 (dkc_lt c6) rfl
      refine lv_iconst (v := 0) hx hb dX5_isUpTo_13 (by decide) ?_
      exact W.zret (v := 0) (ty := .boolean) hx hb hr rfl (fun t ht hW9 => ⟨⟨0, I0, rfl, ⟨hF, hO, Or.inr (Or.inl ⟨dkN_sub (dkN_lit (x := 0) (0) rfl) rfl, dkN_sub d8 rfl, q4, q7, rfl, trivial⟩)⟩, dkW_eq ht hW⟩, hS.F ht⟩) hS.2.2 dX5_isUpTo_14
    ·
      have q9 : p0.toInt + 0 ≤ p1.toInt := (dkc_nlt c6)
      have d10 : dkN [(0, 5)] p0 := dkN_le1 0 d5 dp1 (dkc_nlt c6) rfl
      refine lv_iconst (v := 1) hx hb dX5_isUpTo_9 (by decide) ?_
      refine lv_goto (tgt := 14) hx hb dX5_isUpTo_10 (by decide) ?_
      exact W.zret (v := 1) (ty := .boolean) hx hb hr rfl (fun t ht hW9 => ⟨⟨1, I0, rfl, ⟨hF, hO, Or.inr (Or.inr (⟨dkN_sub (dkN_lit (x := 1) (1) rfl) rfl, dkN_sub d10 rfl, q4, q9, rfl, trivial⟩))⟩, dkW_eq ht hW⟩, hS.F ht⟩) hS.2.2 dX5_isUpTo_14
set_option maxHeartbeats 4000000 in
set_option maxRecDepth 100000 in
theorem fx_X5_isA_3 (l : Launch) (g : dkG) (z : Nat) (I0 : dkI) (p0 : Int32) (p1 : Int32) (dp1 : dkN [(0, 5)] p1)  (hO : dkOk I0) : Met l yX5_isA wsX5_isA (dkR 0) (dkPc g z [.int p0, .int p1] I0) (dkQi g z (fun r I1 => dkF [] I0 I1 ∧ dkOk I1 ∧ ((dkN [(1, 1)] r ∧ dkN [(0, 0)] p1 ∧ p1.toInt = (0 : Int) ∧ r = 1 ∧ True) ∨ (dkN [(1, 1)] r ∧ dkN [(1, 1)] p0 ∧ dkN [(1, 1)] p1 ∧ p1.toInt ≠ (0 : Int) ∧ p1.toInt = (1 : Int) ∧ p0.toInt = (1 : Int) ∧ r = 1 ∧ True) ∨ (dkN [(1, 1)] r ∧ dkN [(2, 2)] p0 ∧ dkN [(1, 1)] p1 ∧ p1.toInt ≠ (0 : Int) ∧ p1.toInt = (1 : Int) ∧ p0.toInt ≠ (1 : Int) ∧ p0.toInt = (2 : Int) ∧ r = 1 ∧ True) ∨ (dkN [(0, 0)] r ∧ dkN [(-2147483648, 0), (4, 2147483647)] p0 ∧ dkN [(1, 1)] p1 ∧ p1.toInt ≠ (0 : Int) ∧ p1.toInt = (1 : Int) ∧ p0.toInt ≠ (1 : Int) ∧ p0.toInt ≠ (2 : Int) ∧ p0.toInt ≠ (3 : Int) ∧ r = 0 ∧ True) ∨ (dkN [(1, 1)] r ∧ dkN [(3, 3)] p0 ∧ dkN [(1, 1)] p1 ∧ p1.toInt ≠ (0 : Int) ∧ p1.toInt = (1 : Int) ∧ p0.toInt ≠ (1 : Int) ∧ p0.toInt ≠ (2 : Int) ∧ p0.toInt = (3 : Int) ∧ r = 1 ∧ True) ∨ (dkN [(0, 0)] r ∧ dkN [(-2147483648, 1), (3, 2147483647)] p0 ∧ dkN [(2, 2)] p1 ∧ p1.toInt ≠ (0 : Int) ∧ p1.toInt ≠ (1 : Int) ∧ p1.toInt = (2 : Int) ∧ p0.toInt ≠ p1.toInt ∧ r = 0 ∧ True) ∨ (dkN [(1, 1)] r ∧ dkN [(2, 2)] p0 ∧ dkN [(2, 2)] p1 ∧ p1.toInt ≠ (0 : Int) ∧ p1.toInt ≠ (1 : Int) ∧ p1.toInt = (2 : Int) ∧ p0.toInt = p1.toInt ∧ r = 1 ∧ True) ∨ (dkN [(0, 0)] r ∧ dkN [(-2147483648, 2), (4, 2147483647)] p0 ∧ dkN [(3, 3)] p1 ∧ p1.toInt ≠ (0 : Int) ∧ p1.toInt ≠ (1 : Int) ∧ p1.toInt ≠ (2 : Int) ∧ p1.toInt = (3 : Int) ∧ p0.toInt ≠ p1.toInt ∧ r = 0 ∧ True) ∨ (dkN [(1, 1)] r ∧ dkN [(3, 3)] p0 ∧ dkN [(3, 3)] p1 ∧ p1.toInt ≠ (0 : Int) ∧ p1.toInt ≠ (1 : Int) ∧ p1.toInt ≠ (2 : Int) ∧ p1.toInt = (3 : Int) ∧ p0.toInt = p1.toInt ∧ r = 1 ∧ True) ∨ (dkN [(1, 1)] r ∧ dkN [(4, 4)] p0 ∧ dkN [(4, 4)] p1 ∧ p1.toInt ≠ (0 : Int) ∧ p1.toInt ≠ (1 : Int) ∧ p1.toInt ≠ (2 : Int) ∧ p1.toInt ≠ (3 : Int) ∧ p1.toInt = (4 : Int) ∧ p0.toInt = (4 : Int) ∧ r = 1 ∧ True) ∨ (dkN [(0, 0)] r ∧ dkN [(-2147483648, 3), (6, 2147483647)] p0 ∧ dkN [(4, 4)] p1 ∧ p1.toInt ≠ (0 : Int) ∧ p1.toInt ≠ (1 : Int) ∧ p1.toInt ≠ (2 : Int) ∧ p1.toInt ≠ (3 : Int) ∧ p1.toInt = (4 : Int) ∧ p0.toInt ≠ (4 : Int) ∧ p0.toInt ≠ (5 : Int) ∧ r = 0 ∧ True) ∨ (dkN [(1, 1)] r ∧ dkN [(5, 5)] p0 ∧ dkN [(4, 4)] p1 ∧ p1.toInt ≠ (0 : Int) ∧ p1.toInt ≠ (1 : Int) ∧ p1.toInt ≠ (2 : Int) ∧ p1.toInt ≠ (3 : Int) ∧ p1.toInt = (4 : Int) ∧ p0.toInt ≠ (4 : Int) ∧ p0.toInt = (5 : Int) ∧ r = 1 ∧ True) ∨ (dkN [(0, 0)] r ∧ dkN [(-2147483648, 4), (6, 2147483647)] p0 ∧ dkN [(5, 5)] p1 ∧ p1.toInt ≠ (0 : Int) ∧ p1.toInt ≠ (1 : Int) ∧ p1.toInt ≠ (2 : Int) ∧ p1.toInt ≠ (3 : Int) ∧ p1.toInt ≠ (4 : Int) ∧ p0.toInt ≠ p1.toInt ∧ r = 0 ∧ True) ∨ (dkN [(1, 1)] r ∧ dkN [(5, 5)] p0 ∧ dkN [(5, 5)] p1 ∧ p1.toInt ≠ (0 : Int) ∧ p1.toInt ≠ (1 : Int) ∧ p1.toInt ≠ (2 : Int) ∧ p1.toInt ≠ (3 : Int) ∧ p1.toInt ≠ (4 : Int) ∧ p0.toInt = p1.toInt ∧ r = 1 ∧ True)))) 0 0 (dkA z) := by
  refine Met.ofW (cc := cX5_isA) (maxL := 2) (ret := (some .boolean)) (by decide) rfl ?_
  intro p e s m args below meth c s₁ B hml hv
  obtain ⟨ha, hW, hK, hT⟩ := hv
  have hx := B.exec
  have hb := B.bytes
  have hr := B.returns
  have hts := atoms_spec (ws := wsX5_isA) B.pre
  have hown : s.vm.findClass RX5 = some m.cls := findClass_of_methodNamed B.named
  have hlocks := B.notSynchronized
  have hS : va_S (dkA z) s.heap s.heap [] := va_S.rf
  have hF : dkF [] I0 I0 := dkF_rf _ _
  have hl := lv_entry ([.int p0, .int p1]) (n := 2) (Nat.le_of_ble_eq_true rfl)
  have hgo : entryFrame m args 2 = entryFrame m ([.int p0, .int p1] : List Value).toArray 2 := by rw [ha]
  rw [hgo, lg_entry_eq]
  generalize (lg_sl ([.int p0, .int p1]) ++ List.replicate (2 - (lg_sl ([.int p0, .int p1])).length) Slot.unset).toArray = ls at hl ⊢
  have hl : lv_has ls 2 [(0, .int p0), (1, .int p1)] := hl
  refine lv_iload_n hx hb dX5_isA_0 rfl (lv_at hl 1 rfl) ?_
  by_cases c1 : p1 = 0
  ·
    have qc1 : p1.toInt = 0 := by rw [c1]; rfl
    have q3 : p1.toInt = (0 : Int) := qc1
    have d2 : dkN [(0, 0)] p1 := dkN_lit (0) qc1
    refine lv_tableIn (tgt := 36) hx hb dX5_isA_1 (by rw [qc1]; decide) (by rw [qc1]; decide) (by rw [qc1]; rfl) (by decide) ?_
    refine lv_iconst (v := 1) hx hb dX5_isA_36 (by decide) ?_
    exact W.zret (v := 1) (ty := .boolean) hx hb hr rfl (fun t ht hW9 => ⟨⟨1, I0, rfl, ⟨hF, hO, Or.inl ⟨dkN_sub (dkN_lit (x := 1) (1) rfl) rfl, dkN_sub d2 rfl, q3, rfl, trivial⟩⟩, dkW_eq ht hW⟩, hS.F ht⟩) hS.2.2 dX5_isA_37
  ·
    have q4 : p1.toInt ≠ (0 : Int) := (dk_ne c1)
    have d5 : dkN [(1, 5)] p1 := dkN_ne1 (0) dp1 (dkN_lit (x := 0) (0) rfl) (dk_ne c1) rfl
    by_cases c6 : p1 = 1
    ·
      have qc6 : p1.toInt = 1 := by rw [c6]; rfl
      have q8 : p1.toInt = (1 : Int) := qc6
      have d7 : dkN [(1, 1)] p1 := dkN_lit (1) qc6
      refine lv_tableIn (tgt := 38) hx hb dX5_isA_1 (by rw [qc6]; decide) (by rw [qc6]; decide) (by rw [qc6]; rfl) (by decide) ?_
      refine lv_iload_n hx hb dX5_isA_38 rfl (lv_at hl 0 rfl) ?_
      refine lv_iconst (v := 1) hx hb dX5_isA_39 (by decide) ?_
      refine lv_icmp_eq (tgt := 53) hx hb dX5_isA_40 (by decide) (fun c9 => ?_) (fun c9 => ?_)
      ·
        have q10 : p0.toInt = (1 : Int) := (congrArg Int32.toInt c9)
        have d11 : dkN [(1, 1)] p0 := dkN_eq1 (dkN_top p0) (dkN_lit (x := 1) (1) rfl) (congrArg Int32.toInt c9) rfl
        refine lv_iconst (v := 1) hx hb dX5_isA_53 (by decide) ?_
        refine lv_goto (tgt := 58) hx hb dX5_isA_54 (by decide) ?_
        exact W.zret (v := 1) (ty := .boolean) hx hb hr rfl (fun t ht hW9 => ⟨⟨1, I0, rfl, ⟨hF, hO, Or.inr (Or.inl ⟨dkN_sub (dkN_lit (x := 1) (1) rfl) rfl, dkN_sub d11 rfl, dkN_sub d7 rfl, q4, q8, q10, rfl, trivial⟩)⟩, dkW_eq ht hW⟩, hS.F ht⟩) hS.2.2 dX5_isA_58
      ·
        have q12 : p0.toInt ≠ (1 : Int) := (dk_ne c9)
        have d13 : dkN [(-2147483648, 0), (2, 2147483647)] p0 := dkN_ne1 (1) (dkN_top p0) (dkN_lit (x := 1) (1) rfl) (dk_ne c9) rfl
        refine lv_iload_n hx hb dX5_isA_43 rfl (lv_at hl 0 rfl) ?_
        refine lv_iconst (v := 2) hx hb dX5_isA_44 (by decide) ?_
        refine lv_icmp_eq (tgt := 53) hx hb dX5_isA_45 (by decide) (fun c14 => ?_) (fun c14 => ?_)
        ·
          have q15 : p0.toInt = (2 : Int) := (congrArg Int32.toInt c14)
          have d16 : dkN [(2, 2)] p0 := dkN_eq1 d13 (dkN_lit (x := 2) (2) rfl) (congrArg Int32.toInt c14) rfl
          refine lv_iconst (v := 1) hx hb dX5_isA_53 (by decide) ?_
          refine lv_goto (tgt := 58) hx hb dX5_isA_54 (by decide) ?_
          exact W.zret (v := 1) (ty := .boolean) hx hb hr rfl (fun t ht hW9 => ⟨⟨1, I0, rfl, ⟨hF, hO, Or.inr (Or.inr (Or.inl ⟨dkN_sub (dkN_lit (x := 1) (1) rfl) rfl, dkN_sub d16 rfl, dkN_sub d7 rfl, q4, q8, q12, q15, rfl, trivial⟩))⟩, dkW_eq ht hW⟩, hS.F ht⟩) hS.2.2 dX5_isA_58
        ·
          have q17 : p0.toInt ≠ (2 : Int) := (dk_ne c14)
          have d18 : dkN [(-2147483648, 0), (3, 2147483647)] p0 := dkN_ne1 (2) d13 (dkN_lit (x := 2) (2) rfl) (dk_ne c14) rfl
          refine lv_iload_n hx hb dX5_isA_48 rfl (lv_at hl 0 rfl) ?_
          refine lv_iconst (v := 3) hx hb dX5_isA_49 (by decide) ?_
          refine lv_icmp_ne (tgt := 57) hx hb dX5_isA_50 (by decide) (fun c19 => ?_) (fun c19 => ?_)
          ·
            have q20 : p0.toInt ≠ (3 : Int) := (dk_ne c19)
            have d21 : dkN [(-2147483648, 0), (4, 2147483647)] p0 := dkN_ne1 (3) d18 (dkN_lit (x := 3) (3) rfl) (dk_ne c19) rfl
            refine lv_iconst (v := 0) hx hb dX5_isA_57 (by decide) ?_
            exact W.zret (v := 0) (ty := .boolean) hx hb hr rfl (fun t ht hW9 => ⟨⟨0, I0, rfl, ⟨hF, hO, Or.inr (Or.inr (Or.inr (Or.inl ⟨dkN_sub (dkN_lit (x := 0) (0) rfl) rfl, dkN_sub d21 rfl, dkN_sub d7 rfl, q4, q8, q12, q17, q20, rfl, trivial⟩)))⟩, dkW_eq ht hW⟩, hS.F ht⟩) hS.2.2 dX5_isA_58
          ·
            have q22 : p0.toInt = (3 : Int) := (congrArg Int32.toInt c19)
            have d23 : dkN [(3, 3)] p0 := dkN_eq1 d18 (dkN_lit (x := 3) (3) rfl) (congrArg Int32.toInt c19) rfl
            refine lv_iconst (v := 1) hx hb dX5_isA_53 (by decide) ?_
            refine lv_goto (tgt := 58) hx hb dX5_isA_54 (by decide) ?_
            exact W.zret (v := 1) (ty := .boolean) hx hb hr rfl (fun t ht hW9 => ⟨⟨1, I0, rfl, ⟨hF, hO, Or.inr (Or.inr (Or.inr (Or.inr (Or.inl ⟨dkN_sub (dkN_lit (x := 1) (1) rfl) rfl, dkN_sub d23 rfl, dkN_sub d7 rfl, q4, q8, q12, q17, q22, rfl, trivial⟩))))⟩, dkW_eq ht hW⟩, hS.F ht⟩) hS.2.2 dX5_isA_58
    ·
      have q24 : p1.toInt ≠ (1 : Int) := (dk_ne c6)
      have d25 : dkN [(2, 5)] p1 := dkN_ne1 (1) d5 (dkN_lit (x := 1) (1) rfl) (dk_ne c6) rfl
      by_cases c26 : p1 = 2
      ·
        have qc26 : p1.toInt = 2 := by rw [c26]; rfl
        have q28 : p1.toInt = (2 : Int) := qc26
        have d27 : dkN [(2, 2)] p1 := dkN_lit (2) qc26
        refine lv_tableIn (tgt := 75) hx hb dX5_isA_1 (by rw [qc26]; decide) (by rw [qc26]; decide) (by rw [qc26]; rfl) (by decide) ?_
        refine lv_iload_n hx hb dX5_isA_75 rfl (lv_at hl 0 rfl) ?_
        refine lv_iload_n hx hb dX5_isA_76 rfl (lv_at hl 1 rfl) ?_
        refine lv_icmp_ne (tgt := 84) hx hb dX5_isA_77 (by decide) (fun c29 => ?_) (fun c29 => ?_)
        ·
          have q30 : p0.toInt ≠ p1.toInt := (dk_ne c29)
          have d31 : dkN [(-2147483648, 1), (3, 2147483647)] p0 := dkN_ne1 (2) (dkN_top p0) d27 (dk_ne c29) rfl
          refine lv_iconst (v := 0) hx hb dX5_isA_84 (by decide) ?_
          exact W.zret (v := 0) (ty := .boolean) hx hb hr rfl (fun t ht hW9 => ⟨⟨0, I0, rfl, ⟨hF, hO, Or.inr (Or.inr (Or.inr (Or.inr (Or.inr (Or.inl ⟨dkN_sub (dkN_lit (x := 0) (0) rfl) rfl, dkN_sub d31 rfl, dkN_sub d27 rfl, q4, q24, q28, q30, rfl, trivial⟩)))))⟩, dkW_eq ht hW⟩, hS.F ht⟩) hS.2.2 dX5_isA_85
        ·
          have q32 : p0.toInt = p1.toInt := (congrArg Int32.toInt c29)
          have d33 : dkN [(2, 2)] p0 := dkN_eq1 (dkN_top p0) d27 (congrArg Int32.toInt c29) rfl
          refine lv_iconst (v := 1) hx hb dX5_isA_80 (by decide) ?_
          refine lv_goto (tgt := 85) hx hb dX5_isA_81 (by decide) ?_
          exact W.zret (v := 1) (ty := .boolean) hx hb hr rfl (fun t ht hW9 => ⟨⟨1, I0, rfl, ⟨hF, hO, Or.inr (Or.inr (Or.inr (Or.inr (Or.inr (Or.inr (Or.inl ⟨dkN_sub (dkN_lit (x := 1) (1) rfl) rfl, dkN_sub d33 rfl, dkN_sub d27 rfl, q4, q24, q28, q32, rfl, trivial⟩))))))⟩, dkW_eq ht hW⟩, hS.F ht⟩) hS.2.2 dX5_isA_85
      ·
        have q34 : p1.toInt ≠ (2 : Int) := (dk_ne c26)
        have d35 : dkN [(3, 5)] p1 := dkN_ne1 (2) d25 (dkN_lit (x := 2) (2) rfl) (dk_ne c26) rfl
        by_cases c36 : p1 = 3
        ·
          have qc36 : p1.toInt = 3 := by rw [c36]; rfl
          have q38 : p1.toInt = (3 : Int) := qc36
          have d37 : dkN [(3, 3)] p1 := dkN_lit (3) qc36
          refine lv_tableIn (tgt := 75) hx hb dX5_isA_1 (by rw [qc36]; decide) (by rw [qc36]; decide) (by rw [qc36]; rfl) (by decide) ?_
          refine lv_iload_n hx hb dX5_isA_75 rfl (lv_at hl 0 rfl) ?_
          refine lv_iload_n hx hb dX5_isA_76 rfl (lv_at hl 1 rfl) ?_
          refine lv_icmp_ne (tgt := 84) hx hb dX5_isA_77 (by decide) (fun c39 => ?_) (fun c39 => ?_)
          ·
            have q40 : p0.toInt ≠ p1.toInt := (dk_ne c39)
            have d41 : dkN [(-2147483648, 2), (4, 2147483647)] p0 := dkN_ne1 (3) (dkN_top p0) d37 (dk_ne c39) rfl
            refine lv_iconst (v := 0) hx hb dX5_isA_84 (by decide) ?_
            exact W.zret (v := 0) (ty := .boolean) hx hb hr rfl (fun t ht hW9 => ⟨⟨0, I0, rfl, ⟨hF, hO, Or.inr (Or.inr (Or.inr (Or.inr (Or.inr (Or.inr (Or.inr (Or.inl ⟨dkN_sub (dkN_lit (x := 0) (0) rfl) rfl, dkN_sub d41 rfl, dkN_sub d37 rfl, q4, q24, q34, q38, q40, rfl, trivial⟩)))))))⟩, dkW_eq ht hW⟩, hS.F ht⟩) hS.2.2 dX5_isA_85
          ·
            have q42 : p0.toInt = p1.toInt := (congrArg Int32.toInt c39)
            have d43 : dkN [(3, 3)] p0 := dkN_eq1 (dkN_top p0) d37 (congrArg Int32.toInt c39) rfl
            refine lv_iconst (v := 1) hx hb dX5_isA_80 (by decide) ?_
            refine lv_goto (tgt := 85) hx hb dX5_isA_81 (by decide) ?_
            exact W.zret (v := 1) (ty := .boolean) hx hb hr rfl (fun t ht hW9 => ⟨⟨1, I0, rfl, ⟨hF, hO, Or.inr (Or.inr (Or.inr (Or.inr (Or.inr (Or.inr (Or.inr (Or.inr (Or.inl ⟨dkN_sub (dkN_lit (x := 1) (1) rfl) rfl, dkN_sub d43 rfl, dkN_sub d37 rfl, q4, q24, q34, q38, q42, rfl, trivial⟩))))))))⟩, dkW_eq ht hW⟩, hS.F ht⟩) hS.2.2 dX5_isA_85
        ·
          have q44 : p1.toInt ≠ (3 : Int) := (dk_ne c36)
          have d45 : dkN [(4, 5)] p1 := dkN_ne1 (3) d35 (dkN_lit (x := 3) (3) rfl) (dk_ne c36) rfl
          by_cases c46 : p1 = 4
          ·
            have qc46 : p1.toInt = 4 := by rw [c46]; rfl
            have q48 : p1.toInt = (4 : Int) := qc46
            have d47 : dkN [(4, 4)] p1 := dkN_lit (4) qc46
            refine lv_tableIn (tgt := 59) hx hb dX5_isA_1 (by rw [qc46]; decide) (by rw [qc46]; decide) (by rw [qc46]; rfl) (by decide) ?_
            refine lv_iload_n hx hb dX5_isA_59 rfl (lv_at hl 0 rfl) ?_
            refine lv_iconst (v := 4) hx hb dX5_isA_60 (by decide) ?_
            refine lv_icmp_eq (tgt := 69) hx hb dX5_isA_61 (by decide) (fun c49 => ?_) (fun c49 => ?_)
            ·
              have q50 : p0.toInt = (4 : Int) := (congrArg Int32.toInt c49)
              have d51 : dkN [(4, 4)] p0 := dkN_eq1 (dkN_top p0) (dkN_lit (x := 4) (4) rfl) (congrArg Int32.toInt c49) rfl
              refine lv_iconst (v := 1) hx hb dX5_isA_69 (by decide) ?_
              refine lv_goto (tgt := 74) hx hb dX5_isA_70 (by decide) ?_
              exact W.zret (v := 1) (ty := .boolean) hx hb hr rfl (fun t ht hW9 => ⟨⟨1, I0, rfl, ⟨hF, hO, Or.inr (Or.inr (Or.inr (Or.inr (Or.inr (Or.inr (Or.inr (Or.inr (Or.inr (Or.inl ⟨dkN_sub (dkN_lit (x := 1) (1) rfl) rfl, dkN_sub d51 rfl, dkN_sub d47 rfl, q4, q24, q34, q44, q48, q50, rfl, trivial⟩)))))))))⟩, dkW_eq ht hW⟩, hS.F ht⟩) hS.2.2 dX5_isA_74
            ·
              have q52 : p0.toInt ≠ (4 : Int) := (dk_ne c49)
              have d53 : dkN [(-2147483648, 3), (5, 2147483647)] p0 := dkN_ne1 (4) (dkN_top p0) (dkN_lit (x := 4) (4) rfl) (dk_ne c49) rfl
              refine lv_iload_n hx hb dX5_isA_64 rfl (lv_at hl 0 rfl) ?_
              refine lv_iconst (v := 5) hx hb dX5_isA_65 (by decide) ?_
              refine lv_icmp_ne (tgt := 73) hx hb dX5_isA_66 (by decide) (fun c54 => ?_) (fun c54 => ?_)
              ·
                have q55 : p0.toInt ≠ (5 : Int) := (dk_ne c54)
                have d56 : dkN [(-2147483648, 3), (6, 2147483647)] p0 := dkN_ne1 (5) d53 (dkN_lit (x := 5) (5) rfl) (dk_ne c54) rfl
                refine lv_iconst (v := 0) hx hb dX5_isA_73 (by decide) ?_
                exact W.zret (v := 0) (ty := .boolean) hx hb hr rfl (fun t ht hW9 => ⟨⟨0, I0, rfl, ⟨hF, hO, Or.inr (Or.inr (Or.inr (Or.inr (Or.inr (Or.inr (Or.inr (Or.inr (Or.inr (Or.inr (Or.inl ⟨dkN_sub (dkN_lit (x := 0) (0) rfl) rfl, dkN_sub d56 rfl, dkN_sub d47 rfl, q4, q24, q34, q44, q48, q52, q55, rfl, trivial⟩))))))))))⟩, dkW_eq ht hW⟩, hS.F ht⟩) hS.2.2 dX5_isA_74
              ·
                have q57 : p0.toInt = (5 : Int) := (congrArg Int32.toInt c54)
                have d58 : dkN [(5, 5)] p0 := dkN_eq1 d53 (dkN_lit (x := 5) (5) rfl) (congrArg Int32.toInt c54) rfl
                refine lv_iconst (v := 1) hx hb dX5_isA_69 (by decide) ?_
                refine lv_goto (tgt := 74) hx hb dX5_isA_70 (by decide) ?_
                exact W.zret (v := 1) (ty := .boolean) hx hb hr rfl (fun t ht hW9 => ⟨⟨1, I0, rfl, ⟨hF, hO, Or.inr (Or.inr (Or.inr (Or.inr (Or.inr (Or.inr (Or.inr (Or.inr (Or.inr (Or.inr (Or.inr (Or.inl ⟨dkN_sub (dkN_lit (x := 1) (1) rfl) rfl, dkN_sub d58 rfl, dkN_sub d47 rfl, q4, q24, q34, q44, q48, q52, q57, rfl, trivial⟩)))))))))))⟩, dkW_eq ht hW⟩, hS.F ht⟩) hS.2.2 dX5_isA_74
          ·
            have q59 : p1.toInt ≠ (4 : Int) := (dk_ne c46)
            have d60 : dkN [(5, 5)] p1 := dkN_ne1 (4) d45 (dkN_lit (x := 4) (4) rfl) (dk_ne c46) rfl
            refine lv_tableOut (tgt := 75) hx hb dX5_isA_1 (dkN_out d60 rfl) (by decide) ?_
            refine lv_iload_n hx hb dX5_isA_75 rfl (lv_at hl 0 rfl) ?_
            refine lv_iload_n hx hb dX5_isA_76 rfl (lv_at hl 1 rfl) ?_
            refine lv_icmp_ne (tgt := 84) hx hb dX5_isA_77 (by decide) (fun c61 => ?_) (fun c61 => ?_)
            ·
              have q62 : p0.toInt ≠ p1.toInt := (dk_ne c61)
              have d63 : dkN [(-2147483648, 4), (6, 2147483647)] p0 := dkN_ne1 (5) (dkN_top p0) d60 (dk_ne c61) rfl
              refine lv_iconst (v := 0) hx hb dX5_isA_84 (by decide) ?_
              exact W.zret (v := 0) (ty := .boolean) hx hb hr rfl (fun t ht hW9 => ⟨⟨0, I0, rfl, ⟨hF, hO, Or.inr (Or.inr (Or.inr (Or.inr (Or.inr (Or.inr (Or.inr (Or.inr (Or.inr (Or.inr (Or.inr (Or.inr (Or.inl ⟨dkN_sub (dkN_lit (x := 0) (0) rfl) rfl, dkN_sub d63 rfl, dkN_sub d60 rfl, q4, q24, q34, q44, q59, q62, rfl, trivial⟩))))))))))))⟩, dkW_eq ht hW⟩, hS.F ht⟩) hS.2.2 dX5_isA_85
            ·
              have q64 : p0.toInt = p1.toInt := (congrArg Int32.toInt c61)
              have d65 : dkN [(5, 5)] p0 := dkN_eq1 (dkN_top p0) d60 (congrArg Int32.toInt c61) rfl
              refine lv_iconst (v := 1) hx hb dX5_isA_80 (by decide) ?_
              refine lv_goto (tgt := 85) hx hb dX5_isA_81 (by decide) ?_
              exact W.zret (v := 1) (ty := .boolean) hx hb hr rfl (fun t ht hW9 => ⟨⟨1, I0, rfl, ⟨hF, hO, Or.inr (Or.inr (Or.inr (Or.inr (Or.inr (Or.inr (Or.inr (Or.inr (Or.inr (Or.inr (Or.inr (Or.inr (Or.inr (⟨dkN_sub (dkN_lit (x := 1) (1) rfl) rfl, dkN_sub d65 rfl, dkN_sub d60 rfl, q4, q24, q34, q44, q59, q64, rfl, trivial⟩)))))))))))))⟩, dkW_eq ht hW⟩, hS.F ht⟩) hS.2.2 dX5_isA_85
set_option maxHeartbeats 4000000 in
set_option maxRecDepth 100000 in
theorem fx_X5_nothingFound_1 (l : Launch) (g : dkG) (z : Nat) (I0 : dkI) (p0 : Int32)  (hO : dkOk I0) : Met l yX5_nothingFound wsX5_nothingFound (dkR 0) (dkPc g z [.ref (z + 0), .int p0] I0) (dkQi g z (fun r I1 => dkF [(0, 0, 3, 3)] I0 I1 ∧ dkOk I1 ∧ ((True ∧ dkN [(0, 0)] (I1 0 3) ∧ r = p0 ∧ True)))) 0 0 (dkA z) := by
  refine Met.ofW (cc := cX5_nothingFound) (maxL := 2) (ret := (some .int)) (by decide) rfl ?_
  intro p e s m args below meth c s₁ B hml hv
  obtain ⟨ha, hW, hK, hT⟩ := hv
  have hx := B.exec
  have hb := B.bytes
  have hr := B.returns
  have hts := atoms_spec (ws := wsX5_nothingFound) B.pre
  have hown : s.vm.findClass RX5 = some m.cls := findClass_of_methodNamed B.named
  have hlocks := B.notSynchronized
  have hS : va_S (dkA z) s.heap s.heap [] := va_S.rf
  have hF : dkF [(0, 0, 3, 3)] I0 I0 := dkF_rf _ _
  have hl := lv_entry ([.ref (z + 0), .int p0]) (n := 2) (Nat.le_of_ble_eq_true rfl)
  have hgo : entryFrame m args 2 = entryFrame m ([.ref (z + 0), .int p0] : List Value).toArray 2 := by rw [ha]
  rw [hgo, lg_entry_eq]
  generalize (lg_sl ([.ref (z + 0), .int p0]) ++ List.replicate (2 - (lg_sl ([.ref (z + 0), .int p0])).length) Slot.unset).toArray = ls at hl ⊢
  have hl : lv_has ls 2 [(0, .ref (z + 0)), (1, .int p0)] := hl
  refine lv_aload_n hx hb dX5_nothingFound_0 rfl (lv_at hl 0 rfl) ?_
  refine lv_iconst (v := 0) hx hb dX5_nothingFound_1 (by decide) ?_
  refine dk_put (k := 0) hx hb hts iX5_nothingFound_5 tyX5 tyX5_ok nmX5 hown hK hW (dk_at0 hW) hS rfl 3 (by decide) (hts (.fieldLink RX5 292 "DogKings" "finding" "I") (List.mem_of_getElem? (i := 1) rfl)) rfl rfl (Nat.le_of_ble_eq_true rfl) rfl dX5_nothingFound_2 (fun I1 H1 L1 eI1 hW hS => ?_)
  have eI1 : I1 = dkU I0 0 3 0 := eI1
  have hO := dkO_set hO eI1 (dkN_sub (dkN_lit (x := 0) (0) rfl) rfl)
  have hF := dkF_set hF eI1 rfl
  refine lv_iload_n hx hb dX5_nothingFound_5 rfl (lv_at hl 1 rfl) ?_
  exact W.iret (v := p0) hx hb hr (fun t ht hW9 => ⟨⟨p0, I1, rfl, ⟨hF, hO, ⟨trivial, (show dkN [(0, 0)] (I1 0 3) from dkN_sub (by rw [eI1, dkU_ss]; exact (dkN_lit (x := 0) (0) rfl)) rfl), rfl, trivial⟩⟩, dkW_eq ht hW⟩, hS.F ht⟩) hS.2.2 dX5_nothingFound_6
set_option maxHeartbeats 4000000 in
set_option maxRecDepth 100000 in
theorem fx_X5_found_5 (l : Launch) (g : dkG) (z : Nat) (I0 : dkI) (p0 : Int32) (dp0 : dkN [(3, 3)] p0)  (hO : dkOk I0) : Met l yX5_found wsX5_found (dkR 0) (dkPc g z [.ref (z + 0), .int p0] I0) (dkQi g z (fun r I1 => dkF [(0, 0, 3, 3)] I0 I1 ∧ dkOk I1 ∧ ((dkN [(-1000013, -1000013)] r ∧ dkN [(3, 3)] (I1 0 3) ∧ ((-1000010 : Int32) - p0).toInt = (-1000010 : Int) - p0.toInt ∧ r = (-1000010 : Int32) - p0 ∧ True)))) 0 0 (dkA z) := by
  refine Met.ofW (cc := cX5_found) (maxL := 2) (ret := (some .int)) (by decide) rfl ?_
  intro p e s m args below meth c s₁ B hml hv
  obtain ⟨ha, hW, hK, hT⟩ := hv
  have hx := B.exec
  have hb := B.bytes
  have hr := B.returns
  have hts := atoms_spec (ws := wsX5_found) B.pre
  have hown : s.vm.findClass RX5 = some m.cls := findClass_of_methodNamed B.named
  have hlocks := B.notSynchronized
  have hS : va_S (dkA z) s.heap s.heap [] := va_S.rf
  have hF : dkF [(0, 0, 3, 3)] I0 I0 := dkF_rf _ _
  have hl := lv_entry ([.ref (z + 0), .int p0]) (n := 2) (Nat.le_of_ble_eq_true rfl)
  have hgo : entryFrame m args 2 = entryFrame m ([.ref (z + 0), .int p0] : List Value).toArray 2 := by rw [ha]
  rw [hgo, lg_entry_eq]
  generalize (lg_sl ([.ref (z + 0), .int p0]) ++ List.replicate (2 - (lg_sl ([.ref (z + 0), .int p0])).length) Slot.unset).toArray = ls at hl ⊢
  have hl : lv_has ls 2 [(0, .ref (z + 0)), (1, .int p0)] := hl
  refine lv_aload_n hx hb dX5_found_0 rfl (lv_at hl 0 rfl) ?_
  refine lv_iload_n hx hb dX5_found_1 rfl (lv_at hl 1 rfl) ?_
  refine dk_put (k := 0) hx hb hts iX5_found_5 tyX5 tyX5_ok nmX5 hown hK hW (dk_at0 hW) hS rfl 3 (by decide) (hts (.fieldLink RX5 292 "DogKings" "finding" "I") (List.mem_of_getElem? (i := 1) rfl)) rfl rfl (Nat.le_of_ble_eq_true rfl) rfl dX5_found_2 (fun I1 H1 L1 eI1 hW hS => ?_)
  have eI1 : I1 = dkU I0 0 3 p0 := eI1
  have hO := dkO_set hO eI1 (dkN_sub dp0 rfl)
  have hF := dkF_set hF eI1 rfl
  refine lv_ldcw (v := (-1000010)) hx hb hown (hts (.constant RX5 295 (-1000010)) (List.mem_of_getElem? (i := 2) rfl)) dX5_found_5 ?_
  refine lv_iload_n hx hb dX5_found_8 rfl (lv_at hl 1 rfl) ?_
  refine lv_isub hx hb dX5_found_9 ?_
  refine lv_topi (fun v2 ev2 => ?_)
  have dv2 : dkN [(-1000013, -1000013)] v2 := by rw [ev2]; exact dkN_subt (dkN_lit (x := (-1000010)) (-1000010) rfl) dp0 rfl
  have xv2 : v2 = (-1000010 : Int32) - p0 := by rw [ev2]
  have q3 : ((-1000010 : Int32) - p0).toInt = (-1000010 : Int) - p0.toInt := by first | (rw [← xv2]; exact (by rw [ev2]; exact dk_subE (dkN_lit (x := (-1000010)) (-1000010) rfl) dp0 rfl)) | (subst xv2; exact (by rw [ev2]; exact dk_subE (dkN_lit (x := (-1000010)) (-1000010) rfl) dp0 rfl))
  exact W.iret (v := v2) hx hb hr (fun t ht hW9 => ⟨⟨v2, I1, rfl, ⟨hF, hO, ⟨dkN_sub dv2 rfl, (show dkN [(3, 3)] (I1 0 3) from dkN_sub (by rw [eI1, dkU_ss]; exact dp0) rfl), q3, xv2, trivial⟩⟩, dkW_eq ht hW⟩, hS.F ht⟩) hS.2.2 dX5_found_10
set_option maxHeartbeats 4000000 in
set_option maxRecDepth 100000 in
theorem fx_X5_as_1 (l : Launch) (g : dkG) (z : Nat) (I0 : dkI) (p0 : Int32) (p1 : Int32)  (hO : dkOk I0) : Met l yX5_as wsX5_as (dkR 1) (dkPc g z [.ref (z + 0), .int p0, .int p1] I0) (dkQi g z (fun r I1 => dkF [(0, 0, 3, 3)] I0 I1 ∧ dkOk I1 ∧ ((dkN [(-1000001, -1000001)] r ∧ dkN [(-2147483648, -1)] p0 ∧ p0.toInt + 1 ≤ (0 : Int) ∧ r = (-1000001) ∧ True) ∨ (dkN [(-1000001, -1000001)] r ∧ dkN [(0, 2147483647)] p0 ∧ (0 : Int) + 0 ≤ p0.toInt ∧ (I0 25 11).toInt + 0 ≤ p0.toInt ∧ r = (-1000001) ∧ True) ∨ (dkN [(-1000001, -1000001)] r ∧ dkN [(0, 5)] p0 ∧ dkN [(-2147483648, -1)] p1 ∧ dkN [(1, 6)] (I1 25 11) ∧ (0 : Int) + 0 ≤ p0.toInt ∧ p0.toInt + 1 ≤ (I0 25 11).toInt ∧ p1.toInt + 1 ≤ (0 : Int) ∧ r = (-1000001) ∧ True) ∨ (dkN [(-1000001, -1000001)] r ∧ dkN [(0, 5)] p0 ∧ dkN [(6, 2147483647)] p1 ∧ dkN [(1, 6)] (I1 25 11) ∧ (0 : Int) + 0 ≤ p0.toInt ∧ p0.toInt + 1 ≤ (I0 25 11).toInt ∧ (0 : Int) + 0 ≤ p1.toInt ∧ (5 : Int) + 1 ≤ p1.toInt ∧ r = (-1000001) ∧ True) ∨ (True ∧ dkN [(0, 5)] p0 ∧ dkN [(0, 0)] p1 ∧ dkN [(0, 0)] (I1 0 3) ∧ dkN [(1, 6)] (I1 25 11) ∧ (0 : Int) + 0 ≤ p0.toInt ∧ p0.toInt + 1 ≤ (I0 25 11).toInt ∧ (0 : Int) + 0 ≤ p1.toInt ∧ p1.toInt + 0 ≤ (5 : Int) ∧ p1.toInt = (0 : Int) ∧ r = p0 ∧ True) ∨ (True ∧ dkN [(0, 5)] p0 ∧ dkN [(1, 1)] p1 ∧ dkN [(0, 0)] (I1 0 3) ∧ dkN [(1, 6)] (I1 25 11) ∧ (0 : Int) + 0 ≤ p0.toInt ∧ p0.toInt + 1 ≤ (I0 25 11).toInt ∧ (0 : Int) + 0 ≤ p1.toInt ∧ p1.toInt + 0 ≤ (5 : Int) ∧ p1.toInt ≠ (0 : Int) ∧ p1.toInt = (1 : Int) ∧ (I0 32 (Int32.toNatClampNeg p0)).toInt = (1 : Int) ∧ r = p0 ∧ True) ∨ (True ∧ dkN [(0, 5)] p0 ∧ dkN [(1, 1)] p1 ∧ dkN [(0, 0)] (I1 0 3) ∧ dkN [(1, 6)] (I1 25 11) ∧ (0 : Int) + 0 ≤ p0.toInt ∧ p0.toInt + 1 ≤ (I0 25 11).toInt ∧ (0 : Int) + 0 ≤ p1.toInt ∧ p1.toInt + 0 ≤ (5 : Int) ∧ p1.toInt ≠ (0 : Int) ∧ p1.toInt = (1 : Int) ∧ (I0 32 (Int32.toNatClampNeg p0)).toInt ≠ (1 : Int) ∧ (I0 32 (Int32.toNatClampNeg p0)).toInt = (2 : Int) ∧ r = p0 ∧ True) ∨ (dkN [(-1000013, -1000013)] r ∧ dkN [(0, 5)] p0 ∧ dkN [(1, 1)] p1 ∧ dkN [(3, 3)] (I1 0 3) ∧ dkN [(1, 6)] (I1 25 11) ∧ (0 : Int) + 0 ≤ p0.toInt ∧ p0.toInt + 1 ≤ (I0 25 11).toInt ∧ (0 : Int) + 0 ≤ p1.toInt ∧ p1.toInt + 0 ≤ (5 : Int) ∧ p1.toInt ≠ (0 : Int) ∧ p1.toInt = (1 : Int) ∧ (I0 32 (Int32.toNatClampNeg p0)).toInt ≠ (1 : Int) ∧ (I0 32 (Int32.toNatClampNeg p0)).toInt ≠ (2 : Int) ∧ (I0 32 (Int32.toNatClampNeg p0)).toInt ≠ (3 : Int) ∧ ((-1000010 : Int32) - (3 : Int32)).toInt = (-1000010 : Int) - (3 : Int) ∧ r = (-1000010 : Int32) - (3 : Int32) ∧ True) ∨ (True ∧ dkN [(0, 5)] p0 ∧ dkN [(1, 1)] p1 ∧ dkN [(0, 0)] (I1 0 3) ∧ dkN [(1, 6)] (I1 25 11) ∧ (0 : Int) + 0 ≤ p0.toInt ∧ p0.toInt + 1 ≤ (I0 25 11).toInt ∧ (0 : Int) + 0 ≤ p1.toInt ∧ p1.toInt + 0 ≤ (5 : Int) ∧ p1.toInt ≠ (0 : Int) ∧ p1.toInt = (1 : Int) ∧ (I0 32 (Int32.toNatClampNeg p0)).toInt ≠ (1 : Int) ∧ (I0 32 (Int32.toNatClampNeg p0)).toInt ≠ (2 : Int) ∧ (I0 32 (Int32.toNatClampNeg p0)).toInt = (3 : Int) ∧ r = p0 ∧ True) ∨ (dkN [(-1000013, -1000013)] r ∧ dkN [(0, 5)] p0 ∧ dkN [(2, 2)] p1 ∧ dkN [(3, 3)] (I1 0 3) ∧ dkN [(1, 6)] (I1 25 11) ∧ (0 : Int) + 0 ≤ p0.toInt ∧ p0.toInt + 1 ≤ (I0 25 11).toInt ∧ (0 : Int) + 0 ≤ p1.toInt ∧ p1.toInt + 0 ≤ (5 : Int) ∧ p1.toInt ≠ (0 : Int) ∧ p1.toInt ≠ (1 : Int) ∧ p1.toInt = (2 : Int) ∧ (I0 32 (Int32.toNatClampNeg p0)).toInt ≠ p1.toInt ∧ ((-1000010 : Int32) - (3 : Int32)).toInt = (-1000010 : Int) - (3 : Int) ∧ r = (-1000010 : Int32) - (3 : Int32) ∧ True) ∨ (True ∧ dkN [(0, 5)] p0 ∧ dkN [(2, 2)] p1 ∧ dkN [(0, 0)] (I1 0 3) ∧ dkN [(1, 6)] (I1 25 11) ∧ (0 : Int) + 0 ≤ p0.toInt ∧ p0.toInt + 1 ≤ (I0 25 11).toInt ∧ (0 : Int) + 0 ≤ p1.toInt ∧ p1.toInt + 0 ≤ (5 : Int) ∧ p1.toInt ≠ (0 : Int) ∧ p1.toInt ≠ (1 : Int) ∧ p1.toInt = (2 : Int) ∧ (I0 32 (Int32.toNatClampNeg p0)).toInt = p1.toInt ∧ r = p0 ∧ True) ∨ (dkN [(-1000013, -1000013)] r ∧ dkN [(0, 5)] p0 ∧ dkN [(3, 3)] p1 ∧ dkN [(3, 3)] (I1 0 3) ∧ dkN [(1, 6)] (I1 25 11) ∧ (0 : Int) + 0 ≤ p0.toInt ∧ p0.toInt + 1 ≤ (I0 25 11).toInt ∧ (0 : Int) + 0 ≤ p1.toInt ∧ p1.toInt + 0 ≤ (5 : Int) ∧ p1.toInt ≠ (0 : Int) ∧ p1.toInt ≠ (1 : Int) ∧ p1.toInt ≠ (2 : Int) ∧ p1.toInt = (3 : Int) ∧ (I0 32 (Int32.toNatClampNeg p0)).toInt ≠ p1.toInt ∧ ((-1000010 : Int32) - (3 : Int32)).toInt = (-1000010 : Int) - (3 : Int) ∧ r = (-1000010 : Int32) - (3 : Int32) ∧ True) ∨ (True ∧ dkN [(0, 5)] p0 ∧ dkN [(3, 3)] p1 ∧ dkN [(0, 0)] (I1 0 3) ∧ dkN [(1, 6)] (I1 25 11) ∧ (0 : Int) + 0 ≤ p0.toInt ∧ p0.toInt + 1 ≤ (I0 25 11).toInt ∧ (0 : Int) + 0 ≤ p1.toInt ∧ p1.toInt + 0 ≤ (5 : Int) ∧ p1.toInt ≠ (0 : Int) ∧ p1.toInt ≠ (1 : Int) ∧ p1.toInt ≠ (2 : Int) ∧ p1.toInt = (3 : Int) ∧ (I0 32 (Int32.toNatClampNeg p0)).toInt = p1.toInt ∧ r = p0 ∧ True) ∨ (True ∧ dkN [(0, 5)] p0 ∧ dkN [(4, 4)] p1 ∧ dkN [(0, 0)] (I1 0 3) ∧ dkN [(1, 6)] (I1 25 11) ∧ (0 : Int) + 0 ≤ p0.toInt ∧ p0.toInt + 1 ≤ (I0 25 11).toInt ∧ (0 : Int) + 0 ≤ p1.toInt ∧ p1.toInt + 0 ≤ (5 : Int) ∧ p1.toInt ≠ (0 : Int) ∧ p1.toInt ≠ (1 : Int) ∧ p1.toInt ≠ (2 : Int) ∧ p1.toInt ≠ (3 : Int) ∧ p1.toInt = (4 : Int) ∧ (I0 32 (Int32.toNatClampNeg p0)).toInt = (4 : Int) ∧ r = p0 ∧ True) ∨ (dkN [(-1000013, -1000013)] r ∧ dkN [(0, 5)] p0 ∧ dkN [(4, 4)] p1 ∧ dkN [(3, 3)] (I1 0 3) ∧ dkN [(1, 6)] (I1 25 11) ∧ (0 : Int) + 0 ≤ p0.toInt ∧ p0.toInt + 1 ≤ (I0 25 11).toInt ∧ (0 : Int) + 0 ≤ p1.toInt ∧ p1.toInt + 0 ≤ (5 : Int) ∧ p1.toInt ≠ (0 : Int) ∧ p1.toInt ≠ (1 : Int) ∧ p1.toInt ≠ (2 : Int) ∧ p1.toInt ≠ (3 : Int) ∧ p1.toInt = (4 : Int) ∧ (I0 32 (Int32.toNatClampNeg p0)).toInt ≠ (4 : Int) ∧ (I0 32 (Int32.toNatClampNeg p0)).toInt ≠ (5 : Int) ∧ ((-1000010 : Int32) - (3 : Int32)).toInt = (-1000010 : Int) - (3 : Int) ∧ r = (-1000010 : Int32) - (3 : Int32) ∧ True) ∨ (True ∧ dkN [(0, 5)] p0 ∧ dkN [(4, 4)] p1 ∧ dkN [(0, 0)] (I1 0 3) ∧ dkN [(1, 6)] (I1 25 11) ∧ (0 : Int) + 0 ≤ p0.toInt ∧ p0.toInt + 1 ≤ (I0 25 11).toInt ∧ (0 : Int) + 0 ≤ p1.toInt ∧ p1.toInt + 0 ≤ (5 : Int) ∧ p1.toInt ≠ (0 : Int) ∧ p1.toInt ≠ (1 : Int) ∧ p1.toInt ≠ (2 : Int) ∧ p1.toInt ≠ (3 : Int) ∧ p1.toInt = (4 : Int) ∧ (I0 32 (Int32.toNatClampNeg p0)).toInt ≠ (4 : Int) ∧ (I0 32 (Int32.toNatClampNeg p0)).toInt = (5 : Int) ∧ r = p0 ∧ True) ∨ (dkN [(-1000013, -1000013)] r ∧ dkN [(0, 5)] p0 ∧ dkN [(5, 5)] p1 ∧ dkN [(3, 3)] (I1 0 3) ∧ dkN [(1, 6)] (I1 25 11) ∧ (0 : Int) + 0 ≤ p0.toInt ∧ p0.toInt + 1 ≤ (I0 25 11).toInt ∧ (0 : Int) + 0 ≤ p1.toInt ∧ p1.toInt + 0 ≤ (5 : Int) ∧ p1.toInt ≠ (0 : Int) ∧ p1.toInt ≠ (1 : Int) ∧ p1.toInt ≠ (2 : Int) ∧ p1.toInt ≠ (3 : Int) ∧ p1.toInt ≠ (4 : Int) ∧ (I0 32 (Int32.toNatClampNeg p0)).toInt ≠ p1.toInt ∧ ((-1000010 : Int32) - (3 : Int32)).toInt = (-1000010 : Int) - (3 : Int) ∧ r = (-1000010 : Int32) - (3 : Int32) ∧ True) ∨ (True ∧ dkN [(0, 5)] p0 ∧ dkN [(5, 5)] p1 ∧ dkN [(0, 0)] (I1 0 3) ∧ dkN [(1, 6)] (I1 25 11) ∧ (0 : Int) + 0 ≤ p0.toInt ∧ p0.toInt + 1 ≤ (I0 25 11).toInt ∧ (0 : Int) + 0 ≤ p1.toInt ∧ p1.toInt + 0 ≤ (5 : Int) ∧ p1.toInt ≠ (0 : Int) ∧ p1.toInt ≠ (1 : Int) ∧ p1.toInt ≠ (2 : Int) ∧ p1.toInt ≠ (3 : Int) ∧ p1.toInt ≠ (4 : Int) ∧ (I0 32 (Int32.toNatClampNeg p0)).toInt = p1.toInt ∧ r = p0 ∧ True)))) 0 0 (dkA z) := by
  refine Met.ofW (cc := cX5_as) (maxL := 3) (ret := (some .int)) (by decide) rfl ?_
  intro p e s m args below meth c s₁ B hml hv
  obtain ⟨ha, hW, hK, hT⟩ := hv
  have hx := B.exec
  have hb := B.bytes
  have hr := B.returns
  have hts := atoms_spec (ws := wsX5_as) B.pre
  have hown : s.vm.findClass RX5 = some m.cls := findClass_of_methodNamed B.named
  have hlocks := B.notSynchronized
  have hS : va_S (dkA z) s.heap s.heap [] := va_S.rf
  have hF : dkF [(0, 0, 3, 3)] I0 I0 := dkF_rf _ _
  have hl := lv_entry ([.ref (z + 0), .int p0, .int p1]) (n := 3) (Nat.le_of_ble_eq_true rfl)
  have hgo : entryFrame m args 3 = entryFrame m ([.ref (z + 0), .int p0, .int p1] : List Value).toArray 3 := by rw [ha]
  rw [hgo, lg_entry_eq]
  generalize (lg_sl ([.ref (z + 0), .int p0, .int p1]) ++ List.replicate (3 - (lg_sl ([.ref (z + 0), .int p0, .int p1])).length) Slot.unset).toArray = ls at hl ⊢
  have hl : lv_has ls 3 [(0, .ref (z + 0)), (1, .int p0), (2, .int p1)] := hl
  refine lv_aload_n hx hb dX5_as_0 rfl (lv_at hl 0 rfl) ?_
  refine lv_iload_n hx hb dX5_as_1 rfl (lv_at hl 1 rfl) ?_
  refine dk_Vi (As := [.int p0]) (rest := []) ⟨hx, hb, hml, hown, hts⟩ (fx_X5_isDog_1 l g z I0 p0 hO) (cwV 1 hts gX5_as_X5_isDog rfl rfl rfl (by decide +kernel) ⟨Nat.le_of_ble_eq_true rfl, Nat.le_of_ble_eq_true rfl⟩) (dk_at0 hW) rfl hK hT hW hS rfl hl.1 rfl (Nat.le_of_ble_eq_true rfl) dX5_as_2 ⟨Nat.zero_le _, Nat.zero_le _⟩ (fun v1 I1 H1 L1 hp1 hW hS => ?_)
  obtain ⟨hF1, hO, hc1⟩ := hp1
  have hF := dkF_call hF hF1 rfl
  have eI1 : I0 = I1 := (dkF_nil hF1).symm
  subst eI1
  rcases hc1 with ⟨dv1, a1_0, x1_0, xr1, -⟩ | hc1
  ·
    have q2 : p0.toInt + 1 ≤ (0 : Int) := x1_0
    have xv1 : v1 = 0 := by have h := xr1; exact h
    have d3 : dkN [(-2147483648, -1)] p0 := dkN_eq1 (dkN_top p0) a1_0 rfl rfl
    refine lv_if_eq (tgt := 16) hx hb dX5_as_5 (by decide) (fun c4 => ?_) (fun c4 => ?_)
    ·
      refine lv_ldc (v := (-1000001)) hx hb hown (hts (.constant RX5 70 (-1000001)) (List.mem_of_getElem? (i := 1) rfl)) dX5_as_16 ?_
      exact W.iret (v := (-1000001)) hx hb hr (fun t ht hW9 => ⟨⟨(-1000001), I0, rfl, ⟨hF, hO, Or.inl ⟨dkN_sub (dkN_lit (x := (-1000001)) (-1000001) rfl) rfl, dkN_sub d3 rfl, q2, rfl, trivial⟩⟩, dkW_eq ht hW⟩, hS.F ht⟩) hS.2.2 dX5_as_18
    ·
      exact absurd ((xv1).trans (rfl).symm) c4
  rcases hc1 with ⟨dv1, a1_0, x1_0, x1_1, xr1, -⟩ | hc1
  ·
    have q5 : (0 : Int) + 0 ≤ p0.toInt := x1_0
    have q6 : (I0 25 11).toInt + 0 ≤ p0.toInt := x1_1
    have xv1 : v1 = 0 := by have h := xr1; exact h
    have d7 : dkN [(0, 2147483647)] p0 := dkN_eq1 (dkN_top p0) a1_0 rfl rfl
    refine lv_if_eq (tgt := 16) hx hb dX5_as_5 (by decide) (fun c8 => ?_) (fun c8 => ?_)
    ·
      refine lv_ldc (v := (-1000001)) hx hb hown (hts (.constant RX5 70 (-1000001)) (List.mem_of_getElem? (i := 1) rfl)) dX5_as_16 ?_
      exact W.iret (v := (-1000001)) hx hb hr (fun t ht hW9 => ⟨⟨(-1000001), I0, rfl, ⟨hF, hO, Or.inr (Or.inl ⟨dkN_sub (dkN_lit (x := (-1000001)) (-1000001) rfl) rfl, dkN_sub d7 rfl, q5, q6, rfl, trivial⟩)⟩, dkW_eq ht hW⟩, hS.F ht⟩) hS.2.2 dX5_as_18
    ·
      exact absurd ((xv1).trans (rfl).symm) c8
  ·
    obtain ⟨dv1, a1_0, f1_25_11, x1_0, x1_1, xr1, -⟩ := hc1
    have q9 : (0 : Int) + 0 ≤ p0.toInt := x1_0
    have q10 : p0.toInt + 1 ≤ (I0 25 11).toInt := x1_1
    have xv1 : v1 = 1 := by have h := xr1; exact h
    have d11 : dkN [(0, 5)] p0 := dkN_eq1 (dkN_top p0) a1_0 rfl rfl
    refine lv_if_eq (tgt := 16) hx hb dX5_as_5 (by decide) (fun c12 => ?_) (fun c12 => ?_)
    ·
      exact (dkN_nil (show dkN [] v1 from dkN_eq1 dv1 (dkN_lit (x := 0) (0) rfl) (congrArg Int32.toInt c12) rfl)).elim
    ·
      refine lv_iload_n hx hb dX5_as_8 rfl (lv_at hl 2 rfl) ?_
      refine lv_iconst (v := 5) hx hb dX5_as_9 (by decide) ?_
      refine dk_Si (As := [.int p1, .int 5]) (rest := []) ⟨hx, hb, hml, hown, hts⟩ (fx_X5_isUpTo_13 l g z I0 p1 5 (dkN_lit (x := 5) (5) rfl) hO) (va_cwS 2 hts gX5_as_X5_isUpTo rfl rfl rfl (by decide +kernel) ⟨Nat.le_of_ble_eq_true rfl, Nat.le_of_ble_eq_true rfl⟩) hK hT hW hS rfl hl.1 rfl (Nat.le_of_ble_eq_true rfl) dX5_as_10 ⟨Nat.zero_le _, Nat.zero_le _⟩ (fun v13 I13 H13 L13 hp13 hW hS => ?_)
      obtain ⟨hF13, hO, hc13⟩ := hp13
      have hF := dkF_call hF hF13 rfl
      have eI13 : I0 = I13 := (dkF_nil hF13).symm
      subst eI13
      rcases hc13 with ⟨dv13, a13_0, x13_0, xr13, -⟩ | hc13
      ·
        have q14 : p1.toInt + 1 ≤ (0 : Int) := x13_0
        have xv13 : v13 = 0 := by have h := xr13; exact h
        have d15 : dkN [(-2147483648, -1)] p1 := dkN_eq1 (dkN_top p1) a13_0 rfl rfl
        refine lv_if_ne (tgt := 19) hx hb dX5_as_13 (by decide) (fun c16 => ?_) (fun c16 => ?_)
        ·
          exact absurd ((xv13).trans (rfl).symm) c16
        ·
          refine lv_ldc (v := (-1000001)) hx hb hown (hts (.constant RX5 70 (-1000001)) (List.mem_of_getElem? (i := 1) rfl)) dX5_as_16 ?_
          exact W.iret (v := (-1000001)) hx hb hr (fun t ht hW9 => ⟨⟨(-1000001), I0, rfl, ⟨hF, hO, Or.inr (Or.inr (Or.inl ⟨dkN_sub (dkN_lit (x := (-1000001)) (-1000001) rfl) rfl, dkN_sub d11 rfl, dkN_sub d15 rfl, (show dkN [(1, 6)] (I0 25 11) from dkN_sub (by rw [hF13 25 11 rfl]; exact f1_25_11) rfl), q9, q10, q14, rfl, trivial⟩))⟩, dkW_eq ht hW⟩, hS.F ht⟩) hS.2.2 dX5_as_18
      rcases hc13 with ⟨dv13, a13_0, x13_0, x13_1, xr13, -⟩ | hc13
      ·
        have q17 : (0 : Int) + 0 ≤ p1.toInt := x13_0
        have q18 : (5 : Int) + 1 ≤ p1.toInt := x13_1
        have xv13 : v13 = 0 := by have h := xr13; exact h
        have d19 : dkN [(6, 2147483647)] p1 := dkN_eq1 (dkN_top p1) a13_0 rfl rfl
        refine lv_if_ne (tgt := 19) hx hb dX5_as_13 (by decide) (fun c20 => ?_) (fun c20 => ?_)
        ·
          exact absurd ((xv13).trans (rfl).symm) c20
        ·
          refine lv_ldc (v := (-1000001)) hx hb hown (hts (.constant RX5 70 (-1000001)) (List.mem_of_getElem? (i := 1) rfl)) dX5_as_16 ?_
          exact W.iret (v := (-1000001)) hx hb hr (fun t ht hW9 => ⟨⟨(-1000001), I0, rfl, ⟨hF, hO, Or.inr (Or.inr (Or.inr (Or.inl ⟨dkN_sub (dkN_lit (x := (-1000001)) (-1000001) rfl) rfl, dkN_sub d11 rfl, dkN_sub d19 rfl, (show dkN [(1, 6)] (I0 25 11) from dkN_sub (by rw [hF13 25 11 rfl]; exact f1_25_11) rfl), q9, q10, q17, q18, rfl, trivial⟩)))⟩, dkW_eq ht hW⟩, hS.F ht⟩) hS.2.2 dX5_as_18
      ·
        obtain ⟨dv13, a13_0, x13_0, x13_1, xr13, -⟩ := hc13
        have q21 : (0 : Int) + 0 ≤ p1.toInt := x13_0
        have q22 : p1.toInt + 0 ≤ (5 : Int) := x13_1
        have xv13 : v13 = 1 := by have h := xr13; exact h
        have d23 : dkN [(0, 5)] p1 := dkN_eq1 (dkN_top p1) a13_0 rfl rfl
        refine lv_if_ne (tgt := 19) hx hb dX5_as_13 (by decide) (fun c24 => ?_) (fun c24 => ?_)
        ·
          refine lv_aload_n hx hb dX5_as_19 rfl (lv_at hl 0 rfl) ?_
          refine dk_get (k := 0) hx hb hts iX5_as_5 hown hK (dk_at0 hW) rfl 5 (by decide) (hts (.fieldLink RX5 31 "DogKings" "now" "LDogKings$Town;") (List.mem_of_getElem? (i := 2) rfl)) rfl dX5_as_20 ?_
          refine dk_get (k := 25) hx hb hts iX5_as_4 hown hK (dk_at25 hW) rfl 12 (by decide) (hts (.fieldLink RX5 259 "DogKings$Town" "sort" "[I") (List.mem_of_getElem? (i := 3) rfl)) rfl dX5_as_23 ?_
          refine lv_iload_n hx hb dX5_as_26 rfl (lv_at hl 1 rfl) ?_
          refine dk_ild (k := 32) hx hb hK (dk_at32 hW) (dkN_in (n := 6) d11 rfl) dX5_as_27 ?_
          refine lv_topi (fun v25 ev25 => ?_)
          have xv25 : v25 = I0 32 (Int32.toNatClampNeg p0) := ev25.trans rfl
          refine lv_iload_n hx hb dX5_as_28 rfl (lv_at hl 2 rfl) ?_
          refine dk_Si (As := [.int v25, .int p1]) (rest := []) ⟨hx, hb, hml, hown, hts⟩ (fx_X5_isA_3 l g z I0 v25 p1 d23 hO) (va_cwS 2 hts gX5_as_X5_isA rfl rfl rfl (by decide +kernel) ⟨Nat.le_of_ble_eq_true rfl, Nat.le_of_ble_eq_true rfl⟩) hK hT hW hS rfl hl.1 rfl (Nat.le_of_ble_eq_true rfl) dX5_as_29 ⟨Nat.zero_le _, Nat.zero_le _⟩ (fun v26 I26 H26 L26 hp26 hW hS => ?_)
          obtain ⟨hF26, hO, hc26⟩ := hp26
          have hF := dkF_call hF hF26 rfl
          have eI26 : I0 = I26 := (dkF_nil hF26).symm
          subst eI26
          rcases hc26 with ⟨dv26, a26_1, x26_0, xr26, -⟩ | hc26
          ·
            have q27 : p1.toInt = (0 : Int) := x26_0
            have xv26 : v26 = 1 := by have h := xr26; exact h
            have d28 : dkN [(0, 0)] p1 := dkN_eq1 d23 a26_1 rfl rfl
            refine lv_if_eq (tgt := 43) hx hb dX5_as_32 (by decide) (fun c29 => ?_) (fun c29 => ?_)
            ·
              exact (dkN_nil (show dkN [] v26 from dkN_eq1 dv26 (dkN_lit (x := 0) (0) rfl) (congrArg Int32.toInt c29) rfl)).elim
            ·
              refine lv_aload_n hx hb dX5_as_35 rfl (lv_at hl 0 rfl) ?_
              refine lv_iload_n hx hb dX5_as_36 rfl (lv_at hl 1 rfl) ?_
              refine dk_Vi (As := [.int p0]) (rest := []) ⟨hx, hb, hml, hown, hts⟩ (fx_X5_nothingFound_1 l g z I0 p0 hO) (cwV 1 hts gX5_as_X5_nothingFound rfl rfl rfl (by decide +kernel) ⟨Nat.le_of_ble_eq_true rfl, Nat.le_of_ble_eq_true rfl⟩) (dk_at0 hW) rfl hK hT hW hS rfl hl.1 rfl (Nat.le_of_ble_eq_true rfl) dX5_as_37 ⟨Nat.zero_le _, Nat.zero_le _⟩ (fun v30 I30 H30 L30 hp30 hW hS => ?_)
              obtain ⟨hF30, hO, hc30⟩ := hp30
              have hF := dkF_call hF hF30 rfl
              obtain ⟨_, f30_0_3, xr30, -⟩ := hc30
              have xv30 : v30 = p0 := by have h := xr30; exact h
              refine lv_goto (tgt := 48) hx hb dX5_as_40 (by decide) ?_
              exact W.iret (v := v30) hx hb hr (fun t ht hW9 => ⟨⟨v30, I30, rfl, ⟨hF, hO, Or.inr (Or.inr (Or.inr (Or.inr (Or.inl ⟨trivial, dkN_sub d11 rfl, dkN_sub d28 rfl, (show dkN [(0, 0)] (I30 0 3) from dkN_sub f30_0_3 rfl), (show dkN [(1, 6)] (I30 25 11) from dkN_sub (by rw [hF30 25 11 rfl]; exact (by rw [hF26 25 11 rfl]; exact (by rw [hF13 25 11 rfl]; exact f1_25_11))) rfl), q9, q10, q21, q22, q27, xv30, trivial⟩))))⟩, dkW_eq ht hW⟩, hS.F ht⟩) hS.2.2 dX5_as_48
          rcases hc26 with ⟨dv26, a26_0, a26_1, x26_0, x26_1, x26_2, xr26, -⟩ | hc26
          ·
            have q31 : p1.toInt ≠ (0 : Int) := x26_0
            have q32 : p1.toInt = (1 : Int) := x26_1
            have q33 : (I0 32 (Int32.toNatClampNeg p0)).toInt = (1 : Int) := by have h := x26_2; rw [xv25] at h; exact h
            have xv26 : v26 = 1 := by have h := xr26; exact h
            have d34 : dkN [(1, 1)] v25 := dkN_eq1 (dkN_top v25) a26_0 rfl rfl
            have d35 : dkN [(1, 1)] p1 := dkN_eq1 d23 a26_1 rfl rfl
            refine lv_if_eq (tgt := 43) hx hb dX5_as_32 (by decide) (fun c36 => ?_) (fun c36 => ?_)
            ·
              exact (dkN_nil (show dkN [] v26 from dkN_eq1 dv26 (dkN_lit (x := 0) (0) rfl) (congrArg Int32.toInt c36) rfl)).elim
            ·
              refine lv_aload_n hx hb dX5_as_35 rfl (lv_at hl 0 rfl) ?_
              refine lv_iload_n hx hb dX5_as_36 rfl (lv_at hl 1 rfl) ?_
              refine dk_Vi (As := [.int p0]) (rest := []) ⟨hx, hb, hml, hown, hts⟩ (fx_X5_nothingFound_1 l g z I0 p0 hO) (cwV 1 hts gX5_as_X5_nothingFound rfl rfl rfl (by decide +kernel) ⟨Nat.le_of_ble_eq_true rfl, Nat.le_of_ble_eq_true rfl⟩) (dk_at0 hW) rfl hK hT hW hS rfl hl.1 rfl (Nat.le_of_ble_eq_true rfl) dX5_as_37 ⟨Nat.zero_le _, Nat.zero_le _⟩ (fun v37 I37 H37 L37 hp37 hW hS => ?_)
              obtain ⟨hF37, hO, hc37⟩ := hp37
              have hF := dkF_call hF hF37 rfl
              obtain ⟨_, f37_0_3, xr37, -⟩ := hc37
              have xv37 : v37 = p0 := by have h := xr37; exact h
              refine lv_goto (tgt := 48) hx hb dX5_as_40 (by decide) ?_
              exact W.iret (v := v37) hx hb hr (fun t ht hW9 => ⟨⟨v37, I37, rfl, ⟨hF, hO, Or.inr (Or.inr (Or.inr (Or.inr (Or.inr (Or.inl ⟨trivial, dkN_sub d11 rfl, dkN_sub d35 rfl, (show dkN [(0, 0)] (I37 0 3) from dkN_sub f37_0_3 rfl), (show dkN [(1, 6)] (I37 25 11) from dkN_sub (by rw [hF37 25 11 rfl]; exact (by rw [hF26 25 11 rfl]; exact (by rw [hF13 25 11 rfl]; exact f1_25_11))) rfl), q9, q10, q21, q22, q31, q32, q33, xv37, trivial⟩)))))⟩, dkW_eq ht hW⟩, hS.F ht⟩) hS.2.2 dX5_as_48
          rcases hc26 with ⟨dv26, a26_0, a26_1, x26_0, x26_1, x26_2, x26_3, xr26, -⟩ | hc26
          ·
            have q38 : p1.toInt ≠ (0 : Int) := x26_0
            have q39 : p1.toInt = (1 : Int) := x26_1
            have q40 : (I0 32 (Int32.toNatClampNeg p0)).toInt ≠ (1 : Int) := by have h := x26_2; rw [xv25] at h; exact h
            have q41 : (I0 32 (Int32.toNatClampNeg p0)).toInt = (2 : Int) := by have h := x26_3; rw [xv25] at h; exact h
            have xv26 : v26 = 1 := by have h := xr26; exact h
            have d42 : dkN [(2, 2)] v25 := dkN_eq1 (dkN_top v25) a26_0 rfl rfl
            have d43 : dkN [(1, 1)] p1 := dkN_eq1 d23 a26_1 rfl rfl
            refine lv_if_eq (tgt := 43) hx hb dX5_as_32 (by decide) (fun c44 => ?_) (fun c44 => ?_)
            ·
              exact (dkN_nil (show dkN [] v26 from dkN_eq1 dv26 (dkN_lit (x := 0) (0) rfl) (congrArg Int32.toInt c44) rfl)).elim
            ·
              refine lv_aload_n hx hb dX5_as_35 rfl (lv_at hl 0 rfl) ?_
              refine lv_iload_n hx hb dX5_as_36 rfl (lv_at hl 1 rfl) ?_
              refine dk_Vi (As := [.int p0]) (rest := []) ⟨hx, hb, hml, hown, hts⟩ (fx_X5_nothingFound_1 l g z I0 p0 hO) (cwV 1 hts gX5_as_X5_nothingFound rfl rfl rfl (by decide +kernel) ⟨Nat.le_of_ble_eq_true rfl, Nat.le_of_ble_eq_true rfl⟩) (dk_at0 hW) rfl hK hT hW hS rfl hl.1 rfl (Nat.le_of_ble_eq_true rfl) dX5_as_37 ⟨Nat.zero_le _, Nat.zero_le _⟩ (fun v45 I45 H45 L45 hp45 hW hS => ?_)
              obtain ⟨hF45, hO, hc45⟩ := hp45
              have hF := dkF_call hF hF45 rfl
              obtain ⟨_, f45_0_3, xr45, -⟩ := hc45
              have xv45 : v45 = p0 := by have h := xr45; exact h
              refine lv_goto (tgt := 48) hx hb dX5_as_40 (by decide) ?_
              exact W.iret (v := v45) hx hb hr (fun t ht hW9 => ⟨⟨v45, I45, rfl, ⟨hF, hO, Or.inr (Or.inr (Or.inr (Or.inr (Or.inr (Or.inr (Or.inl ⟨trivial, dkN_sub d11 rfl, dkN_sub d43 rfl, (show dkN [(0, 0)] (I45 0 3) from dkN_sub f45_0_3 rfl), (show dkN [(1, 6)] (I45 25 11) from dkN_sub (by rw [hF45 25 11 rfl]; exact (by rw [hF26 25 11 rfl]; exact (by rw [hF13 25 11 rfl]; exact f1_25_11))) rfl), q9, q10, q21, q22, q38, q39, q40, q41, xv45, trivial⟩))))))⟩, dkW_eq ht hW⟩, hS.F ht⟩) hS.2.2 dX5_as_48
          rcases hc26 with ⟨dv26, a26_0, a26_1, x26_0, x26_1, x26_2, x26_3, x26_4, xr26, -⟩ | hc26
          ·
            have q46 : p1.toInt ≠ (0 : Int) := x26_0
            have q47 : p1.toInt = (1 : Int) := x26_1
            have q48 : (I0 32 (Int32.toNatClampNeg p0)).toInt ≠ (1 : Int) := by have h := x26_2; rw [xv25] at h; exact h
            have q49 : (I0 32 (Int32.toNatClampNeg p0)).toInt ≠ (2 : Int) := by have h := x26_3; rw [xv25] at h; exact h
            have q50 : (I0 32 (Int32.toNatClampNeg p0)).toInt ≠ (3 : Int) := by have h := x26_4; rw [xv25] at h; exact h
            have xv26 : v26 = 0 := by have h := xr26; exact h
            have d51 : dkN [(-2147483648, 0), (4, 2147483647)] v25 := dkN_eq1 (dkN_top v25) a26_0 rfl rfl
            have d52 : dkN [(1, 1)] p1 := dkN_eq1 d23 a26_1 rfl rfl
            refine lv_if_eq (tgt := 43) hx hb dX5_as_32 (by decide) (fun c53 => ?_) (fun c53 => ?_)
            ·
              refine lv_aload_n hx hb dX5_as_43 rfl (lv_at hl 0 rfl) ?_
              refine lv_iconst (v := 3) hx hb dX5_as_44 (by decide) ?_
              refine dk_Vi (As := [.int 3]) (rest := []) ⟨hx, hb, hml, hown, hts⟩ (fx_X5_found_5 l g z I0 3 (dkN_lit (x := 3) (3) rfl) hO) (cwV 1 hts gX5_as_X5_found rfl rfl rfl (by decide +kernel) ⟨Nat.le_of_ble_eq_true rfl, Nat.le_of_ble_eq_true rfl⟩) (dk_at0 hW) rfl hK hT hW hS rfl hl.1 rfl (Nat.le_of_ble_eq_true rfl) dX5_as_45 ⟨Nat.zero_le _, Nat.zero_le _⟩ (fun v54 I54 H54 L54 hp54 hW hS => ?_)
              obtain ⟨hF54, hO, hc54⟩ := hp54
              have hF := dkF_call hF hF54 rfl
              obtain ⟨dv54, f54_0_3, x54_0, xr54, -⟩ := hc54
              have q55 : ((-1000010 : Int32) - (3 : Int32)).toInt = (-1000010 : Int) - (3 : Int) := x54_0
              have xv54 : v54 = (-1000010 : Int32) - (3 : Int32) := by have h := xr54; exact h
              exact W.iret (v := v54) hx hb hr (fun t ht hW9 => ⟨⟨v54, I54, rfl, ⟨hF, hO, Or.inr (Or.inr (Or.inr (Or.inr (Or.inr (Or.inr (Or.inr (Or.inl ⟨dkN_sub dv54 rfl, dkN_sub d11 rfl, dkN_sub d52 rfl, (show dkN [(3, 3)] (I54 0 3) from dkN_sub f54_0_3 rfl), (show dkN [(1, 6)] (I54 25 11) from dkN_sub (by rw [hF54 25 11 rfl]; exact (by rw [hF26 25 11 rfl]; exact (by rw [hF13 25 11 rfl]; exact f1_25_11))) rfl), q9, q10, q21, q22, q46, q47, q48, q49, q50, q55, xv54, trivial⟩)))))))⟩, dkW_eq ht hW⟩, hS.F ht⟩) hS.2.2 dX5_as_48
            ·
              exact absurd ((xv26).trans (rfl).symm) c53
          rcases hc26 with ⟨dv26, a26_0, a26_1, x26_0, x26_1, x26_2, x26_3, x26_4, xr26, -⟩ | hc26
          ·
            have q56 : p1.toInt ≠ (0 : Int) := x26_0
            have q57 : p1.toInt = (1 : Int) := x26_1
            have q58 : (I0 32 (Int32.toNatClampNeg p0)).toInt ≠ (1 : Int) := by have h := x26_2; rw [xv25] at h; exact h
            have q59 : (I0 32 (Int32.toNatClampNeg p0)).toInt ≠ (2 : Int) := by have h := x26_3; rw [xv25] at h; exact h
            have q60 : (I0 32 (Int32.toNatClampNeg p0)).toInt = (3 : Int) := by have h := x26_4; rw [xv25] at h; exact h
            have xv26 : v26 = 1 := by have h := xr26; exact h
            have d61 : dkN [(3, 3)] v25 := dkN_eq1 (dkN_top v25) a26_0 rfl rfl
            have d62 : dkN [(1, 1)] p1 := dkN_eq1 d23 a26_1 rfl rfl
            refine lv_if_eq (tgt := 43) hx hb dX5_as_32 (by decide) (fun c63 => ?_) (fun c63 => ?_)
            ·
              exact (dkN_nil (show dkN [] v26 from dkN_eq1 dv26 (dkN_lit (x := 0) (0) rfl) (congrArg Int32.toInt c63) rfl)).elim
            ·
              refine lv_aload_n hx hb dX5_as_35 rfl (lv_at hl 0 rfl) ?_
              refine lv_iload_n hx hb dX5_as_36 rfl (lv_at hl 1 rfl) ?_
              refine dk_Vi (As := [.int p0]) (rest := []) ⟨hx, hb, hml, hown, hts⟩ (fx_X5_nothingFound_1 l g z I0 p0 hO) (cwV 1 hts gX5_as_X5_nothingFound rfl rfl rfl (by decide +kernel) ⟨Nat.le_of_ble_eq_true rfl, Nat.le_of_ble_eq_true rfl⟩) (dk_at0 hW) rfl hK hT hW hS rfl hl.1 rfl (Nat.le_of_ble_eq_true rfl) dX5_as_37 ⟨Nat.zero_le _, Nat.zero_le _⟩ (fun v64 I64 H64 L64 hp64 hW hS => ?_)
              obtain ⟨hF64, hO, hc64⟩ := hp64
              have hF := dkF_call hF hF64 rfl
              obtain ⟨_, f64_0_3, xr64, -⟩ := hc64
              have xv64 : v64 = p0 := by have h := xr64; exact h
              refine lv_goto (tgt := 48) hx hb dX5_as_40 (by decide) ?_
              exact W.iret (v := v64) hx hb hr (fun t ht hW9 => ⟨⟨v64, I64, rfl, ⟨hF, hO, Or.inr (Or.inr (Or.inr (Or.inr (Or.inr (Or.inr (Or.inr (Or.inr (Or.inl ⟨trivial, dkN_sub d11 rfl, dkN_sub d62 rfl, (show dkN [(0, 0)] (I64 0 3) from dkN_sub f64_0_3 rfl), (show dkN [(1, 6)] (I64 25 11) from dkN_sub (by rw [hF64 25 11 rfl]; exact (by rw [hF26 25 11 rfl]; exact (by rw [hF13 25 11 rfl]; exact f1_25_11))) rfl), q9, q10, q21, q22, q56, q57, q58, q59, q60, xv64, trivial⟩))))))))⟩, dkW_eq ht hW⟩, hS.F ht⟩) hS.2.2 dX5_as_48
          rcases hc26 with ⟨dv26, a26_0, a26_1, x26_0, x26_1, x26_2, x26_3, xr26, -⟩ | hc26
          ·
            have q65 : p1.toInt ≠ (0 : Int) := x26_0
            have q66 : p1.toInt ≠ (1 : Int) := x26_1
            have q67 : p1.toInt = (2 : Int) := x26_2
            have q68 : (I0 32 (Int32.toNatClampNeg p0)).toInt ≠ p1.toInt := by have h := x26_3; rw [xv25] at h; exact h
            have xv26 : v26 = 0 := by have h := xr26; exact h
            have d69 : dkN [(-2147483648, 1), (3, 2147483647)] v25 := dkN_eq1 (dkN_top v25) a26_0 rfl rfl
            have d70 : dkN [(2, 2)] p1 := dkN_eq1 d23 a26_1 rfl rfl
            refine lv_if_eq (tgt := 43) hx hb dX5_as_32 (by decide) (fun c71 => ?_) (fun c71 => ?_)
            ·
              refine lv_aload_n hx hb dX5_as_43 rfl (lv_at hl 0 rfl) ?_
              refine lv_iconst (v := 3) hx hb dX5_as_44 (by decide) ?_
              refine dk_Vi (As := [.int 3]) (rest := []) ⟨hx, hb, hml, hown, hts⟩ (fx_X5_found_5 l g z I0 3 (dkN_lit (x := 3) (3) rfl) hO) (cwV 1 hts gX5_as_X5_found rfl rfl rfl (by decide +kernel) ⟨Nat.le_of_ble_eq_true rfl, Nat.le_of_ble_eq_true rfl⟩) (dk_at0 hW) rfl hK hT hW hS rfl hl.1 rfl (Nat.le_of_ble_eq_true rfl) dX5_as_45 ⟨Nat.zero_le _, Nat.zero_le _⟩ (fun v72 I72 H72 L72 hp72 hW hS => ?_)
              obtain ⟨hF72, hO, hc72⟩ := hp72
              have hF := dkF_call hF hF72 rfl
              obtain ⟨dv72, f72_0_3, x72_0, xr72, -⟩ := hc72
              have q73 : ((-1000010 : Int32) - (3 : Int32)).toInt = (-1000010 : Int) - (3 : Int) := x72_0
              have xv72 : v72 = (-1000010 : Int32) - (3 : Int32) := by have h := xr72; exact h
              exact W.iret (v := v72) hx hb hr (fun t ht hW9 => ⟨⟨v72, I72, rfl, ⟨hF, hO, Or.inr (Or.inr (Or.inr (Or.inr (Or.inr (Or.inr (Or.inr (Or.inr (Or.inr (Or.inl ⟨dkN_sub dv72 rfl, dkN_sub d11 rfl, dkN_sub d70 rfl, (show dkN [(3, 3)] (I72 0 3) from dkN_sub f72_0_3 rfl), (show dkN [(1, 6)] (I72 25 11) from dkN_sub (by rw [hF72 25 11 rfl]; exact (by rw [hF26 25 11 rfl]; exact (by rw [hF13 25 11 rfl]; exact f1_25_11))) rfl), q9, q10, q21, q22, q65, q66, q67, q68, q73, xv72, trivial⟩)))))))))⟩, dkW_eq ht hW⟩, hS.F ht⟩) hS.2.2 dX5_as_48
            ·
              exact absurd ((xv26).trans (rfl).symm) c71
          rcases hc26 with ⟨dv26, a26_0, a26_1, x26_0, x26_1, x26_2, x26_3, xr26, -⟩ | hc26
          ·
            have q74 : p1.toInt ≠ (0 : Int) := x26_0
            have q75 : p1.toInt ≠ (1 : Int) := x26_1
            have q76 : p1.toInt = (2 : Int) := x26_2
            have q77 : (I0 32 (Int32.toNatClampNeg p0)).toInt = p1.toInt := by have h := x26_3; rw [xv25] at h; exact h
            have xv26 : v26 = 1 := by have h := xr26; exact h
            have d78 : dkN [(2, 2)] v25 := dkN_eq1 (dkN_top v25) a26_0 rfl rfl
            have d79 : dkN [(2, 2)] p1 := dkN_eq1 d23 a26_1 rfl rfl
            refine lv_if_eq (tgt := 43) hx hb dX5_as_32 (by decide) (fun c80 => ?_) (fun c80 => ?_)
            ·
              exact (dkN_nil (show dkN [] v26 from dkN_eq1 dv26 (dkN_lit (x := 0) (0) rfl) (congrArg Int32.toInt c80) rfl)).elim
            ·
              refine lv_aload_n hx hb dX5_as_35 rfl (lv_at hl 0 rfl) ?_
              refine lv_iload_n hx hb dX5_as_36 rfl (lv_at hl 1 rfl) ?_
              refine dk_Vi (As := [.int p0]) (rest := []) ⟨hx, hb, hml, hown, hts⟩ (fx_X5_nothingFound_1 l g z I0 p0 hO) (cwV 1 hts gX5_as_X5_nothingFound rfl rfl rfl (by decide +kernel) ⟨Nat.le_of_ble_eq_true rfl, Nat.le_of_ble_eq_true rfl⟩) (dk_at0 hW) rfl hK hT hW hS rfl hl.1 rfl (Nat.le_of_ble_eq_true rfl) dX5_as_37 ⟨Nat.zero_le _, Nat.zero_le _⟩ (fun v81 I81 H81 L81 hp81 hW hS => ?_)
              obtain ⟨hF81, hO, hc81⟩ := hp81
              have hF := dkF_call hF hF81 rfl
              obtain ⟨_, f81_0_3, xr81, -⟩ := hc81
              have xv81 : v81 = p0 := by have h := xr81; exact h
              refine lv_goto (tgt := 48) hx hb dX5_as_40 (by decide) ?_
              exact W.iret (v := v81) hx hb hr (fun t ht hW9 => ⟨⟨v81, I81, rfl, ⟨hF, hO, Or.inr (Or.inr (Or.inr (Or.inr (Or.inr (Or.inr (Or.inr (Or.inr (Or.inr (Or.inr (Or.inl ⟨trivial, dkN_sub d11 rfl, dkN_sub d79 rfl, (show dkN [(0, 0)] (I81 0 3) from dkN_sub f81_0_3 rfl), (show dkN [(1, 6)] (I81 25 11) from dkN_sub (by rw [hF81 25 11 rfl]; exact (by rw [hF26 25 11 rfl]; exact (by rw [hF13 25 11 rfl]; exact f1_25_11))) rfl), q9, q10, q21, q22, q74, q75, q76, q77, xv81, trivial⟩))))))))))⟩, dkW_eq ht hW⟩, hS.F ht⟩) hS.2.2 dX5_as_48
          rcases hc26 with ⟨dv26, a26_0, a26_1, x26_0, x26_1, x26_2, x26_3, x26_4, xr26, -⟩ | hc26
          ·
            have q82 : p1.toInt ≠ (0 : Int) := x26_0
            have q83 : p1.toInt ≠ (1 : Int) := x26_1
            have q84 : p1.toInt ≠ (2 : Int) := x26_2
            have q85 : p1.toInt = (3 : Int) := x26_3
            have q86 : (I0 32 (Int32.toNatClampNeg p0)).toInt ≠ p1.toInt := by have h := x26_4; rw [xv25] at h; exact h
            have xv26 : v26 = 0 := by have h := xr26; exact h
            have d87 : dkN [(-2147483648, 2), (4, 2147483647)] v25 := dkN_eq1 (dkN_top v25) a26_0 rfl rfl
            have d88 : dkN [(3, 3)] p1 := dkN_eq1 d23 a26_1 rfl rfl
            refine lv_if_eq (tgt := 43) hx hb dX5_as_32 (by decide) (fun c89 => ?_) (fun c89 => ?_)
            ·
              refine lv_aload_n hx hb dX5_as_43 rfl (lv_at hl 0 rfl) ?_
              refine lv_iconst (v := 3) hx hb dX5_as_44 (by decide) ?_
              refine dk_Vi (As := [.int 3]) (rest := []) ⟨hx, hb, hml, hown, hts⟩ (fx_X5_found_5 l g z I0 3 (dkN_lit (x := 3) (3) rfl) hO) (cwV 1 hts gX5_as_X5_found rfl rfl rfl (by decide +kernel) ⟨Nat.le_of_ble_eq_true rfl, Nat.le_of_ble_eq_true rfl⟩) (dk_at0 hW) rfl hK hT hW hS rfl hl.1 rfl (Nat.le_of_ble_eq_true rfl) dX5_as_45 ⟨Nat.zero_le _, Nat.zero_le _⟩ (fun v90 I90 H90 L90 hp90 hW hS => ?_)
              obtain ⟨hF90, hO, hc90⟩ := hp90
              have hF := dkF_call hF hF90 rfl
              obtain ⟨dv90, f90_0_3, x90_0, xr90, -⟩ := hc90
              have q91 : ((-1000010 : Int32) - (3 : Int32)).toInt = (-1000010 : Int) - (3 : Int) := x90_0
              have xv90 : v90 = (-1000010 : Int32) - (3 : Int32) := by have h := xr90; exact h
              exact W.iret (v := v90) hx hb hr (fun t ht hW9 => ⟨⟨v90, I90, rfl, ⟨hF, hO, Or.inr (Or.inr (Or.inr (Or.inr (Or.inr (Or.inr (Or.inr (Or.inr (Or.inr (Or.inr (Or.inr (Or.inl ⟨dkN_sub dv90 rfl, dkN_sub d11 rfl, dkN_sub d88 rfl, (show dkN [(3, 3)] (I90 0 3) from dkN_sub f90_0_3 rfl), (show dkN [(1, 6)] (I90 25 11) from dkN_sub (by rw [hF90 25 11 rfl]; exact (by rw [hF26 25 11 rfl]; exact (by rw [hF13 25 11 rfl]; exact f1_25_11))) rfl), q9, q10, q21, q22, q82, q83, q84, q85, q86, q91, xv90, trivial⟩)))))))))))⟩, dkW_eq ht hW⟩, hS.F ht⟩) hS.2.2 dX5_as_48
            ·
              exact absurd ((xv26).trans (rfl).symm) c89
          rcases hc26 with ⟨dv26, a26_0, a26_1, x26_0, x26_1, x26_2, x26_3, x26_4, xr26, -⟩ | hc26
          ·
            have q92 : p1.toInt ≠ (0 : Int) := x26_0
            have q93 : p1.toInt ≠ (1 : Int) := x26_1
            have q94 : p1.toInt ≠ (2 : Int) := x26_2
            have q95 : p1.toInt = (3 : Int) := x26_3
            have q96 : (I0 32 (Int32.toNatClampNeg p0)).toInt = p1.toInt := by have h := x26_4; rw [xv25] at h; exact h
            have xv26 : v26 = 1 := by have h := xr26; exact h
            have d97 : dkN [(3, 3)] v25 := dkN_eq1 (dkN_top v25) a26_0 rfl rfl
            have d98 : dkN [(3, 3)] p1 := dkN_eq1 d23 a26_1 rfl rfl
            refine lv_if_eq (tgt := 43) hx hb dX5_as_32 (by decide) (fun c99 => ?_) (fun c99 => ?_)
            ·
              exact (dkN_nil (show dkN [] v26 from dkN_eq1 dv26 (dkN_lit (x := 0) (0) rfl) (congrArg Int32.toInt c99) rfl)).elim
            ·
              refine lv_aload_n hx hb dX5_as_35 rfl (lv_at hl 0 rfl) ?_
              refine lv_iload_n hx hb dX5_as_36 rfl (lv_at hl 1 rfl) ?_
              refine dk_Vi (As := [.int p0]) (rest := []) ⟨hx, hb, hml, hown, hts⟩ (fx_X5_nothingFound_1 l g z I0 p0 hO) (cwV 1 hts gX5_as_X5_nothingFound rfl rfl rfl (by decide +kernel) ⟨Nat.le_of_ble_eq_true rfl, Nat.le_of_ble_eq_true rfl⟩) (dk_at0 hW) rfl hK hT hW hS rfl hl.1 rfl (Nat.le_of_ble_eq_true rfl) dX5_as_37 ⟨Nat.zero_le _, Nat.zero_le _⟩ (fun v100 I100 H100 L100 hp100 hW hS => ?_)
              obtain ⟨hF100, hO, hc100⟩ := hp100
              have hF := dkF_call hF hF100 rfl
              obtain ⟨_, f100_0_3, xr100, -⟩ := hc100
              have xv100 : v100 = p0 := by have h := xr100; exact h
              refine lv_goto (tgt := 48) hx hb dX5_as_40 (by decide) ?_
              exact W.iret (v := v100) hx hb hr (fun t ht hW9 => ⟨⟨v100, I100, rfl, ⟨hF, hO, Or.inr (Or.inr (Or.inr (Or.inr (Or.inr (Or.inr (Or.inr (Or.inr (Or.inr (Or.inr (Or.inr (Or.inr (Or.inl ⟨trivial, dkN_sub d11 rfl, dkN_sub d98 rfl, (show dkN [(0, 0)] (I100 0 3) from dkN_sub f100_0_3 rfl), (show dkN [(1, 6)] (I100 25 11) from dkN_sub (by rw [hF100 25 11 rfl]; exact (by rw [hF26 25 11 rfl]; exact (by rw [hF13 25 11 rfl]; exact f1_25_11))) rfl), q9, q10, q21, q22, q92, q93, q94, q95, q96, xv100, trivial⟩))))))))))))⟩, dkW_eq ht hW⟩, hS.F ht⟩) hS.2.2 dX5_as_48
          rcases hc26 with ⟨dv26, a26_0, a26_1, x26_0, x26_1, x26_2, x26_3, x26_4, x26_5, xr26, -⟩ | hc26
          ·
            have q101 : p1.toInt ≠ (0 : Int) := x26_0
            have q102 : p1.toInt ≠ (1 : Int) := x26_1
            have q103 : p1.toInt ≠ (2 : Int) := x26_2
            have q104 : p1.toInt ≠ (3 : Int) := x26_3
            have q105 : p1.toInt = (4 : Int) := x26_4
            have q106 : (I0 32 (Int32.toNatClampNeg p0)).toInt = (4 : Int) := by have h := x26_5; rw [xv25] at h; exact h
            have xv26 : v26 = 1 := by have h := xr26; exact h
            have d107 : dkN [(4, 4)] v25 := dkN_eq1 (dkN_top v25) a26_0 rfl rfl
            have d108 : dkN [(4, 4)] p1 := dkN_eq1 d23 a26_1 rfl rfl
            refine lv_if_eq (tgt := 43) hx hb dX5_as_32 (by decide) (fun c109 => ?_) (fun c109 => ?_)
            ·
              exact (dkN_nil (show dkN [] v26 from dkN_eq1 dv26 (dkN_lit (x := 0) (0) rfl) (congrArg Int32.toInt c109) rfl)).elim
            ·
              refine lv_aload_n hx hb dX5_as_35 rfl (lv_at hl 0 rfl) ?_
              refine lv_iload_n hx hb dX5_as_36 rfl (lv_at hl 1 rfl) ?_
              refine dk_Vi (As := [.int p0]) (rest := []) ⟨hx, hb, hml, hown, hts⟩ (fx_X5_nothingFound_1 l g z I0 p0 hO) (cwV 1 hts gX5_as_X5_nothingFound rfl rfl rfl (by decide +kernel) ⟨Nat.le_of_ble_eq_true rfl, Nat.le_of_ble_eq_true rfl⟩) (dk_at0 hW) rfl hK hT hW hS rfl hl.1 rfl (Nat.le_of_ble_eq_true rfl) dX5_as_37 ⟨Nat.zero_le _, Nat.zero_le _⟩ (fun v110 I110 H110 L110 hp110 hW hS => ?_)
              obtain ⟨hF110, hO, hc110⟩ := hp110
              have hF := dkF_call hF hF110 rfl
              obtain ⟨_, f110_0_3, xr110, -⟩ := hc110
              have xv110 : v110 = p0 := by have h := xr110; exact h
              refine lv_goto (tgt := 48) hx hb dX5_as_40 (by decide) ?_
              exact W.iret (v := v110) hx hb hr (fun t ht hW9 => ⟨⟨v110, I110, rfl, ⟨hF, hO, Or.inr (Or.inr (Or.inr (Or.inr (Or.inr (Or.inr (Or.inr (Or.inr (Or.inr (Or.inr (Or.inr (Or.inr (Or.inr (Or.inl ⟨trivial, dkN_sub d11 rfl, dkN_sub d108 rfl, (show dkN [(0, 0)] (I110 0 3) from dkN_sub f110_0_3 rfl), (show dkN [(1, 6)] (I110 25 11) from dkN_sub (by rw [hF110 25 11 rfl]; exact (by rw [hF26 25 11 rfl]; exact (by rw [hF13 25 11 rfl]; exact f1_25_11))) rfl), q9, q10, q21, q22, q101, q102, q103, q104, q105, q106, xv110, trivial⟩)))))))))))))⟩, dkW_eq ht hW⟩, hS.F ht⟩) hS.2.2 dX5_as_48
          rcases hc26 with ⟨dv26, a26_0, a26_1, x26_0, x26_1, x26_2, x26_3, x26_4, x26_5, x26_6, xr26, -⟩ | hc26
          ·
            have q111 : p1.toInt ≠ (0 : Int) := x26_0
            have q112 : p1.toInt ≠ (1 : Int) := x26_1
            have q113 : p1.toInt ≠ (2 : Int) := x26_2
            have q114 : p1.toInt ≠ (3 : Int) := x26_3
            have q115 : p1.toInt = (4 : Int) := x26_4
            have q116 : (I0 32 (Int32.toNatClampNeg p0)).toInt ≠ (4 : Int) := by have h := x26_5; rw [xv25] at h; exact h
            have q117 : (I0 32 (Int32.toNatClampNeg p0)).toInt ≠ (5 : Int) := by have h := x26_6; rw [xv25] at h; exact h
            have xv26 : v26 = 0 := by have h := xr26; exact h
            have d118 : dkN [(-2147483648, 3), (6, 2147483647)] v25 := dkN_eq1 (dkN_top v25) a26_0 rfl rfl
            have d119 : dkN [(4, 4)] p1 := dkN_eq1 d23 a26_1 rfl rfl
            refine lv_if_eq (tgt := 43) hx hb dX5_as_32 (by decide) (fun c120 => ?_) (fun c120 => ?_)
            ·
              refine lv_aload_n hx hb dX5_as_43 rfl (lv_at hl 0 rfl) ?_
              refine lv_iconst (v := 3) hx hb dX5_as_44 (by decide) ?_
              refine dk_Vi (As := [.int 3]) (rest := []) ⟨hx, hb, hml, hown, hts⟩ (fx_X5_found_5 l g z I0 3 (dkN_lit (x := 3) (3) rfl) hO) (cwV 1 hts gX5_as_X5_found rfl rfl rfl (by decide +kernel) ⟨Nat.le_of_ble_eq_true rfl, Nat.le_of_ble_eq_true rfl⟩) (dk_at0 hW) rfl hK hT hW hS rfl hl.1 rfl (Nat.le_of_ble_eq_true rfl) dX5_as_45 ⟨Nat.zero_le _, Nat.zero_le _⟩ (fun v121 I121 H121 L121 hp121 hW hS => ?_)
              obtain ⟨hF121, hO, hc121⟩ := hp121
              have hF := dkF_call hF hF121 rfl
              obtain ⟨dv121, f121_0_3, x121_0, xr121, -⟩ := hc121
              have q122 : ((-1000010 : Int32) - (3 : Int32)).toInt = (-1000010 : Int) - (3 : Int) := x121_0
              have xv121 : v121 = (-1000010 : Int32) - (3 : Int32) := by have h := xr121; exact h
              exact W.iret (v := v121) hx hb hr (fun t ht hW9 => ⟨⟨v121, I121, rfl, ⟨hF, hO, Or.inr (Or.inr (Or.inr (Or.inr (Or.inr (Or.inr (Or.inr (Or.inr (Or.inr (Or.inr (Or.inr (Or.inr (Or.inr (Or.inr (Or.inl ⟨dkN_sub dv121 rfl, dkN_sub d11 rfl, dkN_sub d119 rfl, (show dkN [(3, 3)] (I121 0 3) from dkN_sub f121_0_3 rfl), (show dkN [(1, 6)] (I121 25 11) from dkN_sub (by rw [hF121 25 11 rfl]; exact (by rw [hF26 25 11 rfl]; exact (by rw [hF13 25 11 rfl]; exact f1_25_11))) rfl), q9, q10, q21, q22, q111, q112, q113, q114, q115, q116, q117, q122, xv121, trivial⟩))))))))))))))⟩, dkW_eq ht hW⟩, hS.F ht⟩) hS.2.2 dX5_as_48
            ·
              exact absurd ((xv26).trans (rfl).symm) c120
          rcases hc26 with ⟨dv26, a26_0, a26_1, x26_0, x26_1, x26_2, x26_3, x26_4, x26_5, x26_6, xr26, -⟩ | hc26
          ·
            have q123 : p1.toInt ≠ (0 : Int) := x26_0
            have q124 : p1.toInt ≠ (1 : Int) := x26_1
            have q125 : p1.toInt ≠ (2 : Int) := x26_2
            have q126 : p1.toInt ≠ (3 : Int) := x26_3
            have q127 : p1.toInt = (4 : Int) := x26_4
            have q128 : (I0 32 (Int32.toNatClampNeg p0)).toInt ≠ (4 : Int) := by have h := x26_5; rw [xv25] at h; exact h
            have q129 : (I0 32 (Int32.toNatClampNeg p0)).toInt = (5 : Int) := by have h := x26_6; rw [xv25] at h; exact h
            have xv26 : v26 = 1 := by have h := xr26; exact h
            have d130 : dkN [(5, 5)] v25 := dkN_eq1 (dkN_top v25) a26_0 rfl rfl
            have d131 : dkN [(4, 4)] p1 := dkN_eq1 d23 a26_1 rfl rfl
            refine lv_if_eq (tgt := 43) hx hb dX5_as_32 (by decide) (fun c132 => ?_) (fun c132 => ?_)
            ·
              exact (dkN_nil (show dkN [] v26 from dkN_eq1 dv26 (dkN_lit (x := 0) (0) rfl) (congrArg Int32.toInt c132) rfl)).elim
            ·
              refine lv_aload_n hx hb dX5_as_35 rfl (lv_at hl 0 rfl) ?_
              refine lv_iload_n hx hb dX5_as_36 rfl (lv_at hl 1 rfl) ?_
              refine dk_Vi (As := [.int p0]) (rest := []) ⟨hx, hb, hml, hown, hts⟩ (fx_X5_nothingFound_1 l g z I0 p0 hO) (cwV 1 hts gX5_as_X5_nothingFound rfl rfl rfl (by decide +kernel) ⟨Nat.le_of_ble_eq_true rfl, Nat.le_of_ble_eq_true rfl⟩) (dk_at0 hW) rfl hK hT hW hS rfl hl.1 rfl (Nat.le_of_ble_eq_true rfl) dX5_as_37 ⟨Nat.zero_le _, Nat.zero_le _⟩ (fun v133 I133 H133 L133 hp133 hW hS => ?_)
              obtain ⟨hF133, hO, hc133⟩ := hp133
              have hF := dkF_call hF hF133 rfl
              obtain ⟨_, f133_0_3, xr133, -⟩ := hc133
              have xv133 : v133 = p0 := by have h := xr133; exact h
              refine lv_goto (tgt := 48) hx hb dX5_as_40 (by decide) ?_
              exact W.iret (v := v133) hx hb hr (fun t ht hW9 => ⟨⟨v133, I133, rfl, ⟨hF, hO, Or.inr (Or.inr (Or.inr (Or.inr (Or.inr (Or.inr (Or.inr (Or.inr (Or.inr (Or.inr (Or.inr (Or.inr (Or.inr (Or.inr (Or.inr (Or.inl ⟨trivial, dkN_sub d11 rfl, dkN_sub d131 rfl, (show dkN [(0, 0)] (I133 0 3) from dkN_sub f133_0_3 rfl), (show dkN [(1, 6)] (I133 25 11) from dkN_sub (by rw [hF133 25 11 rfl]; exact (by rw [hF26 25 11 rfl]; exact (by rw [hF13 25 11 rfl]; exact f1_25_11))) rfl), q9, q10, q21, q22, q123, q124, q125, q126, q127, q128, q129, xv133, trivial⟩)))))))))))))))⟩, dkW_eq ht hW⟩, hS.F ht⟩) hS.2.2 dX5_as_48
          rcases hc26 with ⟨dv26, a26_0, a26_1, x26_0, x26_1, x26_2, x26_3, x26_4, x26_5, xr26, -⟩ | hc26
          ·
            have q134 : p1.toInt ≠ (0 : Int) := x26_0
            have q135 : p1.toInt ≠ (1 : Int) := x26_1
            have q136 : p1.toInt ≠ (2 : Int) := x26_2
            have q137 : p1.toInt ≠ (3 : Int) := x26_3
            have q138 : p1.toInt ≠ (4 : Int) := x26_4
            have q139 : (I0 32 (Int32.toNatClampNeg p0)).toInt ≠ p1.toInt := by have h := x26_5; rw [xv25] at h; exact h
            have xv26 : v26 = 0 := by have h := xr26; exact h
            have d140 : dkN [(-2147483648, 4), (6, 2147483647)] v25 := dkN_eq1 (dkN_top v25) a26_0 rfl rfl
            have d141 : dkN [(5, 5)] p1 := dkN_eq1 d23 a26_1 rfl rfl
            refine lv_if_eq (tgt := 43) hx hb dX5_as_32 (by decide) (fun c142 => ?_) (fun c142 => ?_)
            ·
              refine lv_aload_n hx hb dX5_as_43 rfl (lv_at hl 0 rfl) ?_
              refine lv_iconst (v := 3) hx hb dX5_as_44 (by decide) ?_
              refine dk_Vi (As := [.int 3]) (rest := []) ⟨hx, hb, hml, hown, hts⟩ (fx_X5_found_5 l g z I0 3 (dkN_lit (x := 3) (3) rfl) hO) (cwV 1 hts gX5_as_X5_found rfl rfl rfl (by decide +kernel) ⟨Nat.le_of_ble_eq_true rfl, Nat.le_of_ble_eq_true rfl⟩) (dk_at0 hW) rfl hK hT hW hS rfl hl.1 rfl (Nat.le_of_ble_eq_true rfl) dX5_as_45 ⟨Nat.zero_le _, Nat.zero_le _⟩ (fun v143 I143 H143 L143 hp143 hW hS => ?_)
              obtain ⟨hF143, hO, hc143⟩ := hp143
              have hF := dkF_call hF hF143 rfl
              obtain ⟨dv143, f143_0_3, x143_0, xr143, -⟩ := hc143
              have q144 : ((-1000010 : Int32) - (3 : Int32)).toInt = (-1000010 : Int) - (3 : Int) := x143_0
              have xv143 : v143 = (-1000010 : Int32) - (3 : Int32) := by have h := xr143; exact h
              exact W.iret (v := v143) hx hb hr (fun t ht hW9 => ⟨⟨v143, I143, rfl, ⟨hF, hO, Or.inr (Or.inr (Or.inr (Or.inr (Or.inr (Or.inr (Or.inr (Or.inr (Or.inr (Or.inr (Or.inr (Or.inr (Or.inr (Or.inr (Or.inr (Or.inr (Or.inl ⟨dkN_sub dv143 rfl, dkN_sub d11 rfl, dkN_sub d141 rfl, (show dkN [(3, 3)] (I143 0 3) from dkN_sub f143_0_3 rfl), (show dkN [(1, 6)] (I143 25 11) from dkN_sub (by rw [hF143 25 11 rfl]; exact (by rw [hF26 25 11 rfl]; exact (by rw [hF13 25 11 rfl]; exact f1_25_11))) rfl), q9, q10, q21, q22, q134, q135, q136, q137, q138, q139, q144, xv143, trivial⟩))))))))))))))))⟩, dkW_eq ht hW⟩, hS.F ht⟩) hS.2.2 dX5_as_48
            ·
              exact absurd ((xv26).trans (rfl).symm) c142
          ·
            obtain ⟨dv26, a26_0, a26_1, x26_0, x26_1, x26_2, x26_3, x26_4, x26_5, xr26, -⟩ := hc26
            have q145 : p1.toInt ≠ (0 : Int) := x26_0
            have q146 : p1.toInt ≠ (1 : Int) := x26_1
            have q147 : p1.toInt ≠ (2 : Int) := x26_2
            have q148 : p1.toInt ≠ (3 : Int) := x26_3
            have q149 : p1.toInt ≠ (4 : Int) := x26_4
            have q150 : (I0 32 (Int32.toNatClampNeg p0)).toInt = p1.toInt := by have h := x26_5; rw [xv25] at h; exact h
            have xv26 : v26 = 1 := by have h := xr26; exact h
            have d151 : dkN [(5, 5)] v25 := dkN_eq1 (dkN_top v25) a26_0 rfl rfl
            have d152 : dkN [(5, 5)] p1 := dkN_eq1 d23 a26_1 rfl rfl
            refine lv_if_eq (tgt := 43) hx hb dX5_as_32 (by decide) (fun c153 => ?_) (fun c153 => ?_)
            ·
              exact (dkN_nil (show dkN [] v26 from dkN_eq1 dv26 (dkN_lit (x := 0) (0) rfl) (congrArg Int32.toInt c153) rfl)).elim
            ·
              refine lv_aload_n hx hb dX5_as_35 rfl (lv_at hl 0 rfl) ?_
              refine lv_iload_n hx hb dX5_as_36 rfl (lv_at hl 1 rfl) ?_
              refine dk_Vi (As := [.int p0]) (rest := []) ⟨hx, hb, hml, hown, hts⟩ (fx_X5_nothingFound_1 l g z I0 p0 hO) (cwV 1 hts gX5_as_X5_nothingFound rfl rfl rfl (by decide +kernel) ⟨Nat.le_of_ble_eq_true rfl, Nat.le_of_ble_eq_true rfl⟩) (dk_at0 hW) rfl hK hT hW hS rfl hl.1 rfl (Nat.le_of_ble_eq_true rfl) dX5_as_37 ⟨Nat.zero_le _, Nat.zero_le _⟩ (fun v154 I154 H154 L154 hp154 hW hS => ?_)
              obtain ⟨hF154, hO, hc154⟩ := hp154
              have hF := dkF_call hF hF154 rfl
              obtain ⟨_, f154_0_3, xr154, -⟩ := hc154
              have xv154 : v154 = p0 := by have h := xr154; exact h
              refine lv_goto (tgt := 48) hx hb dX5_as_40 (by decide) ?_
              exact W.iret (v := v154) hx hb hr (fun t ht hW9 => ⟨⟨v154, I154, rfl, ⟨hF, hO, Or.inr (Or.inr (Or.inr (Or.inr (Or.inr (Or.inr (Or.inr (Or.inr (Or.inr (Or.inr (Or.inr (Or.inr (Or.inr (Or.inr (Or.inr (Or.inr (Or.inr (⟨trivial, dkN_sub d11 rfl, dkN_sub d152 rfl, (show dkN [(0, 0)] (I154 0 3) from dkN_sub f154_0_3 rfl), (show dkN [(1, 6)] (I154 25 11) from dkN_sub (by rw [hF154 25 11 rfl]; exact (by rw [hF26 25 11 rfl]; exact (by rw [hF13 25 11 rfl]; exact f1_25_11))) rfl), q9, q10, q21, q22, q145, q146, q147, q148, q149, q150, xv154, trivial⟩)))))))))))))))))⟩, dkW_eq ht hW⟩, hS.F ht⟩) hS.2.2 dX5_as_48
        ·
          exact (dkN_nil (show dkN [] v13 from dkN_eq1 dv13 (dkN_lit (x := 0) (0) rfl) (congrArg Int32.toInt c24) rfl)).elim
set_option maxHeartbeats 4000000 in
set_option maxRecDepth 100000 in
theorem fx_X6_in_37 (l : Launch) (g : dkG) (z : Nat) (I0 : dkI) (p0 : Int32) (p1 : Int32) (p2 : Int32) (dp1 : dkN [(0, 0)] p1) (dp2 : dkN [(-1, 5)] p2)  (hO : dkOk I0) : Met l yX6_in wsX6_in (dkR 0) (dkPc g z [.int p0, .int p1, .int p2] I0) (dkQi g z (fun r I1 => dkF [] I0 I1 ∧ dkOk I1 ∧ ((dkN [(0, 0)] r ∧ dkN [(-2147483648, -1)] p0 ∧ p0.toInt + 1 ≤ p1.toInt ∧ r = 0 ∧ True) ∨ (dkN [(0, 0)] r ∧ dkN [(0, 2147483647)] p0 ∧ p1.toInt + 0 ≤ p0.toInt ∧ p2.toInt + 1 ≤ p0.toInt ∧ r = 0 ∧ True) ∨ (dkN [(1, 1)] r ∧ dkN [(0, 5)] p0 ∧ dkN [(0, 5)] p2 ∧ p1.toInt + 0 ≤ p0.toInt ∧ p0.toInt + 0 ≤ p2.toInt ∧ r = 1 ∧ True)))) 0 0 (dkA z) := by
  refine Met.ofW (cc := cX6_in) (maxL := 3) (ret := (some .boolean)) (by decide) rfl ?_
  intro p e s m args below meth c s₁ B hml hv
  obtain ⟨ha, hW, hK, hT⟩ := hv
  have hx := B.exec
  have hb := B.bytes
  have hr := B.returns
  have hts := atoms_spec (ws := wsX6_in) B.pre
  have hown : s.vm.findClass RX6 = some m.cls := findClass_of_methodNamed B.named
  have hlocks := B.notSynchronized
  have hS : va_S (dkA z) s.heap s.heap [] := va_S.rf
  have hF : dkF [] I0 I0 := dkF_rf _ _
  have hl := lv_entry ([.int p0, .int p1, .int p2]) (n := 3) (Nat.le_of_ble_eq_true rfl)
  have hgo : entryFrame m args 3 = entryFrame m ([.int p0, .int p1, .int p2] : List Value).toArray 3 := by rw [ha]
  rw [hgo, lg_entry_eq]
  generalize (lg_sl ([.int p0, .int p1, .int p2]) ++ List.replicate (3 - (lg_sl ([.int p0, .int p1, .int p2])).length) Slot.unset).toArray = ls at hl ⊢
  have hl : lv_has ls 3 [(0, .int p0), (1, .int p1), (2, .int p2)] := hl
  refine lv_iload_n hx hb dX6_in_0 rfl (lv_at hl 0 rfl) ?_
  refine lv_iload_n hx hb dX6_in_1 rfl (lv_at hl 1 rfl) ?_
  refine lv_icmp_lt (tgt := 14) hx hb dX6_in_2 (by decide) (fun c1 => ?_) (fun c1 => ?_)
  ·
    have q2 : p0.toInt + 1 ≤ p1.toInt := (dkc_lt c1)
    have d3 : dkN [(-2147483648, -1)] p0 := dkN_le1 1 (dkN_top p0) dp1 (dkc_lt c1) rfl
    refine lv_iconst (v := 0) hx hb dX6_in_14 (by decide) ?_
    exact W.zret (v := 0) (ty := .boolean) hx hb hr rfl (fun t ht hW9 => ⟨⟨0, I0, rfl, ⟨hF, hO, Or.inl ⟨dkN_sub (dkN_lit (x := 0) (0) rfl) rfl, dkN_sub d3 rfl, q2, rfl, trivial⟩⟩, dkW_eq ht hW⟩, hS.F ht⟩) hS.2.2 dX6_in_15
  ·
    have q4 : p1.toInt + 0 ≤ p0.toInt := (dkc_nlt c1)
    have d5 : dkN [(0, 2147483647)] p0 := dkN_le2 0 dp1 (dkN_top p0) (dkc_nlt c1) rfl
    refine lv_iload_n hx hb dX6_in_5 rfl (lv_at hl 0 rfl) ?_
    refine lv_iload_n hx hb dX6_in_6 rfl (lv_at hl 2 rfl) ?_
    refine lv_icmp_gt (tgt := 14) hx hb dX6_in_7 (by decide) (fun c6 => ?_) (fun c6 => ?_)
    ·
      have q7 : p2.toInt + 1 ≤ p0.toInt := (dkc_lt c6)
      refine lv_iconst (v := 0) hx hb dX6_in_14 (by decide) ?_
      exact W.zret (v := 0) (ty := .boolean) hx hb hr rfl (fun t ht hW9 => ⟨⟨0, I0, rfl, ⟨hF, hO, Or.inr (Or.inl ⟨dkN_sub (dkN_lit (x := 0) (0) rfl) rfl, dkN_sub d5 rfl, q4, q7, rfl, trivial⟩)⟩, dkW_eq ht hW⟩, hS.F ht⟩) hS.2.2 dX6_in_15
    ·
      have q8 : p0.toInt + 0 ≤ p2.toInt := (dkc_nlt c6)
      have d9 : dkN [(0, 5)] p2 := dkN_le2 0 d5 dp2 (dkc_nlt c6) rfl
      have d10 : dkN [(0, 5)] p0 := dkN_le1 0 d5 dp2 (dkc_nlt c6) rfl
      refine lv_iconst (v := 1) hx hb dX6_in_10 (by decide) ?_
      refine lv_goto (tgt := 15) hx hb dX6_in_11 (by decide) ?_
      exact W.zret (v := 1) (ty := .boolean) hx hb hr rfl (fun t ht hW9 => ⟨⟨1, I0, rfl, ⟨hF, hO, Or.inr (Or.inr (⟨dkN_sub (dkN_lit (x := 1) (1) rfl) rfl, dkN_sub d10 rfl, dkN_sub d9 rfl, q4, q8, rfl, trivial⟩))⟩, dkW_eq ht hW⟩, hS.F ht⟩) hS.2.2 dX6_in_15
set_option maxHeartbeats 4000000 in
set_option maxRecDepth 100000 in
theorem fx_X6_isDog_1 (l : Launch) (g : dkG) (z : Nat) (I0 : dkI) (p0 : Int32)  (hO : dkOk I0) : Met l yX6_isDog wsX6_isDog (dkR 1) (dkPc g z [.ref (z + 340), .int p0] I0) (dkQi g z (fun r I1 => dkF [] I0 I1 ∧ dkOk I1 ∧ ((dkN [(0, 0)] r ∧ dkN [(-2147483648, -1)] p0 ∧ ((I0 346 5) - (1 : Int32)).toInt = (I0 346 5).toInt - (1 : Int) ∧ p0.toInt + 1 ≤ (0 : Int) ∧ r = 0 ∧ True) ∨ (dkN [(0, 0)] r ∧ dkN [(0, 2147483647)] p0 ∧ ((I0 346 5) - (1 : Int32)).toInt = (I0 346 5).toInt - (1 : Int) ∧ (0 : Int) + 0 ≤ p0.toInt ∧ ((I0 346 5) - (1 : Int32)).toInt + 1 ≤ p0.toInt ∧ r = 0 ∧ True) ∨ (dkN [(1, 1)] r ∧ dkN [(0, 5)] p0 ∧ ((I0 346 5) - (1 : Int32)).toInt = (I0 346 5).toInt - (1 : Int) ∧ (0 : Int) + 0 ≤ p0.toInt ∧ p0.toInt + 0 ≤ ((I0 346 5) - (1 : Int32)).toInt ∧ r = 1 ∧ True)))) 0 0 (dkA z) := by
  refine Met.ofW (cc := cX6_isDog) (maxL := 2) (ret := (some .boolean)) (by decide) rfl ?_
  intro p e s m args below meth c s₁ B hml hv
  obtain ⟨ha, hW, hK, hT⟩ := hv
  have hx := B.exec
  have hb := B.bytes
  have hr := B.returns
  have hts := atoms_spec (ws := wsX6_isDog) B.pre
  have hown : s.vm.findClass RX6 = some m.cls := findClass_of_methodNamed B.named
  have hlocks := B.notSynchronized
  have hS : va_S (dkA z) s.heap s.heap [] := va_S.rf
  have hF : dkF [] I0 I0 := dkF_rf _ _
  have hl := lv_entry ([.ref (z + 340), .int p0]) (n := 2) (Nat.le_of_ble_eq_true rfl)
  have hgo : entryFrame m args 2 = entryFrame m ([.ref (z + 340), .int p0] : List Value).toArray 2 := by rw [ha]
  rw [hgo, lg_entry_eq]
  generalize (lg_sl ([.ref (z + 340), .int p0]) ++ List.replicate (2 - (lg_sl ([.ref (z + 340), .int p0])).length) Slot.unset).toArray = ls at hl ⊢
  have hl : lv_has ls 2 [(0, .ref (z + 340)), (1, .int p0)] := hl
  refine lv_iload_n hx hb dX6_isDog_0 rfl (lv_at hl 1 rfl) ?_
  refine lv_iconst (v := 0) hx hb dX6_isDog_1 (by decide) ?_
  refine lv_aload_n hx hb dX6_isDog_2 rfl (lv_at hl 0 rfl) ?_
  refine dk_get (k := 340) hx hb hts iX6_isDog_6 hown hK (dk_at340 hW) rfl 13 (by decide) (hts (.fieldLink RX6 25 "DogKingsModel" "now" "[I") (List.mem_of_getElem? (i := 1) rfl)) rfl dX6_isDog_3 ?_
  refine lv_iconst (v := 5) hx hb dX6_isDog_6 (by decide) ?_
  refine dk_ild (k := 346) hx hb hK (dk_at346 hW) (dkN_in (n := 54) (dkN_lit (x := 5) (5) rfl) rfl) dX6_isDog_7 ?_
  refine lv_topi (fun v1 ev1 => ?_)
  have ev1 : v1 = I0 346 5 := ev1
  have dv1 : dkN [(0, 6)] v1 := by rw [ev1]; exact (show dkN [(0, 6)] (I0 346 5) from (hO 346 5))
  have xv1 : v1 = I0 346 5 := ev1.trans rfl
  refine lv_iconst (v := 1) hx hb dX6_isDog_8 (by decide) ?_
  refine lv_isub hx hb dX6_isDog_9 ?_
  refine lv_topi (fun v2 ev2 => ?_)
  have dv2 : dkN [(-1, 5)] v2 := by rw [ev2]; exact dkN_subt dv1 (dkN_lit (x := 1) (1) rfl) rfl
  have xv2 : v2 = (I0 346 5) - (1 : Int32) := by rw [ev2, xv1]
  have q3 : ((I0 346 5) - (1 : Int32)).toInt = (I0 346 5).toInt - (1 : Int) := by first | (rw [← xv2, ← xv1]; exact (by rw [ev2]; exact dk_subE dv1 (dkN_lit (x := 1) (1) rfl) rfl)) | (subst xv2 xv1; exact (by rw [ev2]; exact dk_subE dv1 (dkN_lit (x := 1) (1) rfl) rfl))
  refine dk_Si (As := [.int p0, .int 0, .int v2]) (rest := []) ⟨hx, hb, hml, hown, hts⟩ (fx_X6_in_37 l g z I0 p0 0 v2 (dkN_lit (x := 0) (0) rfl) dv2 hO) (va_cwS 3 hts gX6_isDog_X6_in rfl rfl rfl (by decide +kernel) ⟨Nat.le_of_ble_eq_true rfl, Nat.le_of_ble_eq_true rfl⟩) hK hT hW hS rfl hl.1 rfl (Nat.le_of_ble_eq_true rfl) dX6_isDog_10 ⟨Nat.zero_le _, Nat.zero_le _⟩ (fun v4 I4 H4 L4 hp4 hW hS => ?_)
  obtain ⟨hF4, hO, hc4⟩ := hp4
  have hF := dkF_call hF hF4 rfl
  have eI4 : I0 = I4 := (dkF_nil hF4).symm
  subst eI4
  rcases hc4 with ⟨dv4, a4_0, x4_0, xr4, -⟩ | hc4
  ·
    have q5 : p0.toInt + 1 ≤ (0 : Int) := x4_0
    have xv4 : v4 = 0 := by have h := xr4; exact h
    have d6 : dkN [(-2147483648, -1)] p0 := dkN_eq1 (dkN_top p0) a4_0 rfl rfl
    exact W.zret (v := v4) (ty := .boolean) hx hb hr (dkN_zr dv4 rfl) (fun t ht hW9 => ⟨⟨v4, I0, rfl, ⟨hF, hO, Or.inl ⟨dkN_sub dv4 rfl, dkN_sub d6 rfl, q3, q5, xv4, trivial⟩⟩, dkW_eq ht hW⟩, hS.F ht⟩) hS.2.2 dX6_isDog_13
  rcases hc4 with ⟨dv4, a4_0, x4_0, x4_1, xr4, -⟩ | hc4
  ·
    have q7 : (0 : Int) + 0 ≤ p0.toInt := x4_0
    have q8 : ((I0 346 5) - (1 : Int32)).toInt + 1 ≤ p0.toInt := by have h := x4_1; rw [xv2] at h; exact h
    have xv4 : v4 = 0 := by have h := xr4; exact h
    have d9 : dkN [(0, 2147483647)] p0 := dkN_eq1 (dkN_top p0) a4_0 rfl rfl
    exact W.zret (v := v4) (ty := .boolean) hx hb hr (dkN_zr dv4 rfl) (fun t ht hW9 => ⟨⟨v4, I0, rfl, ⟨hF, hO, Or.inr (Or.inl ⟨dkN_sub dv4 rfl, dkN_sub d9 rfl, q3, q7, q8, xv4, trivial⟩)⟩, dkW_eq ht hW⟩, hS.F ht⟩) hS.2.2 dX6_isDog_13
  ·
    obtain ⟨dv4, a4_0, a4_2, x4_0, x4_1, xr4, -⟩ := hc4
    have q10 : (0 : Int) + 0 ≤ p0.toInt := x4_0
    have q11 : p0.toInt + 0 ≤ ((I0 346 5) - (1 : Int32)).toInt := by have h := x4_1; rw [xv2] at h; exact h
    have xv4 : v4 = 1 := by have h := xr4; exact h
    have d12 : dkN [(0, 5)] p0 := dkN_eq1 (dkN_top p0) a4_0 rfl rfl
    have d13 : dkN [(0, 5)] v2 := dkN_eq1 dv2 a4_2 rfl rfl
    exact W.zret (v := v4) (ty := .boolean) hx hb hr (dkN_zr dv4 rfl) (fun t ht hW9 => ⟨⟨v4, I0, rfl, ⟨hF, hO, Or.inr (Or.inr (⟨dkN_sub dv4 rfl, dkN_sub d12 rfl, q3, q10, q11, xv4, trivial⟩))⟩, dkW_eq ht hW⟩, hS.F ht⟩) hS.2.2 dX6_isDog_13
set_option maxHeartbeats 4000000 in
set_option maxRecDepth 100000 in
theorem fx_X6_in_38 (l : Launch) (g : dkG) (z : Nat) (I0 : dkI) (p0 : Int32) (p1 : Int32) (p2 : Int32) (dp1 : dkN [(0, 0)] p1) (dp2 : dkN [(5, 5)] p2)  (hO : dkOk I0) : Met l yX6_in wsX6_in (dkR 0) (dkPc g z [.int p0, .int p1, .int p2] I0) (dkQi g z (fun r I1 => dkF [] I0 I1 ∧ dkOk I1 ∧ ((dkN [(0, 0)] r ∧ dkN [(-2147483648, -1)] p0 ∧ p0.toInt + 1 ≤ p1.toInt ∧ r = 0 ∧ True) ∨ (dkN [(0, 0)] r ∧ dkN [(6, 2147483647)] p0 ∧ p1.toInt + 0 ≤ p0.toInt ∧ p2.toInt + 1 ≤ p0.toInt ∧ r = 0 ∧ True) ∨ (dkN [(1, 1)] r ∧ dkN [(0, 5)] p0 ∧ p1.toInt + 0 ≤ p0.toInt ∧ p0.toInt + 0 ≤ p2.toInt ∧ r = 1 ∧ True)))) 0 0 (dkA z) := by
  refine Met.ofW (cc := cX6_in) (maxL := 3) (ret := (some .boolean)) (by decide) rfl ?_
  intro p e s m args below meth c s₁ B hml hv
  obtain ⟨ha, hW, hK, hT⟩ := hv
  have hx := B.exec
  have hb := B.bytes
  have hr := B.returns
  have hts := atoms_spec (ws := wsX6_in) B.pre
  have hown : s.vm.findClass RX6 = some m.cls := findClass_of_methodNamed B.named
  have hlocks := B.notSynchronized
  have hS : va_S (dkA z) s.heap s.heap [] := va_S.rf
  have hF : dkF [] I0 I0 := dkF_rf _ _
  have hl := lv_entry ([.int p0, .int p1, .int p2]) (n := 3) (Nat.le_of_ble_eq_true rfl)
  have hgo : entryFrame m args 3 = entryFrame m ([.int p0, .int p1, .int p2] : List Value).toArray 3 := by rw [ha]
  rw [hgo, lg_entry_eq]
  generalize (lg_sl ([.int p0, .int p1, .int p2]) ++ List.replicate (3 - (lg_sl ([.int p0, .int p1, .int p2])).length) Slot.unset).toArray = ls at hl ⊢
  have hl : lv_has ls 3 [(0, .int p0), (1, .int p1), (2, .int p2)] := hl
  refine lv_iload_n hx hb dX6_in_0 rfl (lv_at hl 0 rfl) ?_
  refine lv_iload_n hx hb dX6_in_1 rfl (lv_at hl 1 rfl) ?_
  refine lv_icmp_lt (tgt := 14) hx hb dX6_in_2 (by decide) (fun c1 => ?_) (fun c1 => ?_)
  ·
    have q2 : p0.toInt + 1 ≤ p1.toInt := (dkc_lt c1)
    have d3 : dkN [(-2147483648, -1)] p0 := dkN_le1 1 (dkN_top p0) dp1 (dkc_lt c1) rfl
    refine lv_iconst (v := 0) hx hb dX6_in_14 (by decide) ?_
    exact W.zret (v := 0) (ty := .boolean) hx hb hr rfl (fun t ht hW9 => ⟨⟨0, I0, rfl, ⟨hF, hO, Or.inl ⟨dkN_sub (dkN_lit (x := 0) (0) rfl) rfl, dkN_sub d3 rfl, q2, rfl, trivial⟩⟩, dkW_eq ht hW⟩, hS.F ht⟩) hS.2.2 dX6_in_15
  ·
    have q4 : p1.toInt + 0 ≤ p0.toInt := (dkc_nlt c1)
    have d5 : dkN [(0, 2147483647)] p0 := dkN_le2 0 dp1 (dkN_top p0) (dkc_nlt c1) rfl
    refine lv_iload_n hx hb dX6_in_5 rfl (lv_at hl 0 rfl) ?_
    refine lv_iload_n hx hb dX6_in_6 rfl (lv_at hl 2 rfl) ?_
    refine lv_icmp_gt (tgt := 14) hx hb dX6_in_7 (by decide) (fun c6 => ?_) (fun c6 => ?_)
    ·
      have q7 : p2.toInt + 1 ≤ p0.toInt := (dkc_lt c6)
      have d8 : dkN [(6, 2147483647)] p0 := dkN_le2 1 dp2 d5 (dkc_lt c6) rfl
      refine lv_iconst (v := 0) hx hb dX6_in_14 (by decide) ?_
      exact W.zret (v := 0) (ty := .boolean) hx hb hr rfl (fun t ht hW9 => ⟨⟨0, I0, rfl, ⟨hF, hO, Or.inr (Or.inl ⟨dkN_sub (dkN_lit (x := 0) (0) rfl) rfl, dkN_sub d8 rfl, q4, q7, rfl, trivial⟩)⟩, dkW_eq ht hW⟩, hS.F ht⟩) hS.2.2 dX6_in_15
    ·
      have q9 : p0.toInt + 0 ≤ p2.toInt := (dkc_nlt c6)
      have d10 : dkN [(0, 5)] p0 := dkN_le1 0 d5 dp2 (dkc_nlt c6) rfl
      refine lv_iconst (v := 1) hx hb dX6_in_10 (by decide) ?_
      refine lv_goto (tgt := 15) hx hb dX6_in_11 (by decide) ?_
      exact W.zret (v := 1) (ty := .boolean) hx hb hr rfl (fun t ht hW9 => ⟨⟨1, I0, rfl, ⟨hF, hO, Or.inr (Or.inr (⟨dkN_sub (dkN_lit (x := 1) (1) rfl) rfl, dkN_sub d10 rfl, q4, q9, rfl, trivial⟩))⟩, dkW_eq ht hW⟩, hS.F ht⟩) hS.2.2 dX6_in_15
set_option maxHeartbeats 4000000 in
set_option maxRecDepth 100000 in
theorem fx_X6_kindIn_1 (l : Launch) (g : dkG) (z : Nat) (I0 : dkI) (p0 : Int32) (dp0 : dkN [(0, 5)] p0)  (hO : dkOk I0) : Met l yX6_kindIn wsX6_kindIn (dkR 0) (dkPc g z [.ref (z + 340), .int p0] I0) (dkQi g z (fun r I1 => dkF [] I0 I1 ∧ dkOk I1 ∧ ((True ∧ ((3 : Int32) * p0).toInt = (3 : Int) * p0.toInt ∧ ((36 : Int32) + ((3 : Int32) * p0)).toInt = (36 : Int) + ((3 : Int32) * p0).toInt ∧ r = I0 346 (Int32.toNatClampNeg ((36 : Int32) + ((3 : Int32) * p0))) ∧ True)))) 0 0 (dkA z) := by
  refine Met.ofW (cc := cX6_kindIn) (maxL := 2) (ret := (some .int)) (by decide) rfl ?_
  intro p e s m args below meth c s₁ B hml hv
  obtain ⟨ha, hW, hK, hT⟩ := hv
  have hx := B.exec
  have hb := B.bytes
  have hr := B.returns
  have hts := atoms_spec (ws := wsX6_kindIn) B.pre
  have hown : s.vm.findClass RX6 = some m.cls := findClass_of_methodNamed B.named
  have hlocks := B.notSynchronized
  have hS : va_S (dkA z) s.heap s.heap [] := va_S.rf
  have hF : dkF [] I0 I0 := dkF_rf _ _
  have hl := lv_entry ([.ref (z + 340), .int p0]) (n := 2) (Nat.le_of_ble_eq_true rfl)
  have hgo : entryFrame m args 2 = entryFrame m ([.ref (z + 340), .int p0] : List Value).toArray 2 := by rw [ha]
  rw [hgo, lg_entry_eq]
  generalize (lg_sl ([.ref (z + 340), .int p0]) ++ List.replicate (2 - (lg_sl ([.ref (z + 340), .int p0])).length) Slot.unset).toArray = ls at hl ⊢
  have hl : lv_has ls 2 [(0, .ref (z + 340)), (1, .int p0)] := hl
  refine lv_aload_n hx hb dX6_kindIn_0 rfl (lv_at hl 0 rfl) ?_
  refine dk_get (k := 340) hx hb hts iX6_kindIn_6 hown hK (dk_at340 hW) rfl 13 (by decide) (hts (.fieldLink RX6 25 "DogKingsModel" "now" "[I") (List.mem_of_getElem? (i := 1) rfl)) rfl dX6_kindIn_1 ?_
  refine lv_bipush (v := 36) hx hb dX6_kindIn_4 (by decide) ?_
  refine lv_iconst (v := 3) hx hb dX6_kindIn_6 (by decide) ?_
  refine lv_iload_n hx hb dX6_kindIn_7 rfl (lv_at hl 1 rfl) ?_
  refine lv_imul hx hb dX6_kindIn_8 ?_
  refine lv_topi (fun v1 ev1 => ?_)
  have dv1 : dkN [(0, 0), (3, 3), (6, 6), (9, 9), (12, 12), (15, 15)] v1 := by rw [ev1]; exact dkN_mulPt 3 (dkN_lit (x := 3) (3) rfl) dp0 rfl
  have xv1 : v1 = (3 : Int32) * p0 := by rw [ev1]
  have q2 : ((3 : Int32) * p0).toInt = (3 : Int) * p0.toInt := by first | (rw [← xv1]; exact (by rw [ev1]; exact dk_mulE 3 (x := 3) rfl dp0 (by decide) rfl)) | (subst xv1; exact (by rw [ev1]; exact dk_mulE 3 (x := 3) rfl dp0 (by decide) rfl))
  refine lv_iadd hx hb dX6_kindIn_9 ?_
  refine lv_topi (fun v3 ev3 => ?_)
  have dv3 : dkN [(36, 36), (39, 39), (42, 42), (45, 45), (48, 48), (51, 51)] v3 := by rw [ev3]; exact dkN_add (dkN_lit (x := 36) (36) rfl) dv1 rfl
  have xv3 : v3 = (36 : Int32) + ((3 : Int32) * p0) := by rw [ev3, xv1]
  have q4 : ((36 : Int32) + ((3 : Int32) * p0)).toInt = (36 : Int) + ((3 : Int32) * p0).toInt := by first | (rw [← xv3, ← xv1]; exact (by rw [ev3]; exact dk_addE (dkN_lit (x := 36) (36) rfl) dv1 rfl)) | (subst xv3 xv1; exact (by rw [ev3]; exact dk_addE (dkN_lit (x := 36) (36) rfl) dv1 rfl))
  refine dk_ild (k := 346) hx hb hK (dk_at346 hW) (dkN_in (n := 54) dv3 rfl) dX6_kindIn_10 ?_
  refine lv_topi (fun v5 ev5 => ?_)
  have xv5 : v5 = I0 346 (Int32.toNatClampNeg ((36 : Int32) + ((3 : Int32) * p0))) := ev5.trans (by rw [xv3])
  exact W.iret (v := v5) hx hb hr (fun t ht hW9 => ⟨⟨v5, I0, rfl, ⟨hF, hO, ⟨trivial, q2, q4, xv5, trivial⟩⟩, dkW_eq ht hW⟩, hS.F ht⟩) hS.2.2 dX6_kindIn_11
set_option maxHeartbeats 4000000 in
set_option maxRecDepth 100000 in
theorem fx_X6_well_1 (l : Launch) (g : dkG) (z : Nat) (I0 : dkI) (p0 : Int32)  (hO : dkOk I0) : Met l yX6_well wsX6_well (dkR 0) (dkPc g z [.ref (z + 340), .int p0] I0) (dkQi g z (fun r I1 => dkF [(340, 340, 4, 4)] I0 I1 ∧ dkOk I1 ∧ ((True ∧ dkN [(0, 0)] (I1 340 4) ∧ r = p0 ∧ True)))) 0 0 (dkA z) := by
  refine Met.ofW (cc := cX6_well) (maxL := 2) (ret := (some .int)) (by decide) rfl ?_
  intro p e s m args below meth c s₁ B hml hv
  obtain ⟨ha, hW, hK, hT⟩ := hv
  have hx := B.exec
  have hb := B.bytes
  have hr := B.returns
  have hts := atoms_spec (ws := wsX6_well) B.pre
  have hown : s.vm.findClass RX6 = some m.cls := findClass_of_methodNamed B.named
  have hlocks := B.notSynchronized
  have hS : va_S (dkA z) s.heap s.heap [] := va_S.rf
  have hF : dkF [(340, 340, 4, 4)] I0 I0 := dkF_rf _ _
  have hl := lv_entry ([.ref (z + 340), .int p0]) (n := 2) (Nat.le_of_ble_eq_true rfl)
  have hgo : entryFrame m args 2 = entryFrame m ([.ref (z + 340), .int p0] : List Value).toArray 2 := by rw [ha]
  rw [hgo, lg_entry_eq]
  generalize (lg_sl ([.ref (z + 340), .int p0]) ++ List.replicate (2 - (lg_sl ([.ref (z + 340), .int p0])).length) Slot.unset).toArray = ls at hl ⊢
  have hl : lv_has ls 2 [(0, .ref (z + 340)), (1, .int p0)] := hl
  refine lv_aload_n hx hb dX6_well_0 rfl (lv_at hl 0 rfl) ?_
  refine lv_iconst (v := 0) hx hb dX6_well_1 (by decide) ?_
  refine dk_put (k := 340) hx hb hts iX6_well_6 tyX6 tyX6_ok nmX6 hown hK hW (dk_at340 hW) hS rfl 4 (by decide) (hts (.fieldLink RX6 51 "DogKingsModel" "status" "I") (List.mem_of_getElem? (i := 1) rfl)) rfl rfl (Nat.le_of_ble_eq_true rfl) rfl dX6_well_2 (fun I1 H1 L1 eI1 hW hS => ?_)
  have eI1 : I1 = dkU I0 340 4 0 := eI1
  have hO := dkO_set hO eI1 (dkN_sub (dkN_lit (x := 0) (0) rfl) rfl)
  have hF := dkF_set hF eI1 rfl
  refine lv_iload_n hx hb dX6_well_5 rfl (lv_at hl 1 rfl) ?_
  exact W.iret (v := p0) hx hb hr (fun t ht hW9 => ⟨⟨p0, I1, rfl, ⟨hF, hO, ⟨trivial, (show dkN [(0, 0)] (I1 340 4) from dkN_sub (by rw [eI1, dkU_ss]; exact (dkN_lit (x := 0) (0) rfl)) rfl), rfl, trivial⟩⟩, dkW_eq ht hW⟩, hS.F ht⟩) hS.2.2 dX6_well_6
set_option maxHeartbeats 4000000 in
set_option maxRecDepth 100000 in
theorem fx_X6_found_5 (l : Launch) (g : dkG) (z : Nat) (I0 : dkI) (p0 : Int32) (dp0 : dkN [(3, 3)] p0)  (hO : dkOk I0) : Met l yX6_found wsX6_found (dkR 0) (dkPc g z [.ref (z + 340), .int p0] I0) (dkQi g z (fun r I1 => dkF [(340, 340, 4, 4)] I0 I1 ∧ dkOk I1 ∧ ((dkN [(-1000013, -1000013)] r ∧ dkN [(3, 3)] (I1 340 4) ∧ ((-1000010 : Int32) - p0).toInt = (-1000010 : Int) - p0.toInt ∧ r = (-1000010 : Int32) - p0 ∧ True)))) 0 0 (dkA z) := by
  refine Met.ofW (cc := cX6_found) (maxL := 2) (ret := (some .int)) (by decide) rfl ?_
  intro p e s m args below meth c s₁ B hml hv
  obtain ⟨ha, hW, hK, hT⟩ := hv
  have hx := B.exec
  have hb := B.bytes
  have hr := B.returns
  have hts := atoms_spec (ws := wsX6_found) B.pre
  have hown : s.vm.findClass RX6 = some m.cls := findClass_of_methodNamed B.named
  have hlocks := B.notSynchronized
  have hS : va_S (dkA z) s.heap s.heap [] := va_S.rf
  have hF : dkF [(340, 340, 4, 4)] I0 I0 := dkF_rf _ _
  have hl := lv_entry ([.ref (z + 340), .int p0]) (n := 2) (Nat.le_of_ble_eq_true rfl)
  have hgo : entryFrame m args 2 = entryFrame m ([.ref (z + 340), .int p0] : List Value).toArray 2 := by rw [ha]
  rw [hgo, lg_entry_eq]
  generalize (lg_sl ([.ref (z + 340), .int p0]) ++ List.replicate (2 - (lg_sl ([.ref (z + 340), .int p0])).length) Slot.unset).toArray = ls at hl ⊢
  have hl : lv_has ls 2 [(0, .ref (z + 340)), (1, .int p0)] := hl
  refine lv_aload_n hx hb dX6_found_0 rfl (lv_at hl 0 rfl) ?_
  refine lv_iload_n hx hb dX6_found_1 rfl (lv_at hl 1 rfl) ?_
  refine dk_put (k := 340) hx hb hts iX6_found_6 tyX6 tyX6_ok nmX6 hown hK hW (dk_at340 hW) hS rfl 4 (by decide) (hts (.fieldLink RX6 51 "DogKingsModel" "status" "I") (List.mem_of_getElem? (i := 1) rfl)) rfl rfl (Nat.le_of_ble_eq_true rfl) rfl dX6_found_2 (fun I1 H1 L1 eI1 hW hS => ?_)
  have eI1 : I1 = dkU I0 340 4 p0 := eI1
  have hO := dkO_set hO eI1 (dkN_sub dp0 rfl)
  have hF := dkF_set hF eI1 rfl
  refine lv_ldc (v := (-1000010)) hx hb hown (hts (.constant RX6 55 (-1000010)) (List.mem_of_getElem? (i := 2) rfl)) dX6_found_5 ?_
  refine lv_iload_n hx hb dX6_found_7 rfl (lv_at hl 1 rfl) ?_
  refine lv_isub hx hb dX6_found_8 ?_
  refine lv_topi (fun v2 ev2 => ?_)
  have dv2 : dkN [(-1000013, -1000013)] v2 := by rw [ev2]; exact dkN_subt (dkN_lit (x := (-1000010)) (-1000010) rfl) dp0 rfl
  have xv2 : v2 = (-1000010 : Int32) - p0 := by rw [ev2]
  have q3 : ((-1000010 : Int32) - p0).toInt = (-1000010 : Int) - p0.toInt := by first | (rw [← xv2]; exact (by rw [ev2]; exact dk_subE (dkN_lit (x := (-1000010)) (-1000010) rfl) dp0 rfl)) | (subst xv2; exact (by rw [ev2]; exact dk_subE (dkN_lit (x := (-1000010)) (-1000010) rfl) dp0 rfl))
  exact W.iret (v := v2) hx hb hr (fun t ht hW9 => ⟨⟨v2, I1, rfl, ⟨hF, hO, ⟨dkN_sub dv2 rfl, (show dkN [(3, 3)] (I1 340 4) from dkN_sub (by rw [eI1, dkU_ss]; exact dp0) rfl), q3, xv2, trivial⟩⟩, dkW_eq ht hW⟩, hS.F ht⟩) hS.2.2 dX6_found_9
set_option maxHeartbeats 4000000 in
set_option maxRecDepth 100000 in
theorem fx_X6_as_1 (l : Launch) (g : dkG) (z : Nat) (I0 : dkI) (p0 : Int32) (p1 : Int32)  (hO : dkOk I0) : Met l yX6_as wsX6_as (dkR 2) (dkPc g z [.ref (z + 340), .int p0, .int p1] I0) (dkQi g z (fun r I1 => dkF [(340, 340, 4, 4)] I0 I1 ∧ dkOk I1 ∧ ((dkN [(-1000001, -1000001)] r ∧ dkN [(-2147483648, -1)] p0 ∧ ((I0 346 5) - (1 : Int32)).toInt = (I0 346 5).toInt - (1 : Int) ∧ p0.toInt + 1 ≤ (0 : Int) ∧ r = (-1000001) ∧ True) ∨ (dkN [(-1000001, -1000001)] r ∧ dkN [(0, 2147483647)] p0 ∧ ((I0 346 5) - (1 : Int32)).toInt = (I0 346 5).toInt - (1 : Int) ∧ (0 : Int) + 0 ≤ p0.toInt ∧ ((I0 346 5) - (1 : Int32)).toInt + 1 ≤ p0.toInt ∧ r = (-1000001) ∧ True) ∨ (dkN [(-1000001, -1000001)] r ∧ dkN [(0, 5)] p0 ∧ dkN [(-2147483648, -1)] p1 ∧ ((I0 346 5) - (1 : Int32)).toInt = (I0 346 5).toInt - (1 : Int) ∧ (0 : Int) + 0 ≤ p0.toInt ∧ p0.toInt + 0 ≤ ((I0 346 5) - (1 : Int32)).toInt ∧ p1.toInt + 1 ≤ (0 : Int) ∧ r = (-1000001) ∧ True) ∨ (dkN [(-1000001, -1000001)] r ∧ dkN [(0, 5)] p0 ∧ dkN [(6, 2147483647)] p1 ∧ ((I0 346 5) - (1 : Int32)).toInt = (I0 346 5).toInt - (1 : Int) ∧ (0 : Int) + 0 ≤ p0.toInt ∧ p0.toInt + 0 ≤ ((I0 346 5) - (1 : Int32)).toInt ∧ (0 : Int) + 0 ≤ p1.toInt ∧ (5 : Int) + 1 ≤ p1.toInt ∧ r = (-1000001) ∧ True) ∨ (True ∧ dkN [(0, 5)] p0 ∧ dkN [(0, 0)] p1 ∧ dkN [(0, 0)] (I1 340 4) ∧ ((I0 346 5) - (1 : Int32)).toInt = (I0 346 5).toInt - (1 : Int) ∧ (0 : Int) + 0 ≤ p0.toInt ∧ p0.toInt + 0 ≤ ((I0 346 5) - (1 : Int32)).toInt ∧ (0 : Int) + 0 ≤ p1.toInt ∧ p1.toInt + 0 ≤ (5 : Int) ∧ ((3 : Int32) * p0).toInt = (3 : Int) * p0.toInt ∧ ((36 : Int32) + ((3 : Int32) * p0)).toInt = (36 : Int) + ((3 : Int32) * p0).toInt ∧ p1.toInt = (0 : Int) ∧ r = p0 ∧ True) ∨ (True ∧ dkN [(0, 5)] p0 ∧ dkN [(1, 5)] p1 ∧ dkN [(0, 0)] (I1 340 4) ∧ ((I0 346 5) - (1 : Int32)).toInt = (I0 346 5).toInt - (1 : Int) ∧ (0 : Int) + 0 ≤ p0.toInt ∧ p0.toInt + 0 ≤ ((I0 346 5) - (1 : Int32)).toInt ∧ (0 : Int) + 0 ≤ p1.toInt ∧ p1.toInt + 0 ≤ (5 : Int) ∧ ((3 : Int32) * p0).toInt = (3 : Int) * p0.toInt ∧ ((36 : Int32) + ((3 : Int32) * p0)).toInt = (36 : Int) + ((3 : Int32) * p0).toInt ∧ p1.toInt ≠ (0 : Int) ∧ p1.toInt = (I0 346 (Int32.toNatClampNeg ((36 : Int32) + ((3 : Int32) * p0)))).toInt ∧ r = p0 ∧ True) ∨ (dkN [(-1000013, -1000013)] r ∧ dkN [(0, 5)] p0 ∧ dkN [(2, 3), (5, 5)] p1 ∧ dkN [(3, 3)] (I1 340 4) ∧ ((I0 346 5) - (1 : Int32)).toInt = (I0 346 5).toInt - (1 : Int) ∧ (0 : Int) + 0 ≤ p0.toInt ∧ p0.toInt + 0 ≤ ((I0 346 5) - (1 : Int32)).toInt ∧ (0 : Int) + 0 ≤ p1.toInt ∧ p1.toInt + 0 ≤ (5 : Int) ∧ ((3 : Int32) * p0).toInt = (3 : Int) * p0.toInt ∧ ((36 : Int32) + ((3 : Int32) * p0)).toInt = (36 : Int) + ((3 : Int32) * p0).toInt ∧ p1.toInt ≠ (0 : Int) ∧ p1.toInt ≠ (I0 346 (Int32.toNatClampNeg ((36 : Int32) + ((3 : Int32) * p0)))).toInt ∧ p1.toInt ≠ (1 : Int) ∧ p1.toInt ≠ (4 : Int) ∧ ((-1000010 : Int32) - (3 : Int32)).toInt = (-1000010 : Int) - (3 : Int) ∧ r = (-1000010 : Int32) - (3 : Int32) ∧ True) ∨ (dkN [(-1000013, -1000013)] r ∧ dkN [(0, 5)] p0 ∧ dkN [(4, 4)] p1 ∧ dkN [(3, 3)] (I1 340 4) ∧ ((I0 346 5) - (1 : Int32)).toInt = (I0 346 5).toInt - (1 : Int) ∧ (0 : Int) + 0 ≤ p0.toInt ∧ p0.toInt + 0 ≤ ((I0 346 5) - (1 : Int32)).toInt ∧ (0 : Int) + 0 ≤ p1.toInt ∧ p1.toInt + 0 ≤ (5 : Int) ∧ ((3 : Int32) * p0).toInt = (3 : Int) * p0.toInt ∧ ((36 : Int32) + ((3 : Int32) * p0)).toInt = (36 : Int) + ((3 : Int32) * p0).toInt ∧ p1.toInt ≠ (0 : Int) ∧ p1.toInt ≠ (I0 346 (Int32.toNatClampNeg ((36 : Int32) + ((3 : Int32) * p0)))).toInt ∧ p1.toInt ≠ (1 : Int) ∧ p1.toInt = (4 : Int) ∧ (I0 346 (Int32.toNatClampNeg ((36 : Int32) + ((3 : Int32) * p0)))).toInt ≠ (5 : Int) ∧ ((-1000010 : Int32) - (3 : Int32)).toInt = (-1000010 : Int) - (3 : Int) ∧ r = (-1000010 : Int32) - (3 : Int32) ∧ True) ∨ (True ∧ dkN [(0, 5)] p0 ∧ dkN [(4, 4)] p1 ∧ dkN [(0, 0)] (I1 340 4) ∧ ((I0 346 5) - (1 : Int32)).toInt = (I0 346 5).toInt - (1 : Int) ∧ (0 : Int) + 0 ≤ p0.toInt ∧ p0.toInt + 0 ≤ ((I0 346 5) - (1 : Int32)).toInt ∧ (0 : Int) + 0 ≤ p1.toInt ∧ p1.toInt + 0 ≤ (5 : Int) ∧ ((3 : Int32) * p0).toInt = (3 : Int) * p0.toInt ∧ ((36 : Int32) + ((3 : Int32) * p0)).toInt = (36 : Int) + ((3 : Int32) * p0).toInt ∧ p1.toInt ≠ (0 : Int) ∧ p1.toInt ≠ (I0 346 (Int32.toNatClampNeg ((36 : Int32) + ((3 : Int32) * p0)))).toInt ∧ p1.toInt ≠ (1 : Int) ∧ p1.toInt = (4 : Int) ∧ (I0 346 (Int32.toNatClampNeg ((36 : Int32) + ((3 : Int32) * p0)))).toInt = (5 : Int) ∧ r = p0 ∧ True) ∨ (True ∧ dkN [(0, 5)] p0 ∧ dkN [(1, 1)] p1 ∧ dkN [(0, 0)] (I1 340 4) ∧ ((I0 346 5) - (1 : Int32)).toInt = (I0 346 5).toInt - (1 : Int) ∧ (0 : Int) + 0 ≤ p0.toInt ∧ p0.toInt + 0 ≤ ((I0 346 5) - (1 : Int32)).toInt ∧ (0 : Int) + 0 ≤ p1.toInt ∧ p1.toInt + 0 ≤ (5 : Int) ∧ ((3 : Int32) * p0).toInt = (3 : Int) * p0.toInt ∧ ((36 : Int32) + ((3 : Int32) * p0)).toInt = (36 : Int) + ((3 : Int32) * p0).toInt ∧ p1.toInt ≠ (0 : Int) ∧ p1.toInt ≠ (I0 346 (Int32.toNatClampNeg ((36 : Int32) + ((3 : Int32) * p0)))).toInt ∧ p1.toInt = (1 : Int) ∧ (I0 346 (Int32.toNatClampNeg ((36 : Int32) + ((3 : Int32) * p0)))).toInt + 1 ≤ (4 : Int) ∧ r = p0 ∧ True) ∨ (dkN [(-1000013, -1000013)] r ∧ dkN [(0, 5)] p0 ∧ dkN [(1, 1)] p1 ∧ dkN [(3, 3)] (I1 340 4) ∧ ((I0 346 5) - (1 : Int32)).toInt = (I0 346 5).toInt - (1 : Int) ∧ (0 : Int) + 0 ≤ p0.toInt ∧ p0.toInt + 0 ≤ ((I0 346 5) - (1 : Int32)).toInt ∧ (0 : Int) + 0 ≤ p1.toInt ∧ p1.toInt + 0 ≤ (5 : Int) ∧ ((3 : Int32) * p0).toInt = (3 : Int) * p0.toInt ∧ ((36 : Int32) + ((3 : Int32) * p0)).toInt = (36 : Int) + ((3 : Int32) * p0).toInt ∧ p1.toInt ≠ (0 : Int) ∧ p1.toInt ≠ (I0 346 (Int32.toNatClampNeg ((36 : Int32) + ((3 : Int32) * p0)))).toInt ∧ p1.toInt = (1 : Int) ∧ (4 : Int) + 0 ≤ (I0 346 (Int32.toNatClampNeg ((36 : Int32) + ((3 : Int32) * p0)))).toInt ∧ p1.toInt ≠ (4 : Int) ∧ ((-1000010 : Int32) - (3 : Int32)).toInt = (-1000010 : Int) - (3 : Int) ∧ r = (-1000010 : Int32) - (3 : Int32) ∧ True)))) 0 0 (dkA z) := by
  refine Met.ofW (cc := cX6_as) (maxL := 5) (ret := (some .int)) (by decide) rfl ?_
  intro p e s m args below meth c s₁ B hml hv
  obtain ⟨ha, hW, hK, hT⟩ := hv
  have hx := B.exec
  have hb := B.bytes
  have hr := B.returns
  have hts := atoms_spec (ws := wsX6_as) B.pre
  have hown : s.vm.findClass RX6 = some m.cls := findClass_of_methodNamed B.named
  have hlocks := B.notSynchronized
  have hS : va_S (dkA z) s.heap s.heap [] := va_S.rf
  have hF : dkF [(340, 340, 4, 4)] I0 I0 := dkF_rf _ _
  have hl := lv_entry ([.ref (z + 340), .int p0, .int p1]) (n := 5) (Nat.le_of_ble_eq_true rfl)
  have hgo : entryFrame m args 5 = entryFrame m ([.ref (z + 340), .int p0, .int p1] : List Value).toArray 5 := by rw [ha]
  rw [hgo, lg_entry_eq]
  generalize (lg_sl ([.ref (z + 340), .int p0, .int p1]) ++ List.replicate (5 - (lg_sl ([.ref (z + 340), .int p0, .int p1])).length) Slot.unset).toArray = ls at hl ⊢
  have hl : lv_has ls 5 [(0, .ref (z + 340)), (1, .int p0), (2, .int p1)] := hl
  refine lv_aload_n hx hb dX6_as_0 rfl (lv_at hl 0 rfl) ?_
  refine lv_iload_n hx hb dX6_as_1 rfl (lv_at hl 1 rfl) ?_
  refine dk_Vi (As := [.int p0]) (rest := []) ⟨hx, hb, hml, hown, hts⟩ (fx_X6_isDog_1 l g z I0 p0 hO) (cwV 1 hts gX6_as_X6_isDog rfl rfl rfl (by decide +kernel) ⟨Nat.le_of_ble_eq_true rfl, Nat.le_of_ble_eq_true rfl⟩) (dk_at340 hW) rfl hK hT hW hS rfl hl.1 rfl (Nat.le_of_ble_eq_true rfl) dX6_as_2 ⟨Nat.zero_le _, Nat.zero_le _⟩ (fun v1 I1 H1 L1 hp1 hW hS => ?_)
  obtain ⟨hF1, hO, hc1⟩ := hp1
  have hF := dkF_call hF hF1 rfl
  have eI1 : I0 = I1 := (dkF_nil hF1).symm
  subst eI1
  rcases hc1 with ⟨dv1, a1_0, x1_0, x1_1, xr1, -⟩ | hc1
  ·
    have q2 : ((I0 346 5) - (1 : Int32)).toInt = (I0 346 5).toInt - (1 : Int) := x1_0
    have q3 : p0.toInt + 1 ≤ (0 : Int) := x1_1
    have xv1 : v1 = 0 := by have h := xr1; exact h
    have d4 : dkN [(-2147483648, -1)] p0 := dkN_eq1 (dkN_top p0) a1_0 rfl rfl
    refine lv_if_eq (tgt := 17) hx hb dX6_as_5 (by decide) (fun c5 => ?_) (fun c5 => ?_)
    ·
      refine lv_ldc (v := (-1000001)) hx hb hown (hts (.constant RX6 64 (-1000001)) (List.mem_of_getElem? (i := 1) rfl)) dX6_as_17 ?_
      exact W.iret (v := (-1000001)) hx hb hr (fun t ht hW9 => ⟨⟨(-1000001), I0, rfl, ⟨hF, hO, Or.inl ⟨dkN_sub (dkN_lit (x := (-1000001)) (-1000001) rfl) rfl, dkN_sub d4 rfl, q2, q3, rfl, trivial⟩⟩, dkW_eq ht hW⟩, hS.F ht⟩) hS.2.2 dX6_as_19
    ·
      exact absurd ((xv1).trans (rfl).symm) c5
  rcases hc1 with ⟨dv1, a1_0, x1_0, x1_1, x1_2, xr1, -⟩ | hc1
  ·
    have q6 : ((I0 346 5) - (1 : Int32)).toInt = (I0 346 5).toInt - (1 : Int) := x1_0
    have q7 : (0 : Int) + 0 ≤ p0.toInt := x1_1
    have q8 : ((I0 346 5) - (1 : Int32)).toInt + 1 ≤ p0.toInt := x1_2
    have xv1 : v1 = 0 := by have h := xr1; exact h
    have d9 : dkN [(0, 2147483647)] p0 := dkN_eq1 (dkN_top p0) a1_0 rfl rfl
    refine lv_if_eq (tgt := 17) hx hb dX6_as_5 (by decide) (fun c10 => ?_) (fun c10 => ?_)
    ·
      refine lv_ldc (v := (-1000001)) hx hb hown (hts (.constant RX6 64 (-1000001)) (List.mem_of_getElem? (i := 1) rfl)) dX6_as_17 ?_
      exact W.iret (v := (-1000001)) hx hb hr (fun t ht hW9 => ⟨⟨(-1000001), I0, rfl, ⟨hF, hO, Or.inr (Or.inl ⟨dkN_sub (dkN_lit (x := (-1000001)) (-1000001) rfl) rfl, dkN_sub d9 rfl, q6, q7, q8, rfl, trivial⟩)⟩, dkW_eq ht hW⟩, hS.F ht⟩) hS.2.2 dX6_as_19
    ·
      exact absurd ((xv1).trans (rfl).symm) c10
  ·
    obtain ⟨dv1, a1_0, x1_0, x1_1, x1_2, xr1, -⟩ := hc1
    have q11 : ((I0 346 5) - (1 : Int32)).toInt = (I0 346 5).toInt - (1 : Int) := x1_0
    have q12 : (0 : Int) + 0 ≤ p0.toInt := x1_1
    have q13 : p0.toInt + 0 ≤ ((I0 346 5) - (1 : Int32)).toInt := x1_2
    have xv1 : v1 = 1 := by have h := xr1; exact h
    have d14 : dkN [(0, 5)] p0 := dkN_eq1 (dkN_top p0) a1_0 rfl rfl
    refine lv_if_eq (tgt := 17) hx hb dX6_as_5 (by decide) (fun c15 => ?_) (fun c15 => ?_)
    ·
      exact (dkN_nil (show dkN [] v1 from dkN_eq1 dv1 (dkN_lit (x := 0) (0) rfl) (congrArg Int32.toInt c15) rfl)).elim
    ·
      refine lv_iload_n hx hb dX6_as_8 rfl (lv_at hl 2 rfl) ?_
      refine lv_iconst (v := 0) hx hb dX6_as_9 (by decide) ?_
      refine lv_iconst (v := 5) hx hb dX6_as_10 (by decide) ?_
      refine dk_Si (As := [.int p1, .int 0, .int 5]) (rest := []) ⟨hx, hb, hml, hown, hts⟩ (fx_X6_in_38 l g z I0 p1 0 5 (dkN_lit (x := 0) (0) rfl) (dkN_lit (x := 5) (5) rfl) hO) (va_cwS 3 hts gX6_as_X6_in rfl rfl rfl (by decide +kernel) ⟨Nat.le_of_ble_eq_true rfl, Nat.le_of_ble_eq_true rfl⟩) hK hT hW hS rfl hl.1 rfl (Nat.le_of_ble_eq_true rfl) dX6_as_11 ⟨Nat.zero_le _, Nat.zero_le _⟩ (fun v16 I16 H16 L16 hp16 hW hS => ?_)
      obtain ⟨hF16, hO, hc16⟩ := hp16
      have hF := dkF_call hF hF16 rfl
      have eI16 : I0 = I16 := (dkF_nil hF16).symm
      subst eI16
      rcases hc16 with ⟨dv16, a16_0, x16_0, xr16, -⟩ | hc16
      ·
        have q17 : p1.toInt + 1 ≤ (0 : Int) := x16_0
        have xv16 : v16 = 0 := by have h := xr16; exact h
        have d18 : dkN [(-2147483648, -1)] p1 := dkN_eq1 (dkN_top p1) a16_0 rfl rfl
        refine lv_if_ne (tgt := 20) hx hb dX6_as_14 (by decide) (fun c19 => ?_) (fun c19 => ?_)
        ·
          exact absurd ((xv16).trans (rfl).symm) c19
        ·
          refine lv_ldc (v := (-1000001)) hx hb hown (hts (.constant RX6 64 (-1000001)) (List.mem_of_getElem? (i := 1) rfl)) dX6_as_17 ?_
          exact W.iret (v := (-1000001)) hx hb hr (fun t ht hW9 => ⟨⟨(-1000001), I0, rfl, ⟨hF, hO, Or.inr (Or.inr (Or.inl ⟨dkN_sub (dkN_lit (x := (-1000001)) (-1000001) rfl) rfl, dkN_sub d14 rfl, dkN_sub d18 rfl, q11, q12, q13, q17, rfl, trivial⟩))⟩, dkW_eq ht hW⟩, hS.F ht⟩) hS.2.2 dX6_as_19
      rcases hc16 with ⟨dv16, a16_0, x16_0, x16_1, xr16, -⟩ | hc16
      ·
        have q20 : (0 : Int) + 0 ≤ p1.toInt := x16_0
        have q21 : (5 : Int) + 1 ≤ p1.toInt := x16_1
        have xv16 : v16 = 0 := by have h := xr16; exact h
        have d22 : dkN [(6, 2147483647)] p1 := dkN_eq1 (dkN_top p1) a16_0 rfl rfl
        refine lv_if_ne (tgt := 20) hx hb dX6_as_14 (by decide) (fun c23 => ?_) (fun c23 => ?_)
        ·
          exact absurd ((xv16).trans (rfl).symm) c23
        ·
          refine lv_ldc (v := (-1000001)) hx hb hown (hts (.constant RX6 64 (-1000001)) (List.mem_of_getElem? (i := 1) rfl)) dX6_as_17 ?_
          exact W.iret (v := (-1000001)) hx hb hr (fun t ht hW9 => ⟨⟨(-1000001), I0, rfl, ⟨hF, hO, Or.inr (Or.inr (Or.inr (Or.inl ⟨dkN_sub (dkN_lit (x := (-1000001)) (-1000001) rfl) rfl, dkN_sub d14 rfl, dkN_sub d22 rfl, q11, q12, q13, q20, q21, rfl, trivial⟩)))⟩, dkW_eq ht hW⟩, hS.F ht⟩) hS.2.2 dX6_as_19
      ·
        obtain ⟨dv16, a16_0, x16_0, x16_1, xr16, -⟩ := hc16
        have q24 : (0 : Int) + 0 ≤ p1.toInt := x16_0
        have q25 : p1.toInt + 0 ≤ (5 : Int) := x16_1
        have xv16 : v16 = 1 := by have h := xr16; exact h
        have d26 : dkN [(0, 5)] p1 := dkN_eq1 (dkN_top p1) a16_0 rfl rfl
        refine lv_if_ne (tgt := 20) hx hb dX6_as_14 (by decide) (fun c27 => ?_) (fun c27 => ?_)
        ·
          refine lv_aload_n hx hb dX6_as_20 rfl (lv_at hl 0 rfl) ?_
          refine lv_iload_n hx hb dX6_as_21 rfl (lv_at hl 1 rfl) ?_
          refine dk_Vi (As := [.int p0]) (rest := []) ⟨hx, hb, hml, hown, hts⟩ (fx_X6_kindIn_1 l g z I0 p0 d14 hO) (cwV 1 hts gX6_as_X6_kindIn rfl rfl rfl (by decide +kernel) ⟨Nat.le_of_ble_eq_true rfl, Nat.le_of_ble_eq_true rfl⟩) (dk_at340 hW) rfl hK hT hW hS rfl hl.1 rfl (Nat.le_of_ble_eq_true rfl) dX6_as_22 ⟨Nat.zero_le _, Nat.zero_le _⟩ (fun v28 I28 H28 L28 hp28 hW hS => ?_)
          obtain ⟨hF28, hO, hc28⟩ := hp28
          have hF := dkF_call hF hF28 rfl
          have eI28 : I0 = I28 := (dkF_nil hF28).symm
          subst eI28
          obtain ⟨_, x28_0, x28_1, xr28, -⟩ := hc28
          have q29 : ((3 : Int32) * p0).toInt = (3 : Int) * p0.toInt := x28_0
          have q30 : ((36 : Int32) + ((3 : Int32) * p0)).toInt = (36 : Int) + ((3 : Int32) * p0).toInt := x28_1
          have xv28 : v28 = I0 346 (Int32.toNatClampNeg ((36 : Int32) + ((3 : Int32) * p0))) := by have h := xr28; exact h
          refine lv_istore_n (lv' := [(3, .int v28), (0, .ref (z + 340)), (1, .int p0), (2, .int p1)]) hx hb dX6_as_25 rfl hl (by decide) rfl (fun ls hl => ?_)
          refine lv_iload_n hx hb dX6_as_26 rfl (lv_at hl 3 rfl) ?_
          refine lv_if_eq (tgt := 55) hx hb dX6_as_27 (by decide) (fun c31 => ?_) (fun c31 => ?_)
          ·
            have q32 : p1.toInt = (0 : Int) := (congrArg Int32.toInt c31)
            have d33 : dkN [(0, 0)] p1 := dkN_eq1 d26 (dkN_lit (x := 0) (0) rfl) (congrArg Int32.toInt c31) rfl
            refine lv_iconst (v := 1) hx hb dX6_as_55 (by decide) ?_
            refine lv_goto (tgt := 60) hx hb dX6_as_56 (by decide) ?_
            refine lv_istore (lv' := [(4, .int 1), (3, .int v28), (0, .ref (z + 340)), (1, .int p0), (2, .int p1)]) hx hb dX6_as_60 hl (by decide) rfl (fun ls hl => ?_)
            refine lv_iload hx hb dX6_as_62 (lv_at hl 0 rfl) ?_
            refine lv_if_eq (tgt := 75) hx hb dX6_as_64 (by decide) (fun c34 => ?_) (fun c34 => ?_)
            ·
              exact (dkN_nil (show dkN [] 1 from dkN_eq1 (dkN_lit (x := 1) (1) rfl) (dkN_lit (x := 0) (0) rfl) (congrArg Int32.toInt c34) rfl)).elim
            ·
              refine lv_aload_n hx hb dX6_as_67 rfl (lv_at hl 2 rfl) ?_
              refine lv_iload_n hx hb dX6_as_68 rfl (lv_at hl 3 rfl) ?_
              refine dk_Vi (As := [.int p0]) (rest := []) ⟨hx, hb, hml, hown, hts⟩ (fx_X6_well_1 l g z I0 p0 hO) (cwV 1 hts gX6_as_X6_well rfl rfl rfl (by decide +kernel) ⟨Nat.le_of_ble_eq_true rfl, Nat.le_of_ble_eq_true rfl⟩) (dk_at340 hW) rfl hK hT hW hS rfl hl.1 rfl (Nat.le_of_ble_eq_true rfl) dX6_as_69 ⟨Nat.zero_le _, Nat.zero_le _⟩ (fun v35 I35 H35 L35 hp35 hW hS => ?_)
              obtain ⟨hF35, hO, hc35⟩ := hp35
              have hF := dkF_call hF hF35 rfl
              obtain ⟨_, f35_340_4, xr35, -⟩ := hc35
              have xv35 : v35 = p0 := by have h := xr35; exact h
              refine lv_goto (tgt := 80) hx hb dX6_as_72 (by decide) ?_
              exact W.iret (v := v35) hx hb hr (fun t ht hW9 => ⟨⟨v35, I35, rfl, ⟨hF, hO, Or.inr (Or.inr (Or.inr (Or.inr (Or.inl ⟨trivial, dkN_sub d14 rfl, dkN_sub d33 rfl, (show dkN [(0, 0)] (I35 340 4) from dkN_sub f35_340_4 rfl), q11, q12, q13, q24, q25, q29, q30, q32, xv35, trivial⟩))))⟩, dkW_eq ht hW⟩, hS.F ht⟩) hS.2.2 dX6_as_80
          ·
            have q36 : p1.toInt ≠ (0 : Int) := (dk_ne c31)
            have d37 : dkN [(1, 5)] p1 := dkN_ne1 (0) d26 (dkN_lit (x := 0) (0) rfl) (dk_ne c31) rfl
            refine lv_iload_n hx hb dX6_as_30 rfl (lv_at hl 3 rfl) ?_
            refine lv_iload_n hx hb dX6_as_31 rfl (lv_at hl 0 rfl) ?_
            refine lv_icmp_eq (tgt := 55) hx hb dX6_as_32 (by decide) (fun c38 => ?_) (fun c38 => ?_)
            ·
              have q39 : p1.toInt = (I0 346 (Int32.toNatClampNeg ((36 : Int32) + ((3 : Int32) * p0)))).toInt := by first | (rw [← xv28]; exact (congrArg Int32.toInt c38)) | (subst xv28; exact (congrArg Int32.toInt c38))
              have d40 : dkN [(1, 5)] v28 := dkN_eq1 (dkN_top v28) d37 (congrArg Int32.toInt c38).symm rfl
              refine lv_iconst (v := 1) hx hb dX6_as_55 (by decide) ?_
              refine lv_goto (tgt := 60) hx hb dX6_as_56 (by decide) ?_
              refine lv_istore (lv' := [(4, .int 1), (3, .int v28), (0, .ref (z + 340)), (1, .int p0), (2, .int p1)]) hx hb dX6_as_60 hl (by decide) rfl (fun ls hl => ?_)
              refine lv_iload hx hb dX6_as_62 (lv_at hl 0 rfl) ?_
              refine lv_if_eq (tgt := 75) hx hb dX6_as_64 (by decide) (fun c41 => ?_) (fun c41 => ?_)
              ·
                exact (dkN_nil (show dkN [] 1 from dkN_eq1 (dkN_lit (x := 1) (1) rfl) (dkN_lit (x := 0) (0) rfl) (congrArg Int32.toInt c41) rfl)).elim
              ·
                refine lv_aload_n hx hb dX6_as_67 rfl (lv_at hl 2 rfl) ?_
                refine lv_iload_n hx hb dX6_as_68 rfl (lv_at hl 3 rfl) ?_
                refine dk_Vi (As := [.int p0]) (rest := []) ⟨hx, hb, hml, hown, hts⟩ (fx_X6_well_1 l g z I0 p0 hO) (cwV 1 hts gX6_as_X6_well rfl rfl rfl (by decide +kernel) ⟨Nat.le_of_ble_eq_true rfl, Nat.le_of_ble_eq_true rfl⟩) (dk_at340 hW) rfl hK hT hW hS rfl hl.1 rfl (Nat.le_of_ble_eq_true rfl) dX6_as_69 ⟨Nat.zero_le _, Nat.zero_le _⟩ (fun v42 I42 H42 L42 hp42 hW hS => ?_)
                obtain ⟨hF42, hO, hc42⟩ := hp42
                have hF := dkF_call hF hF42 rfl
                obtain ⟨_, f42_340_4, xr42, -⟩ := hc42
                have xv42 : v42 = p0 := by have h := xr42; exact h
                refine lv_goto (tgt := 80) hx hb dX6_as_72 (by decide) ?_
                exact W.iret (v := v42) hx hb hr (fun t ht hW9 => ⟨⟨v42, I42, rfl, ⟨hF, hO, Or.inr (Or.inr (Or.inr (Or.inr (Or.inr (Or.inl ⟨trivial, dkN_sub d14 rfl, dkN_sub d37 rfl, (show dkN [(0, 0)] (I42 340 4) from dkN_sub f42_340_4 rfl), q11, q12, q13, q24, q25, q29, q30, q36, q39, xv42, trivial⟩)))))⟩, dkW_eq ht hW⟩, hS.F ht⟩) hS.2.2 dX6_as_80
            ·
              have q43 : p1.toInt ≠ (I0 346 (Int32.toNatClampNeg ((36 : Int32) + ((3 : Int32) * p0)))).toInt := by first | (rw [← xv28]; exact (dk_ne c38)) | (subst xv28; exact (dk_ne c38))
              refine lv_iload_n hx hb dX6_as_35 rfl (lv_at hl 3 rfl) ?_
              refine lv_iconst (v := 1) hx hb dX6_as_36 (by decide) ?_
              refine lv_icmp_ne (tgt := 45) hx hb dX6_as_37 (by decide) (fun c44 => ?_) (fun c44 => ?_)
              ·
                have q45 : p1.toInt ≠ (1 : Int) := (dk_ne c44)
                have d46 : dkN [(2, 5)] p1 := dkN_ne1 (1) d37 (dkN_lit (x := 1) (1) rfl) (dk_ne c44) rfl
                refine lv_iload_n hx hb dX6_as_45 rfl (lv_at hl 3 rfl) ?_
                refine lv_iconst (v := 4) hx hb dX6_as_46 (by decide) ?_
                refine lv_icmp_ne (tgt := 59) hx hb dX6_as_47 (by decide) (fun c47 => ?_) (fun c47 => ?_)
                ·
                  have q48 : p1.toInt ≠ (4 : Int) := (dk_ne c47)
                  have d49 : dkN [(2, 3), (5, 5)] p1 := dkN_ne1 (4) d46 (dkN_lit (x := 4) (4) rfl) (dk_ne c47) rfl
                  refine lv_iconst (v := 0) hx hb dX6_as_59 (by decide) ?_
                  refine lv_istore (lv' := [(4, .int 0), (3, .int v28), (0, .ref (z + 340)), (1, .int p0), (2, .int p1)]) hx hb dX6_as_60 hl (by decide) rfl (fun ls hl => ?_)
                  refine lv_iload hx hb dX6_as_62 (lv_at hl 0 rfl) ?_
                  refine lv_if_eq (tgt := 75) hx hb dX6_as_64 (by decide) (fun c50 => ?_) (fun c50 => ?_)
                  ·
                    refine lv_aload_n hx hb dX6_as_75 rfl (lv_at hl 2 rfl) ?_
                    refine lv_iconst (v := 3) hx hb dX6_as_76 (by decide) ?_
                    refine dk_Vi (As := [.int 3]) (rest := []) ⟨hx, hb, hml, hown, hts⟩ (fx_X6_found_5 l g z I0 3 (dkN_lit (x := 3) (3) rfl) hO) (cwV 1 hts gX6_as_X6_found rfl rfl rfl (by decide +kernel) ⟨Nat.le_of_ble_eq_true rfl, Nat.le_of_ble_eq_true rfl⟩) (dk_at340 hW) rfl hK hT hW hS rfl hl.1 rfl (Nat.le_of_ble_eq_true rfl) dX6_as_77 ⟨Nat.zero_le _, Nat.zero_le _⟩ (fun v51 I51 H51 L51 hp51 hW hS => ?_)
                    obtain ⟨hF51, hO, hc51⟩ := hp51
                    have hF := dkF_call hF hF51 rfl
                    obtain ⟨dv51, f51_340_4, x51_0, xr51, -⟩ := hc51
                    have q52 : ((-1000010 : Int32) - (3 : Int32)).toInt = (-1000010 : Int) - (3 : Int) := x51_0
                    have xv51 : v51 = (-1000010 : Int32) - (3 : Int32) := by have h := xr51; exact h
                    exact W.iret (v := v51) hx hb hr (fun t ht hW9 => ⟨⟨v51, I51, rfl, ⟨hF, hO, Or.inr (Or.inr (Or.inr (Or.inr (Or.inr (Or.inr (Or.inl ⟨dkN_sub dv51 rfl, dkN_sub d14 rfl, dkN_sub d49 rfl, (show dkN [(3, 3)] (I51 340 4) from dkN_sub f51_340_4 rfl), q11, q12, q13, q24, q25, q29, q30, q36, q43, q45, q48, q52, xv51, trivial⟩))))))⟩, dkW_eq ht hW⟩, hS.F ht⟩) hS.2.2 dX6_as_80
                  ·
                    exact (dkN_nil (show dkN [] 0 from dkN_ne1 (0) (dkN_lit (x := 0) (0) rfl) (dkN_lit (x := 0) (0) rfl) (dk_ne c50) rfl)).elim
                ·
                  have q53 : p1.toInt = (4 : Int) := (congrArg Int32.toInt c47)
                  have d54 : dkN [(4, 4)] p1 := dkN_eq1 d46 (dkN_lit (x := 4) (4) rfl) (congrArg Int32.toInt c47) rfl
                  refine lv_iload_n hx hb dX6_as_50 rfl (lv_at hl 0 rfl) ?_
                  refine lv_iconst (v := 5) hx hb dX6_as_51 (by decide) ?_
                  refine lv_icmp_ne (tgt := 59) hx hb dX6_as_52 (by decide) (fun c55 => ?_) (fun c55 => ?_)
                  ·
                    have q56 : (I0 346 (Int32.toNatClampNeg ((36 : Int32) + ((3 : Int32) * p0)))).toInt ≠ (5 : Int) := by first | (rw [← xv28]; exact (dk_ne c55)) | (subst xv28; exact (dk_ne c55))
                    have d57 : dkN [(-2147483648, 4), (6, 2147483647)] v28 := dkN_ne1 (5) (dkN_top v28) (dkN_lit (x := 5) (5) rfl) (dk_ne c55) rfl
                    refine lv_iconst (v := 0) hx hb dX6_as_59 (by decide) ?_
                    refine lv_istore (lv' := [(4, .int 0), (3, .int v28), (0, .ref (z + 340)), (1, .int p0), (2, .int p1)]) hx hb dX6_as_60 hl (by decide) rfl (fun ls hl => ?_)
                    refine lv_iload hx hb dX6_as_62 (lv_at hl 0 rfl) ?_
                    refine lv_if_eq (tgt := 75) hx hb dX6_as_64 (by decide) (fun c58 => ?_) (fun c58 => ?_)
                    ·
                      refine lv_aload_n hx hb dX6_as_75 rfl (lv_at hl 2 rfl) ?_
                      refine lv_iconst (v := 3) hx hb dX6_as_76 (by decide) ?_
                      refine dk_Vi (As := [.int 3]) (rest := []) ⟨hx, hb, hml, hown, hts⟩ (fx_X6_found_5 l g z I0 3 (dkN_lit (x := 3) (3) rfl) hO) (cwV 1 hts gX6_as_X6_found rfl rfl rfl (by decide +kernel) ⟨Nat.le_of_ble_eq_true rfl, Nat.le_of_ble_eq_true rfl⟩) (dk_at340 hW) rfl hK hT hW hS rfl hl.1 rfl (Nat.le_of_ble_eq_true rfl) dX6_as_77 ⟨Nat.zero_le _, Nat.zero_le _⟩ (fun v59 I59 H59 L59 hp59 hW hS => ?_)
                      obtain ⟨hF59, hO, hc59⟩ := hp59
                      have hF := dkF_call hF hF59 rfl
                      obtain ⟨dv59, f59_340_4, x59_0, xr59, -⟩ := hc59
                      have q60 : ((-1000010 : Int32) - (3 : Int32)).toInt = (-1000010 : Int) - (3 : Int) := x59_0
                      have xv59 : v59 = (-1000010 : Int32) - (3 : Int32) := by have h := xr59; exact h
                      exact W.iret (v := v59) hx hb hr (fun t ht hW9 => ⟨⟨v59, I59, rfl, ⟨hF, hO, Or.inr (Or.inr (Or.inr (Or.inr (Or.inr (Or.inr (Or.inr (Or.inl ⟨dkN_sub dv59 rfl, dkN_sub d14 rfl, dkN_sub d54 rfl, (show dkN [(3, 3)] (I59 340 4) from dkN_sub f59_340_4 rfl), q11, q12, q13, q24, q25, q29, q30, q36, q43, q45, q53, q56, q60, xv59, trivial⟩)))))))⟩, dkW_eq ht hW⟩, hS.F ht⟩) hS.2.2 dX6_as_80
                    ·
                      exact (dkN_nil (show dkN [] 0 from dkN_ne1 (0) (dkN_lit (x := 0) (0) rfl) (dkN_lit (x := 0) (0) rfl) (dk_ne c58) rfl)).elim
                  ·
                    have q61 : (I0 346 (Int32.toNatClampNeg ((36 : Int32) + ((3 : Int32) * p0)))).toInt = (5 : Int) := by first | (rw [← xv28]; exact (congrArg Int32.toInt c55)) | (subst xv28; exact (congrArg Int32.toInt c55))
                    have d62 : dkN [(5, 5)] v28 := dkN_eq1 (dkN_top v28) (dkN_lit (x := 5) (5) rfl) (congrArg Int32.toInt c55) rfl
                    refine lv_iconst (v := 1) hx hb dX6_as_55 (by decide) ?_
                    refine lv_goto (tgt := 60) hx hb dX6_as_56 (by decide) ?_
                    refine lv_istore (lv' := [(4, .int 1), (3, .int v28), (0, .ref (z + 340)), (1, .int p0), (2, .int p1)]) hx hb dX6_as_60 hl (by decide) rfl (fun ls hl => ?_)
                    refine lv_iload hx hb dX6_as_62 (lv_at hl 0 rfl) ?_
                    refine lv_if_eq (tgt := 75) hx hb dX6_as_64 (by decide) (fun c63 => ?_) (fun c63 => ?_)
                    ·
                      exact (dkN_nil (show dkN [] 1 from dkN_eq1 (dkN_lit (x := 1) (1) rfl) (dkN_lit (x := 0) (0) rfl) (congrArg Int32.toInt c63) rfl)).elim
                    ·
                      refine lv_aload_n hx hb dX6_as_67 rfl (lv_at hl 2 rfl) ?_
                      refine lv_iload_n hx hb dX6_as_68 rfl (lv_at hl 3 rfl) ?_
                      refine dk_Vi (As := [.int p0]) (rest := []) ⟨hx, hb, hml, hown, hts⟩ (fx_X6_well_1 l g z I0 p0 hO) (cwV 1 hts gX6_as_X6_well rfl rfl rfl (by decide +kernel) ⟨Nat.le_of_ble_eq_true rfl, Nat.le_of_ble_eq_true rfl⟩) (dk_at340 hW) rfl hK hT hW hS rfl hl.1 rfl (Nat.le_of_ble_eq_true rfl) dX6_as_69 ⟨Nat.zero_le _, Nat.zero_le _⟩ (fun v64 I64 H64 L64 hp64 hW hS => ?_)
                      obtain ⟨hF64, hO, hc64⟩ := hp64
                      have hF := dkF_call hF hF64 rfl
                      obtain ⟨_, f64_340_4, xr64, -⟩ := hc64
                      have xv64 : v64 = p0 := by have h := xr64; exact h
                      refine lv_goto (tgt := 80) hx hb dX6_as_72 (by decide) ?_
                      exact W.iret (v := v64) hx hb hr (fun t ht hW9 => ⟨⟨v64, I64, rfl, ⟨hF, hO, Or.inr (Or.inr (Or.inr (Or.inr (Or.inr (Or.inr (Or.inr (Or.inr (Or.inl ⟨trivial, dkN_sub d14 rfl, dkN_sub d54 rfl, (show dkN [(0, 0)] (I64 340 4) from dkN_sub f64_340_4 rfl), q11, q12, q13, q24, q25, q29, q30, q36, q43, q45, q53, q61, xv64, trivial⟩))))))))⟩, dkW_eq ht hW⟩, hS.F ht⟩) hS.2.2 dX6_as_80
              ·
                have q65 : p1.toInt = (1 : Int) := (congrArg Int32.toInt c44)
                have d66 : dkN [(1, 1)] p1 := dkN_eq1 d37 (dkN_lit (x := 1) (1) rfl) (congrArg Int32.toInt c44) rfl
                refine lv_iload_n hx hb dX6_as_40 rfl (lv_at hl 0 rfl) ?_
                refine lv_iconst (v := 4) hx hb dX6_as_41 (by decide) ?_
                refine lv_icmp_lt (tgt := 55) hx hb dX6_as_42 (by decide) (fun c67 => ?_) (fun c67 => ?_)
                ·
                  have q68 : (I0 346 (Int32.toNatClampNeg ((36 : Int32) + ((3 : Int32) * p0)))).toInt + 1 ≤ (4 : Int) := by first | (rw [← xv28]; exact (dkc_lt c67)) | (subst xv28; exact (dkc_lt c67))
                  have d69 : dkN [(-2147483648, 3)] v28 := dkN_le1 1 (dkN_top v28) (dkN_lit (x := 4) (4) rfl) (dkc_lt c67) rfl
                  refine lv_iconst (v := 1) hx hb dX6_as_55 (by decide) ?_
                  refine lv_goto (tgt := 60) hx hb dX6_as_56 (by decide) ?_
                  refine lv_istore (lv' := [(4, .int 1), (3, .int v28), (0, .ref (z + 340)), (1, .int p0), (2, .int p1)]) hx hb dX6_as_60 hl (by decide) rfl (fun ls hl => ?_)
                  refine lv_iload hx hb dX6_as_62 (lv_at hl 0 rfl) ?_
                  refine lv_if_eq (tgt := 75) hx hb dX6_as_64 (by decide) (fun c70 => ?_) (fun c70 => ?_)
                  ·
                    exact (dkN_nil (show dkN [] 1 from dkN_eq1 (dkN_lit (x := 1) (1) rfl) (dkN_lit (x := 0) (0) rfl) (congrArg Int32.toInt c70) rfl)).elim
                  ·
                    refine lv_aload_n hx hb dX6_as_67 rfl (lv_at hl 2 rfl) ?_
                    refine lv_iload_n hx hb dX6_as_68 rfl (lv_at hl 3 rfl) ?_
                    refine dk_Vi (As := [.int p0]) (rest := []) ⟨hx, hb, hml, hown, hts⟩ (fx_X6_well_1 l g z I0 p0 hO) (cwV 1 hts gX6_as_X6_well rfl rfl rfl (by decide +kernel) ⟨Nat.le_of_ble_eq_true rfl, Nat.le_of_ble_eq_true rfl⟩) (dk_at340 hW) rfl hK hT hW hS rfl hl.1 rfl (Nat.le_of_ble_eq_true rfl) dX6_as_69 ⟨Nat.zero_le _, Nat.zero_le _⟩ (fun v71 I71 H71 L71 hp71 hW hS => ?_)
                    obtain ⟨hF71, hO, hc71⟩ := hp71
                    have hF := dkF_call hF hF71 rfl
                    obtain ⟨_, f71_340_4, xr71, -⟩ := hc71
                    have xv71 : v71 = p0 := by have h := xr71; exact h
                    refine lv_goto (tgt := 80) hx hb dX6_as_72 (by decide) ?_
                    exact W.iret (v := v71) hx hb hr (fun t ht hW9 => ⟨⟨v71, I71, rfl, ⟨hF, hO, Or.inr (Or.inr (Or.inr (Or.inr (Or.inr (Or.inr (Or.inr (Or.inr (Or.inr (Or.inl ⟨trivial, dkN_sub d14 rfl, dkN_sub d66 rfl, (show dkN [(0, 0)] (I71 340 4) from dkN_sub f71_340_4 rfl), q11, q12, q13, q24, q25, q29, q30, q36, q43, q65, q68, xv71, trivial⟩)))))))))⟩, dkW_eq ht hW⟩, hS.F ht⟩) hS.2.2 dX6_as_80
                ·
                  have q72 : (4 : Int) + 0 ≤ (I0 346 (Int32.toNatClampNeg ((36 : Int32) + ((3 : Int32) * p0)))).toInt := by first | (rw [← xv28]; exact (dkc_nlt c67)) | (subst xv28; exact (dkc_nlt c67))
                  have d73 : dkN [(4, 2147483647)] v28 := dkN_le2 0 (dkN_lit (x := 4) (4) rfl) (dkN_top v28) (dkc_nlt c67) rfl
                  refine lv_iload_n hx hb dX6_as_45 rfl (lv_at hl 3 rfl) ?_
                  refine lv_iconst (v := 4) hx hb dX6_as_46 (by decide) ?_
                  refine lv_icmp_ne (tgt := 59) hx hb dX6_as_47 (by decide) (fun c74 => ?_) (fun c74 => ?_)
                  ·
                    have q75 : p1.toInt ≠ (4 : Int) := (dk_ne c74)
                    refine lv_iconst (v := 0) hx hb dX6_as_59 (by decide) ?_
                    refine lv_istore (lv' := [(4, .int 0), (3, .int v28), (0, .ref (z + 340)), (1, .int p0), (2, .int p1)]) hx hb dX6_as_60 hl (by decide) rfl (fun ls hl => ?_)
                    refine lv_iload hx hb dX6_as_62 (lv_at hl 0 rfl) ?_
                    refine lv_if_eq (tgt := 75) hx hb dX6_as_64 (by decide) (fun c76 => ?_) (fun c76 => ?_)
                    ·
                      refine lv_aload_n hx hb dX6_as_75 rfl (lv_at hl 2 rfl) ?_
                      refine lv_iconst (v := 3) hx hb dX6_as_76 (by decide) ?_
                      refine dk_Vi (As := [.int 3]) (rest := []) ⟨hx, hb, hml, hown, hts⟩ (fx_X6_found_5 l g z I0 3 (dkN_lit (x := 3) (3) rfl) hO) (cwV 1 hts gX6_as_X6_found rfl rfl rfl (by decide +kernel) ⟨Nat.le_of_ble_eq_true rfl, Nat.le_of_ble_eq_true rfl⟩) (dk_at340 hW) rfl hK hT hW hS rfl hl.1 rfl (Nat.le_of_ble_eq_true rfl) dX6_as_77 ⟨Nat.zero_le _, Nat.zero_le _⟩ (fun v77 I77 H77 L77 hp77 hW hS => ?_)
                      obtain ⟨hF77, hO, hc77⟩ := hp77
                      have hF := dkF_call hF hF77 rfl
                      obtain ⟨dv77, f77_340_4, x77_0, xr77, -⟩ := hc77
                      have q78 : ((-1000010 : Int32) - (3 : Int32)).toInt = (-1000010 : Int) - (3 : Int) := x77_0
                      have xv77 : v77 = (-1000010 : Int32) - (3 : Int32) := by have h := xr77; exact h
                      exact W.iret (v := v77) hx hb hr (fun t ht hW9 => ⟨⟨v77, I77, rfl, ⟨hF, hO, Or.inr (Or.inr (Or.inr (Or.inr (Or.inr (Or.inr (Or.inr (Or.inr (Or.inr (Or.inr (⟨dkN_sub dv77 rfl, dkN_sub d14 rfl, dkN_sub d66 rfl, (show dkN [(3, 3)] (I77 340 4) from dkN_sub f77_340_4 rfl), q11, q12, q13, q24, q25, q29, q30, q36, q43, q65, q72, q75, q78, xv77, trivial⟩))))))))))⟩, dkW_eq ht hW⟩, hS.F ht⟩) hS.2.2 dX6_as_80
                    ·
                      exact (dkN_nil (show dkN [] 0 from dkN_ne1 (0) (dkN_lit (x := 0) (0) rfl) (dkN_lit (x := 0) (0) rfl) (dk_ne c76) rfl)).elim
                  ·
                    exact (dkN_nil (show dkN [] p1 from dkN_eq1 d66 (dkN_lit (x := 4) (4) rfl) (congrArg Int32.toInt c74) rfl)).elim
        ·
          exact (dkN_nil (show dkN [] v16 from dkN_eq1 dv16 (dkN_lit (x := 0) (0) rfl) (congrArg Int32.toInt c27) rfl)).elim
set_option maxHeartbeats 4000000 in
set_option maxRecDepth 100000 in
theorem fx_X0_keep_1 (l : Launch) (g : dkG) (z : Nat) (I0 : dkI)  (hO : dkOk I0) (hP : dkQQ I0) : Met l yX0_keep wsX0_keep (dkR 1) (dkPc g z [.ref (z + 59), .ref (z + 25)] I0) (dkQv g z (fun I1 => dkF [(61, 324, 0, 2147483647), (59, 59, 1, 2)] I0 I1 ∧ dkOk I1 ∧ dkQQ I1 ∧ ((dkN [(1, 24)] (I1 59 2) ∧ True)))) 0 0 (dkA z) := by
  refine Met.ofW (cc := cX0_keep) (maxL := 2) (ret := none) (by decide) rfl ?_
  intro p e s m args below meth c s₁ B hml hv
  obtain ⟨ha, hW, hK, hT⟩ := hv
  have hx := B.exec
  have hb := B.bytes
  have hr := B.returns
  have hts := atoms_spec (ws := wsX0_keep) B.pre
  have hown : s.vm.findClass RX0 = some m.cls := findClass_of_methodNamed B.named
  have hlocks := B.notSynchronized
  have hS : va_S (dkA z) s.heap s.heap [] := va_S.rf
  have hF : dkF [(61, 324, 0, 2147483647), (59, 59, 1, 2)] I0 I0 := dkF_rf _ _
  have hl := lv_entry ([.ref (z + 59), .ref (z + 25)]) (n := 2) (Nat.le_of_ble_eq_true rfl)
  have hgo : entryFrame m args 2 = entryFrame m ([.ref (z + 59), .ref (z + 25)] : List Value).toArray 2 := by rw [ha]
  rw [hgo, lg_entry_eq]
  generalize (lg_sl ([.ref (z + 59), .ref (z + 25)]) ++ List.replicate (2 - (lg_sl ([.ref (z + 59), .ref (z + 25)])).length) Slot.unset).toArray = ls at hl ⊢
  have hl : lv_has ls 2 [(0, .ref (z + 59)), (1, .ref (z + 25))] := hl
  refine lv_aload_n hx hb dX0_keep_0 rfl (lv_at hl 0 rfl) ?_
  refine dk_get (k := 59) hx hb hts iX0_keep_0 hown hK (dk_at59 hW) rfl 0 (by decide) (hts (.fieldLink RX0 11 "DogKings$Acts" "before" "[LDogKings$Town;") (List.mem_of_getElem? (i := 1) rfl)) rfl dX0_keep_1 ?_
  refine lv_aload_n hx hb dX0_keep_4 rfl (lv_at hl 0 rfl) ?_
  refine dk_get (k := 59) hx hb hts iX0_keep_0 hown hK (dk_at59 hW) rfl 1 (by decide) (hts (.fieldLink RX0 16 "DogKings$Acts" "next" "I") (List.mem_of_getElem? (i := 2) rfl)) rfl dX0_keep_5 ?_
  refine lv_topi (fun v1 ev1 => ?_)
  have dv1 : dkN [(0, 23)] v1 := by rw [ev1]; exact (hO 59 1)
  have xv1 : v1 = I0 59 1 := ev1.trans rfl
  obtain ⟨tf2, htf2, etf2, hlotf2, hhitf2⟩ := dk_townAt60 (z := z) (dkN_in (n := 24) dv1 rfl)
  refine dk_tld (r := z + tf2) hx hb hK (dk_at60 hW) (dkN_in (n := 24) dv1 rfl) etf2 dX0_keep_8 ?_
  refine lv_aload_n hx hb dX0_keep_9 rfl (lv_at hl 1 rfl) ?_
  refine dk_Vv (As := [.ref (z + 25)]) (rest := []) ⟨hx, hb, hml, hown, hts⟩ (fx_X4_become_1 l g z I0 tf2 htf2 (25) (by unfold dkT; omega) (by omega) hO) (cwV 1 hts gX0_keep_X4_become rfl rfl rfl (by decide +kernel) ⟨Nat.le_of_ble_eq_true rfl, Nat.le_of_ble_eq_true rfl⟩) (dk_aT0 htf2 hW) rfl hK hT hW hS rfl hl.1 rfl (Nat.le_of_ble_eq_true rfl) dX0_keep_10 ⟨Nat.zero_le _, Nat.zero_le _⟩ (fun I3 H3 L3 hp3 hW hS => ?_)
  obtain ⟨hF3, hO, hc3⟩ := hp3
  have hF := dkF_hullP (lo := 61) (hi := 324) hF hF3 (dkHull_cons (by omega) (by omega) (by decide) (dkHull_cons (by omega) (by omega) (by decide) (dkHull_cons (by omega) (by omega) (by decide) (dkHull_cons (by omega) (by omega) (by decide) (dkHull_cons (by omega) (by omega) (by decide) (dkHull_cons (by omega) (by omega) (by decide) (dkHull_cons (by omega) (by omega) (by decide) (dkHull_cons (by omega) (by omega) (by decide) (dkHull_cons (by omega) (by omega) (by decide) (dkHull_cons (by omega) (by omega) (by decide) (dkHull_cons (by omega) (by omega) (by decide) (dkHull_cons (by omega) (by omega) (by decide) dkHull_nil)))))))))))) rfl
  obtain ⟨xh3_0, xh3_1, xh3_2, xp3_0, -⟩ := hc3
  have y4 : I3 tf2 0 = I0 25 0 := by have h := xh3_0; exact h
  have y5 : I3 tf2 4 = I0 25 4 := by have h := xh3_1; exact h
  have y6 : I3 tf2 11 = I0 25 11 := by have h := xh3_2; exact h
  have yp7 : ∀ j : Nat, j < Int32.toNatClampNeg (I0 25 11) → I3 (tf2 + 7) j = I0 32 j := by have h := xp3_0; exact h
  refine lv_aload_n hx hb dX0_keep_13 rfl (lv_at hl 0 rfl) ?_
  refine lv_aload_n hx hb dX0_keep_14 rfl (lv_at hl 0 rfl) ?_
  refine dk_get (k := 59) hx hb hts iX0_keep_0 hown hK (dk_at59 hW) rfl 1 (by decide) (hts (.fieldLink RX0 16 "DogKings$Acts" "next" "I") (List.mem_of_getElem? (i := 2) rfl)) rfl dX0_keep_15 ?_
  refine lv_topi (fun v8 ev8 => ?_)
  have dv8 : dkN [(0, 23)] v8 := by rw [ev8]; exact (hO 59 1)
  have xv8 : v8 = I0 59 1 := ev8.trans ((hF3 59 1 (dkNin_n (by omega) (dkNin_n (by omega) (dkNin_n (by omega) (dkNin_n (by omega) (dkNin_n (by omega) (dkNin_n (by omega) (dkNin_n (by omega) (dkNin_n (by omega) (dkNin_n (by omega) (dkNin_n (by omega) (dkNin_n (by omega) (dkNin_n (by omega) dkNin_nil))))))))))))).trans rfl)
  refine lv_iconst (v := 1) hx hb dX0_keep_18 (by decide) ?_
  refine lv_iadd hx hb dX0_keep_19 ?_
  refine lv_topi (fun v9 ev9 => ?_)
  have dv9 : dkN [(1, 24)] v9 := by rw [ev9]; exact dkN_add dv8 (dkN_lit (x := 1) (1) rfl) rfl
  have xv9 : v9 = (I0 59 1) + (1 : Int32) := by rw [ev9, xv8]
  have q10 : ((I0 59 1) + (1 : Int32)).toInt = (I0 59 1).toInt + (1 : Int) := by first | (rw [← xv9, ← xv8]; exact (by rw [ev9]; exact dk_addE dv8 (dkN_lit (x := 1) (1) rfl) rfl)) | (subst xv9 xv8; exact (by rw [ev9]; exact dk_addE dv8 (dkN_lit (x := 1) (1) rfl) rfl))
  refine lv_bipush (v := 24) hx hb dX0_keep_20 (by decide) ?_
  refine lv_irem hx hb dX0_keep_22 (dkN_ne0 (dkN_lit (x := 24) (24) rfl) rfl) ?_
  refine lv_topi (fun v11 ev11 => ?_)
  have dv11 : dkN [(0, 23)] v11 := by rw [ev11]; exact dkN_rem 24 (by decide) dv9 (dkN_lit (x := 24) (24) rfl) rfl
  have xv11 : v11 = ((I0 59 1) + (1 : Int32)) - ((I0 59 1) + (1 : Int32)) / (24 : Int32) * (24 : Int32) := by rw [ev11, xv9]
  refine dk_put (k := 59) hx hb hts iX0_keep_0 tyX0 tyX0_ok nmX0 hown hK hW (dk_at59 hW) hS rfl 1 (by decide) (hts (.fieldLink RX0 16 "DogKings$Acts" "next" "I") (List.mem_of_getElem? (i := 2) rfl)) rfl rfl (Nat.le_of_ble_eq_true rfl) rfl dX0_keep_23 (fun I12 H12 L12 eI12 hW hS => ?_)
  have eI12 : I12 = dkU I3 59 1 v11 := eI12
  have hO := dkO_set hO eI12 (dkN_sub dv11 rfl)
  have hF := dkF_set hF eI12 rfl
  refine lv_aload_n hx hb dX0_keep_26 rfl (lv_at hl 0 rfl) ?_
  refine lv_aload_n hx hb dX0_keep_27 rfl (lv_at hl 0 rfl) ?_
  refine dk_get (k := 59) hx hb hts iX0_keep_0 hown hK (dk_at59 hW) rfl 2 (by decide) (hts (.fieldLink RX0 24 "DogKings$Acts" "kept" "I") (List.mem_of_getElem? (i := 3) rfl)) rfl dX0_keep_28 ?_
  refine lv_topi (fun v13 ev13 => ?_)
  have dv13 : dkN [(0, 24)] v13 := by rw [ev13]; exact (hO 59 2)
  have xv13 : v13 = I0 59 2 := ev13.trans ((by rw [eI12, dkU_sn (by decide)] : I12 59 2 = _).trans ((hF3 59 2 (dkNin_n (by omega) (dkNin_n (by omega) (dkNin_n (by omega) (dkNin_n (by omega) (dkNin_n (by omega) (dkNin_n (by omega) (dkNin_n (by omega) (dkNin_n (by omega) (dkNin_n (by omega) (dkNin_n (by omega) (dkNin_n (by omega) (dkNin_n (by omega) dkNin_nil))))))))))))).trans rfl))
  refine lv_iconst (v := 1) hx hb dX0_keep_31 (by decide) ?_
  refine lv_iadd hx hb dX0_keep_32 ?_
  refine lv_topi (fun v14 ev14 => ?_)
  have dv14 : dkN [(1, 25)] v14 := by rw [ev14]; exact dkN_add dv13 (dkN_lit (x := 1) (1) rfl) rfl
  have xv14 : v14 = (I0 59 2) + (1 : Int32) := by rw [ev14, xv13]
  have q15 : ((I0 59 2) + (1 : Int32)).toInt = (I0 59 2).toInt + (1 : Int) := by first | (rw [← xv14, ← xv13]; exact (by rw [ev14]; exact dk_addE dv13 (dkN_lit (x := 1) (1) rfl) rfl)) | (subst xv14 xv13; exact (by rw [ev14]; exact dk_addE dv13 (dkN_lit (x := 1) (1) rfl) rfl))
  refine lv_bipush (v := 24) hx hb dX0_keep_33 (by decide) ?_
  refine va_mmin hx hb (by rw [hml]; exact hl.1.symm) hown (hts (.methodLink RX0 27 Lib.Math.min.name) (List.mem_of_getElem? (i := 4) rfl)) (hts (.static Lib.Math.min.name) (List.mem_of_getElem? (i := 5) rfl)) (hts (.initialized "java/lang/Math") (List.mem_of_getElem? (i := 6) rfl)) (hts (.code Lib.Math.min.name Lib.Math.min.code 2 (some .int)) (List.mem_of_getElem? (i := 7) rfl)) (Nat.le_of_ble_eq_true rfl) (Nat.le_of_ble_eq_true rfl) (Nat.zero_le _) (Nat.zero_le _) dX0_keep_35 ?_
  refine lv_topi (fun v16 ev16 => ?_)
  have dv16 : dkN [(1, 24)] v16 := by rw [ev16]; exact dkN_min dv14 (dkN_lit (x := 24) (24) rfl) rfl
  refine dk_put (k := 59) hx hb hts iX0_keep_0 tyX0 tyX0_ok nmX0 hown hK hW (dk_at59 hW) hS rfl 2 (by decide) (hts (.fieldLink RX0 24 "DogKings$Acts" "kept" "I") (List.mem_of_getElem? (i := 3) rfl)) rfl rfl (Nat.le_of_ble_eq_true rfl) rfl dX0_keep_38 (fun I17 H17 L17 eI17 hW hS => ?_)
  have eI17 : I17 = dkU I12 59 2 v16 := eI17
  have hO := dkO_set hO eI17 (dkN_sub dv16 rfl)
  have hF := dkF_set hF eI17 rfl
  have hO0 := ‹dkOk I0›
  have hb1 := dkN_lo (b := 0) (show dkN [(0, 23)] (I0 59 1) from hO0 59 1) rfl
  have hb2 := dkN_hi (b := 23) (show dkN [(0, 23)] (I0 59 1) from hO0 59 1) rfl
  have hb3 := dkN_lo (b := 0) (show dkN [(0, 24)] (I0 59 2) from hO0 59 2) rfl
  have hy1 := dkN_hi (b := 24) dv16 rfl
  have hy2 := dkN_lo (b := 0) dv16 rfl
  have hy3 : v16.toInt ≤ (I0 59 2).toInt + 1 := by have h1 := (show v16.toInt ≤ v14.toInt by rw [ev16]; exact dk_minle); rw [xv14] at h1; omega
  have hP := dkQQ_keep ‹dkQQ I0› (dk_tIdx (i := I0 59 1) (by have h1 := etf2; rw [xv1] at h1; exact h1)) (fun k j h => hF3 k j (dkNin_n (by omega) (dkNin_n (by omega) (dkNin_n (by omega) (dkNin_n (by omega) (dkNin_n (by omega) (dkNin_n (by omega) (dkNin_n (by omega) (dkNin_n (by omega) (dkNin_n (by omega) (dkNin_n (by omega) (dkNin_n (by omega) (dkNin_n (by omega) dkNin_nil))))))))))))) xh3_0 xh3_1 xh3_2 (fun j hj => xp3_0 j hj) eI12 (by have h1 := dk_remN ev11 (by rw [xv9]; omega) rfl; rw [xv9] at h1; have h2 : Int32.toNatClampNeg (I0 59 1) = (I0 59 1).toInt.toNat := rfl; omega) eI17 (by have h2 : Int32.toNatClampNeg (I0 59 2) = (I0 59 2).toInt.toNat := rfl; have h3 : Int32.toNatClampNeg v16 = v16.toInt.toNat := rfl; omega) (by have h3 : Int32.toNatClampNeg v16 = v16.toInt.toNat := rfl; omega) (by have h2 : Int32.toNatClampNeg (I0 59 1) = (I0 59 1).toInt.toNat := rfl; omega)
  exact W.vret hx hb hr (fun t ht hW9 => ⟨⟨I17, rfl, ⟨hF, hO, hP, ⟨(show dkN [(1, 24)] (I17 59 2) from dkN_sub (by rw [eI17, dkU_ss]; exact dv16) rfl), trivial⟩⟩, dkW_eq ht hW⟩, hS.F ht⟩) hS.2.2 dX0_keep_41
