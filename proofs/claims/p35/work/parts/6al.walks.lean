set_option maxHeartbeats 4000000 in
set_option maxRecDepth 100000 in
theorem fx_X2_sortOf_3 (l : Launch) (g : dkG) (z : Nat) (I0 : dkI) (p0 : Int32) (dp0 : dkN [(0, 255)] p0)  (hO : dkOk I0) : Met l yX2_sortOf wsX2_sortOf (dkR 0) (dkPc g z [.int p0] I0) (dkQi g z (fun r I1 => dkF [] I0 I1 ∧ dkOk I1 ∧ ((dkN [(1, 1)] r ∧ dkN [(104, 104)] p0 ∧ p0.toInt = (104 : Int) ∧ r = 1 ∧ True) ∨ (dkN [(-1000000, -1000000)] r ∧ dkN [(105, 105)] p0 ∧ p0.toInt ≠ (104 : Int) ∧ p0.toInt = (105 : Int) ∧ r = (-1000000) ∧ True) ∨ (dkN [(-1000000, -1000000)] r ∧ dkN [(106, 106)] p0 ∧ p0.toInt ≠ (104 : Int) ∧ p0.toInt ≠ (105 : Int) ∧ p0.toInt = (106 : Int) ∧ r = (-1000000) ∧ True) ∨ (dkN [(4, 4)] r ∧ dkN [(107, 107)] p0 ∧ p0.toInt ≠ (104 : Int) ∧ p0.toInt ≠ (105 : Int) ∧ p0.toInt ≠ (106 : Int) ∧ p0.toInt = (107 : Int) ∧ r = 4 ∧ True) ∨ (dkN [(-1000000, -1000000)] r ∧ dkN [(108, 108)] p0 ∧ p0.toInt ≠ (104 : Int) ∧ p0.toInt ≠ (105 : Int) ∧ p0.toInt ≠ (106 : Int) ∧ p0.toInt ≠ (107 : Int) ∧ p0.toInt = (108 : Int) ∧ r = (-1000000) ∧ True) ∨ (dkN [(-1000000, -1000000)] r ∧ dkN [(109, 109)] p0 ∧ p0.toInt ≠ (104 : Int) ∧ p0.toInt ≠ (105 : Int) ∧ p0.toInt ≠ (106 : Int) ∧ p0.toInt ≠ (107 : Int) ∧ p0.toInt ≠ (108 : Int) ∧ p0.toInt = (109 : Int) ∧ r = (-1000000) ∧ True) ∨ (dkN [(-1000000, -1000000)] r ∧ dkN [(110, 110)] p0 ∧ p0.toInt ≠ (104 : Int) ∧ p0.toInt ≠ (105 : Int) ∧ p0.toInt ≠ (106 : Int) ∧ p0.toInt ≠ (107 : Int) ∧ p0.toInt ≠ (108 : Int) ∧ p0.toInt ≠ (109 : Int) ∧ p0.toInt = (110 : Int) ∧ r = (-1000000) ∧ True) ∨ (dkN [(-1000000, -1000000)] r ∧ dkN [(111, 111)] p0 ∧ p0.toInt ≠ (104 : Int) ∧ p0.toInt ≠ (105 : Int) ∧ p0.toInt ≠ (106 : Int) ∧ p0.toInt ≠ (107 : Int) ∧ p0.toInt ≠ (108 : Int) ∧ p0.toInt ≠ (109 : Int) ∧ p0.toInt ≠ (110 : Int) ∧ p0.toInt = (111 : Int) ∧ r = (-1000000) ∧ True) ∨ (dkN [(3, 3)] r ∧ dkN [(112, 112)] p0 ∧ p0.toInt ≠ (104 : Int) ∧ p0.toInt ≠ (105 : Int) ∧ p0.toInt ≠ (106 : Int) ∧ p0.toInt ≠ (107 : Int) ∧ p0.toInt ≠ (108 : Int) ∧ p0.toInt ≠ (109 : Int) ∧ p0.toInt ≠ (110 : Int) ∧ p0.toInt ≠ (111 : Int) ∧ p0.toInt = (112 : Int) ∧ r = 3 ∧ True) ∨ (dkN [(-1000000, -1000000)] r ∧ dkN [(113, 113)] p0 ∧ p0.toInt ≠ (104 : Int) ∧ p0.toInt ≠ (105 : Int) ∧ p0.toInt ≠ (106 : Int) ∧ p0.toInt ≠ (107 : Int) ∧ p0.toInt ≠ (108 : Int) ∧ p0.toInt ≠ (109 : Int) ∧ p0.toInt ≠ (110 : Int) ∧ p0.toInt ≠ (111 : Int) ∧ p0.toInt ≠ (112 : Int) ∧ p0.toInt = (113 : Int) ∧ r = (-1000000) ∧ True) ∨ (dkN [(-1000000, -1000000)] r ∧ dkN [(114, 114)] p0 ∧ p0.toInt ≠ (104 : Int) ∧ p0.toInt ≠ (105 : Int) ∧ p0.toInt ≠ (106 : Int) ∧ p0.toInt ≠ (107 : Int) ∧ p0.toInt ≠ (108 : Int) ∧ p0.toInt ≠ (109 : Int) ∧ p0.toInt ≠ (110 : Int) ∧ p0.toInt ≠ (111 : Int) ∧ p0.toInt ≠ (112 : Int) ∧ p0.toInt ≠ (113 : Int) ∧ p0.toInt = (114 : Int) ∧ r = (-1000000) ∧ True) ∨ (dkN [(5, 5)] r ∧ dkN [(115, 115)] p0 ∧ p0.toInt ≠ (104 : Int) ∧ p0.toInt ≠ (105 : Int) ∧ p0.toInt ≠ (106 : Int) ∧ p0.toInt ≠ (107 : Int) ∧ p0.toInt ≠ (108 : Int) ∧ p0.toInt ≠ (109 : Int) ∧ p0.toInt ≠ (110 : Int) ∧ p0.toInt ≠ (111 : Int) ∧ p0.toInt ≠ (112 : Int) ∧ p0.toInt ≠ (113 : Int) ∧ p0.toInt ≠ (114 : Int) ∧ p0.toInt = (115 : Int) ∧ r = 5 ∧ True) ∨ (dkN [(2, 2)] r ∧ dkN [(116, 116)] p0 ∧ p0.toInt ≠ (104 : Int) ∧ p0.toInt ≠ (105 : Int) ∧ p0.toInt ≠ (106 : Int) ∧ p0.toInt ≠ (107 : Int) ∧ p0.toInt ≠ (108 : Int) ∧ p0.toInt ≠ (109 : Int) ∧ p0.toInt ≠ (110 : Int) ∧ p0.toInt ≠ (111 : Int) ∧ p0.toInt ≠ (112 : Int) ∧ p0.toInt ≠ (113 : Int) ∧ p0.toInt ≠ (114 : Int) ∧ p0.toInt ≠ (115 : Int) ∧ p0.toInt = (116 : Int) ∧ r = 2 ∧ True) ∨ (dkN [(-1000000, -1000000)] r ∧ dkN [(0, 103), (117, 255)] p0 ∧ p0.toInt ≠ (104 : Int) ∧ p0.toInt ≠ (105 : Int) ∧ p0.toInt ≠ (106 : Int) ∧ p0.toInt ≠ (107 : Int) ∧ p0.toInt ≠ (108 : Int) ∧ p0.toInt ≠ (109 : Int) ∧ p0.toInt ≠ (110 : Int) ∧ p0.toInt ≠ (111 : Int) ∧ p0.toInt ≠ (112 : Int) ∧ p0.toInt ≠ (113 : Int) ∧ p0.toInt ≠ (114 : Int) ∧ p0.toInt ≠ (115 : Int) ∧ p0.toInt ≠ (116 : Int) ∧ r = (-1000000) ∧ True)))) 0 0 (dkA z) := by
  refine Met.ofW (cc := cX2_sortOf) (maxL := 1) (ret := (some .int)) (by decide) rfl ?_
  intro p e s m args below meth c s₁ B hml hv
  obtain ⟨ha, hW, hK, hT⟩ := hv
  have hx := B.exec
  have hb := B.bytes
  have hr := B.returns
  have hts := atoms_spec (ws := wsX2_sortOf) B.pre
  have hown : s.vm.findClass RX2 = some m.cls := findClass_of_methodNamed B.named
  have hlocks := B.notSynchronized
  have hS : va_S (dkA z) s.heap s.heap [] := va_S.rf
  have hF : dkF [] I0 I0 := dkF_rf _ _
  have hl := lv_entry ([.int p0]) (n := 1) (Nat.le_of_ble_eq_true rfl)
  have hgo : entryFrame m args 1 = entryFrame m ([.int p0] : List Value).toArray 1 := by rw [ha]
  rw [hgo, lg_entry_eq]
  generalize (lg_sl ([.int p0]) ++ List.replicate (1 - (lg_sl ([.int p0])).length) Slot.unset).toArray = ls at hl ⊢
  have hl : lv_has ls 1 [(0, .int p0)] := hl
  refine lv_iload_n hx hb dX2_sortOf_0 rfl (lv_at hl 0 rfl) ?_
  by_cases c1 : p0 = 104
  ·
    have qc1 : p0.toInt = 104 := by rw [c1]; rfl
    have q3 : p0.toInt = (104 : Int) := qc1
    have d2 : dkN [(104, 104)] p0 := dkN_lit (104) qc1
    refine lv_tableIn (tgt := 68) hx hb dX2_sortOf_1 (by rw [qc1]; decide) (by rw [qc1]; decide) (by rw [qc1]; rfl) (by decide) ?_
    refine lv_iconst (v := 1) hx hb dX2_sortOf_68 (by decide) ?_
    exact W.iret (v := 1) hx hb hr (fun t ht hW9 => ⟨⟨1, I0, rfl, ⟨hF, hO, Or.inl ⟨dkN_sub (dkN_lit (x := 1) (1) rfl) rfl, dkN_sub d2 rfl, q3, rfl, trivial⟩⟩, dkW_eq ht hW⟩, hS.F ht⟩) hS.2.2 dX2_sortOf_69
  ·
    have q4 : p0.toInt ≠ (104 : Int) := (dk_ne c1)
    have d5 : dkN [(0, 103), (105, 255)] p0 := dkN_ne1 (104) dp0 (dkN_lit (x := 104) (104) rfl) (dk_ne c1) rfl
    by_cases c6 : p0 = 105
    ·
      have qc6 : p0.toInt = 105 := by rw [c6]; rfl
      have q8 : p0.toInt = (105 : Int) := qc6
      have d7 : dkN [(105, 105)] p0 := dkN_lit (105) qc6
      refine lv_tableIn (tgt := 78) hx hb dX2_sortOf_1 (by rw [qc6]; decide) (by rw [qc6]; decide) (by rw [qc6]; rfl) (by decide) ?_
      refine lv_ldc (v := (-1000000)) hx hb hown (hts (.constant RX2 50 (-1000000)) (List.mem_of_getElem? (i := 1) rfl)) dX2_sortOf_78 ?_
      exact W.iret (v := (-1000000)) hx hb hr (fun t ht hW9 => ⟨⟨(-1000000), I0, rfl, ⟨hF, hO, Or.inr (Or.inl ⟨dkN_sub (dkN_lit (x := (-1000000)) (-1000000) rfl) rfl, dkN_sub d7 rfl, q4, q8, rfl, trivial⟩)⟩, dkW_eq ht hW⟩, hS.F ht⟩) hS.2.2 dX2_sortOf_80
    ·
      have q9 : p0.toInt ≠ (105 : Int) := (dk_ne c6)
      have d10 : dkN [(0, 103), (106, 255)] p0 := dkN_ne1 (105) d5 (dkN_lit (x := 105) (105) rfl) (dk_ne c6) rfl
      by_cases c11 : p0 = 106
      ·
        have qc11 : p0.toInt = 106 := by rw [c11]; rfl
        have q13 : p0.toInt = (106 : Int) := qc11
        have d12 : dkN [(106, 106)] p0 := dkN_lit (106) qc11
        refine lv_tableIn (tgt := 78) hx hb dX2_sortOf_1 (by rw [qc11]; decide) (by rw [qc11]; decide) (by rw [qc11]; rfl) (by decide) ?_
        refine lv_ldc (v := (-1000000)) hx hb hown (hts (.constant RX2 50 (-1000000)) (List.mem_of_getElem? (i := 1) rfl)) dX2_sortOf_78 ?_
        exact W.iret (v := (-1000000)) hx hb hr (fun t ht hW9 => ⟨⟨(-1000000), I0, rfl, ⟨hF, hO, Or.inr (Or.inr (Or.inl ⟨dkN_sub (dkN_lit (x := (-1000000)) (-1000000) rfl) rfl, dkN_sub d12 rfl, q4, q9, q13, rfl, trivial⟩))⟩, dkW_eq ht hW⟩, hS.F ht⟩) hS.2.2 dX2_sortOf_80
      ·
        have q14 : p0.toInt ≠ (106 : Int) := (dk_ne c11)
        have d15 : dkN [(0, 103), (107, 255)] p0 := dkN_ne1 (106) d10 (dkN_lit (x := 106) (106) rfl) (dk_ne c11) rfl
        by_cases c16 : p0 = 107
        ·
          have qc16 : p0.toInt = 107 := by rw [c16]; rfl
          have q18 : p0.toInt = (107 : Int) := qc16
          have d17 : dkN [(107, 107)] p0 := dkN_lit (107) qc16
          refine lv_tableIn (tgt := 74) hx hb dX2_sortOf_1 (by rw [qc16]; decide) (by rw [qc16]; decide) (by rw [qc16]; rfl) (by decide) ?_
          refine lv_iconst (v := 4) hx hb dX2_sortOf_74 (by decide) ?_
          exact W.iret (v := 4) hx hb hr (fun t ht hW9 => ⟨⟨4, I0, rfl, ⟨hF, hO, Or.inr (Or.inr (Or.inr (Or.inl ⟨dkN_sub (dkN_lit (x := 4) (4) rfl) rfl, dkN_sub d17 rfl, q4, q9, q14, q18, rfl, trivial⟩)))⟩, dkW_eq ht hW⟩, hS.F ht⟩) hS.2.2 dX2_sortOf_75
        ·
          have q19 : p0.toInt ≠ (107 : Int) := (dk_ne c16)
          have d20 : dkN [(0, 103), (108, 255)] p0 := dkN_ne1 (107) d15 (dkN_lit (x := 107) (107) rfl) (dk_ne c16) rfl
          by_cases c21 : p0 = 108
          ·
            have qc21 : p0.toInt = 108 := by rw [c21]; rfl
            have q23 : p0.toInt = (108 : Int) := qc21
            have d22 : dkN [(108, 108)] p0 := dkN_lit (108) qc21
            refine lv_tableIn (tgt := 78) hx hb dX2_sortOf_1 (by rw [qc21]; decide) (by rw [qc21]; decide) (by rw [qc21]; rfl) (by decide) ?_
            refine lv_ldc (v := (-1000000)) hx hb hown (hts (.constant RX2 50 (-1000000)) (List.mem_of_getElem? (i := 1) rfl)) dX2_sortOf_78 ?_
            exact W.iret (v := (-1000000)) hx hb hr (fun t ht hW9 => ⟨⟨(-1000000), I0, rfl, ⟨hF, hO, Or.inr (Or.inr (Or.inr (Or.inr (Or.inl ⟨dkN_sub (dkN_lit (x := (-1000000)) (-1000000) rfl) rfl, dkN_sub d22 rfl, q4, q9, q14, q19, q23, rfl, trivial⟩))))⟩, dkW_eq ht hW⟩, hS.F ht⟩) hS.2.2 dX2_sortOf_80
          ·
            have q24 : p0.toInt ≠ (108 : Int) := (dk_ne c21)
            have d25 : dkN [(0, 103), (109, 255)] p0 := dkN_ne1 (108) d20 (dkN_lit (x := 108) (108) rfl) (dk_ne c21) rfl
            by_cases c26 : p0 = 109
            ·
              have qc26 : p0.toInt = 109 := by rw [c26]; rfl
              have q28 : p0.toInt = (109 : Int) := qc26
              have d27 : dkN [(109, 109)] p0 := dkN_lit (109) qc26
              refine lv_tableIn (tgt := 78) hx hb dX2_sortOf_1 (by rw [qc26]; decide) (by rw [qc26]; decide) (by rw [qc26]; rfl) (by decide) ?_
              refine lv_ldc (v := (-1000000)) hx hb hown (hts (.constant RX2 50 (-1000000)) (List.mem_of_getElem? (i := 1) rfl)) dX2_sortOf_78 ?_
              exact W.iret (v := (-1000000)) hx hb hr (fun t ht hW9 => ⟨⟨(-1000000), I0, rfl, ⟨hF, hO, Or.inr (Or.inr (Or.inr (Or.inr (Or.inr (Or.inl ⟨dkN_sub (dkN_lit (x := (-1000000)) (-1000000) rfl) rfl, dkN_sub d27 rfl, q4, q9, q14, q19, q24, q28, rfl, trivial⟩)))))⟩, dkW_eq ht hW⟩, hS.F ht⟩) hS.2.2 dX2_sortOf_80
            ·
              have q29 : p0.toInt ≠ (109 : Int) := (dk_ne c26)
              have d30 : dkN [(0, 103), (110, 255)] p0 := dkN_ne1 (109) d25 (dkN_lit (x := 109) (109) rfl) (dk_ne c26) rfl
              by_cases c31 : p0 = 110
              ·
                have qc31 : p0.toInt = 110 := by rw [c31]; rfl
                have q33 : p0.toInt = (110 : Int) := qc31
                have d32 : dkN [(110, 110)] p0 := dkN_lit (110) qc31
                refine lv_tableIn (tgt := 78) hx hb dX2_sortOf_1 (by rw [qc31]; decide) (by rw [qc31]; decide) (by rw [qc31]; rfl) (by decide) ?_
                refine lv_ldc (v := (-1000000)) hx hb hown (hts (.constant RX2 50 (-1000000)) (List.mem_of_getElem? (i := 1) rfl)) dX2_sortOf_78 ?_
                exact W.iret (v := (-1000000)) hx hb hr (fun t ht hW9 => ⟨⟨(-1000000), I0, rfl, ⟨hF, hO, Or.inr (Or.inr (Or.inr (Or.inr (Or.inr (Or.inr (Or.inl ⟨dkN_sub (dkN_lit (x := (-1000000)) (-1000000) rfl) rfl, dkN_sub d32 rfl, q4, q9, q14, q19, q24, q29, q33, rfl, trivial⟩))))))⟩, dkW_eq ht hW⟩, hS.F ht⟩) hS.2.2 dX2_sortOf_80
              ·
                have q34 : p0.toInt ≠ (110 : Int) := (dk_ne c31)
                have d35 : dkN [(0, 103), (111, 255)] p0 := dkN_ne1 (110) d30 (dkN_lit (x := 110) (110) rfl) (dk_ne c31) rfl
                by_cases c36 : p0 = 111
                ·
                  have qc36 : p0.toInt = 111 := by rw [c36]; rfl
                  have q38 : p0.toInt = (111 : Int) := qc36
                  have d37 : dkN [(111, 111)] p0 := dkN_lit (111) qc36
                  refine lv_tableIn (tgt := 78) hx hb dX2_sortOf_1 (by rw [qc36]; decide) (by rw [qc36]; decide) (by rw [qc36]; rfl) (by decide) ?_
                  refine lv_ldc (v := (-1000000)) hx hb hown (hts (.constant RX2 50 (-1000000)) (List.mem_of_getElem? (i := 1) rfl)) dX2_sortOf_78 ?_
                  exact W.iret (v := (-1000000)) hx hb hr (fun t ht hW9 => ⟨⟨(-1000000), I0, rfl, ⟨hF, hO, Or.inr (Or.inr (Or.inr (Or.inr (Or.inr (Or.inr (Or.inr (Or.inl ⟨dkN_sub (dkN_lit (x := (-1000000)) (-1000000) rfl) rfl, dkN_sub d37 rfl, q4, q9, q14, q19, q24, q29, q34, q38, rfl, trivial⟩)))))))⟩, dkW_eq ht hW⟩, hS.F ht⟩) hS.2.2 dX2_sortOf_80
                ·
                  have q39 : p0.toInt ≠ (111 : Int) := (dk_ne c36)
                  have d40 : dkN [(0, 103), (112, 255)] p0 := dkN_ne1 (111) d35 (dkN_lit (x := 111) (111) rfl) (dk_ne c36) rfl
                  by_cases c41 : p0 = 112
                  ·
                    have qc41 : p0.toInt = 112 := by rw [c41]; rfl
                    have q43 : p0.toInt = (112 : Int) := qc41
                    have d42 : dkN [(112, 112)] p0 := dkN_lit (112) qc41
                    refine lv_tableIn (tgt := 72) hx hb dX2_sortOf_1 (by rw [qc41]; decide) (by rw [qc41]; decide) (by rw [qc41]; rfl) (by decide) ?_
                    refine lv_iconst (v := 3) hx hb dX2_sortOf_72 (by decide) ?_
                    exact W.iret (v := 3) hx hb hr (fun t ht hW9 => ⟨⟨3, I0, rfl, ⟨hF, hO, Or.inr (Or.inr (Or.inr (Or.inr (Or.inr (Or.inr (Or.inr (Or.inr (Or.inl ⟨dkN_sub (dkN_lit (x := 3) (3) rfl) rfl, dkN_sub d42 rfl, q4, q9, q14, q19, q24, q29, q34, q39, q43, rfl, trivial⟩))))))))⟩, dkW_eq ht hW⟩, hS.F ht⟩) hS.2.2 dX2_sortOf_73
                  ·
                    have q44 : p0.toInt ≠ (112 : Int) := (dk_ne c41)
                    have d45 : dkN [(0, 103), (113, 255)] p0 := dkN_ne1 (112) d40 (dkN_lit (x := 112) (112) rfl) (dk_ne c41) rfl
                    by_cases c46 : p0 = 113
                    ·
                      have qc46 : p0.toInt = 113 := by rw [c46]; rfl
                      have q48 : p0.toInt = (113 : Int) := qc46
                      have d47 : dkN [(113, 113)] p0 := dkN_lit (113) qc46
                      refine lv_tableIn (tgt := 78) hx hb dX2_sortOf_1 (by rw [qc46]; decide) (by rw [qc46]; decide) (by rw [qc46]; rfl) (by decide) ?_
                      refine lv_ldc (v := (-1000000)) hx hb hown (hts (.constant RX2 50 (-1000000)) (List.mem_of_getElem? (i := 1) rfl)) dX2_sortOf_78 ?_
                      exact W.iret (v := (-1000000)) hx hb hr (fun t ht hW9 => ⟨⟨(-1000000), I0, rfl, ⟨hF, hO, Or.inr (Or.inr (Or.inr (Or.inr (Or.inr (Or.inr (Or.inr (Or.inr (Or.inr (Or.inl ⟨dkN_sub (dkN_lit (x := (-1000000)) (-1000000) rfl) rfl, dkN_sub d47 rfl, q4, q9, q14, q19, q24, q29, q34, q39, q44, q48, rfl, trivial⟩)))))))))⟩, dkW_eq ht hW⟩, hS.F ht⟩) hS.2.2 dX2_sortOf_80
                    ·
                      have q49 : p0.toInt ≠ (113 : Int) := (dk_ne c46)
                      have d50 : dkN [(0, 103), (114, 255)] p0 := dkN_ne1 (113) d45 (dkN_lit (x := 113) (113) rfl) (dk_ne c46) rfl
                      by_cases c51 : p0 = 114
                      ·
                        have qc51 : p0.toInt = 114 := by rw [c51]; rfl
                        have q53 : p0.toInt = (114 : Int) := qc51
                        have d52 : dkN [(114, 114)] p0 := dkN_lit (114) qc51
                        refine lv_tableIn (tgt := 78) hx hb dX2_sortOf_1 (by rw [qc51]; decide) (by rw [qc51]; decide) (by rw [qc51]; rfl) (by decide) ?_
                        refine lv_ldc (v := (-1000000)) hx hb hown (hts (.constant RX2 50 (-1000000)) (List.mem_of_getElem? (i := 1) rfl)) dX2_sortOf_78 ?_
                        exact W.iret (v := (-1000000)) hx hb hr (fun t ht hW9 => ⟨⟨(-1000000), I0, rfl, ⟨hF, hO, Or.inr (Or.inr (Or.inr (Or.inr (Or.inr (Or.inr (Or.inr (Or.inr (Or.inr (Or.inr (Or.inl ⟨dkN_sub (dkN_lit (x := (-1000000)) (-1000000) rfl) rfl, dkN_sub d52 rfl, q4, q9, q14, q19, q24, q29, q34, q39, q44, q49, q53, rfl, trivial⟩))))))))))⟩, dkW_eq ht hW⟩, hS.F ht⟩) hS.2.2 dX2_sortOf_80
                      ·
                        have q54 : p0.toInt ≠ (114 : Int) := (dk_ne c51)
                        have d55 : dkN [(0, 103), (115, 255)] p0 := dkN_ne1 (114) d50 (dkN_lit (x := 114) (114) rfl) (dk_ne c51) rfl
                        by_cases c56 : p0 = 115
                        ·
                          have qc56 : p0.toInt = 115 := by rw [c56]; rfl
                          have q58 : p0.toInt = (115 : Int) := qc56
                          have d57 : dkN [(115, 115)] p0 := dkN_lit (115) qc56
                          refine lv_tableIn (tgt := 76) hx hb dX2_sortOf_1 (by rw [qc56]; decide) (by rw [qc56]; decide) (by rw [qc56]; rfl) (by decide) ?_
                          refine lv_iconst (v := 5) hx hb dX2_sortOf_76 (by decide) ?_
                          exact W.iret (v := 5) hx hb hr (fun t ht hW9 => ⟨⟨5, I0, rfl, ⟨hF, hO, Or.inr (Or.inr (Or.inr (Or.inr (Or.inr (Or.inr (Or.inr (Or.inr (Or.inr (Or.inr (Or.inr (Or.inl ⟨dkN_sub (dkN_lit (x := 5) (5) rfl) rfl, dkN_sub d57 rfl, q4, q9, q14, q19, q24, q29, q34, q39, q44, q49, q54, q58, rfl, trivial⟩)))))))))))⟩, dkW_eq ht hW⟩, hS.F ht⟩) hS.2.2 dX2_sortOf_77
                        ·
                          have q59 : p0.toInt ≠ (115 : Int) := (dk_ne c56)
                          have d60 : dkN [(0, 103), (116, 255)] p0 := dkN_ne1 (115) d55 (dkN_lit (x := 115) (115) rfl) (dk_ne c56) rfl
                          by_cases c61 : p0 = 116
                          ·
                            have qc61 : p0.toInt = 116 := by rw [c61]; rfl
                            have q63 : p0.toInt = (116 : Int) := qc61
                            have d62 : dkN [(116, 116)] p0 := dkN_lit (116) qc61
                            refine lv_tableIn (tgt := 70) hx hb dX2_sortOf_1 (by rw [qc61]; decide) (by rw [qc61]; decide) (by rw [qc61]; rfl) (by decide) ?_
                            refine lv_iconst (v := 2) hx hb dX2_sortOf_70 (by decide) ?_
                            exact W.iret (v := 2) hx hb hr (fun t ht hW9 => ⟨⟨2, I0, rfl, ⟨hF, hO, Or.inr (Or.inr (Or.inr (Or.inr (Or.inr (Or.inr (Or.inr (Or.inr (Or.inr (Or.inr (Or.inr (Or.inr (Or.inl ⟨dkN_sub (dkN_lit (x := 2) (2) rfl) rfl, dkN_sub d62 rfl, q4, q9, q14, q19, q24, q29, q34, q39, q44, q49, q54, q59, q63, rfl, trivial⟩))))))))))))⟩, dkW_eq ht hW⟩, hS.F ht⟩) hS.2.2 dX2_sortOf_71
                          ·
                            have q64 : p0.toInt ≠ (116 : Int) := (dk_ne c61)
                            have d65 : dkN [(0, 103), (117, 255)] p0 := dkN_ne1 (116) d60 (dkN_lit (x := 116) (116) rfl) (dk_ne c61) rfl
                            refine lv_tableOut (tgt := 78) hx hb dX2_sortOf_1 (dkN_out d65 rfl) (by decide) ?_
                            refine lv_ldc (v := (-1000000)) hx hb hown (hts (.constant RX2 50 (-1000000)) (List.mem_of_getElem? (i := 1) rfl)) dX2_sortOf_78 ?_
                            exact W.iret (v := (-1000000)) hx hb hr (fun t ht hW9 => ⟨⟨(-1000000), I0, rfl, ⟨hF, hO, Or.inr (Or.inr (Or.inr (Or.inr (Or.inr (Or.inr (Or.inr (Or.inr (Or.inr (Or.inr (Or.inr (Or.inr (Or.inr (⟨dkN_sub (dkN_lit (x := (-1000000)) (-1000000) rfl) rfl, dkN_sub d65 rfl, q4, q9, q14, q19, q24, q29, q34, q39, q44, q49, q54, q59, q64, rfl, trivial⟩)))))))))))))⟩, dkW_eq ht hW⟩, hS.F ht⟩) hS.2.2 dX2_sortOf_80
set_option maxHeartbeats 4000000 in
set_option maxRecDepth 100000 in
theorem h_X2_sortOf_1 (l : Launch) (g : dkG) (z : Nat) (I0 : dkI) (p0 : Int32) (dp0 : dkN [(0, 255)] p0) (hO : dkOk I0) : Met l yX2_sortOf wsX2_sortOf (dkR 0) (dkPc g z [.int p0] I0) (dkQi g z (fun r I1 => dkF [] I0 I1 ∧ dkOk I1 ∧ ((dkN [(1, 5)] r ∧ dkSo p0.toInt ≠ -1000000 ∧ r = dkSo p0.toInt ∧ True) ∨ (dkN [(-1000000, -1000000)] r ∧ dkSo p0.toInt = -1000000 ∧ r = (-1000000) ∧ True)))) 0 0 (dkA z) := by
  refine dk_weakI (fx_X2_sortOf_3 l g z I0 p0 dp0 hO) (fun r I1 h => ?_)
  obtain ⟨hF, hO1, hc⟩ := h
  refine ⟨hF, hO1, ?_⟩
  rcases hc with ⟨d, P0, u0, ER, -⟩ | ⟨d, P0, u0, u1, ER, -⟩ | ⟨d, P0, u0, u1, u2, ER, -⟩ | ⟨d, P0, u0, u1, u2, u3, ER, -⟩ | ⟨d, P0, u0, u1, u2, u3, u4, ER, -⟩ | ⟨d, P0, u0, u1, u2, u3, u4, u5, ER, -⟩ | ⟨d, P0, u0, u1, u2, u3, u4, u5, u6, ER, -⟩ | ⟨d, P0, u0, u1, u2, u3, u4, u5, u6, u7, ER, -⟩ | ⟨d, P0, u0, u1, u2, u3, u4, u5, u6, u7, u8, ER, -⟩ | ⟨d, P0, u0, u1, u2, u3, u4, u5, u6, u7, u8, u9, ER, -⟩ | ⟨d, P0, u0, u1, u2, u3, u4, u5, u6, u7, u8, u9, u10, ER, -⟩ | ⟨d, P0, u0, u1, u2, u3, u4, u5, u6, u7, u8, u9, u10, u11, ER, -⟩ | ⟨d, P0, u0, u1, u2, u3, u4, u5, u6, u7, u8, u9, u10, u11, u12, ER, -⟩ | ⟨d, P0, u0, u1, u2, u3, u4, u5, u6, u7, u8, u9, u10, u11, u12, ER, -⟩
  ·
    have e : dkSo p0.toInt = 1 := by first | (rw [show p0.toInt = _ from u0]; rfl) | (unfold dkSo; simp only [*]; rfl)
    exact Or.inl ⟨dkN_sub d rfl, (by rw [e]; decide), ER.trans e.symm, trivial⟩
  ·
    have e : dkSo p0.toInt = -1000000 := by unfold dkSo; rw [if_neg (by omega), if_neg (by omega), if_neg (by omega), if_neg (by omega), if_neg (by omega)]
    exact Or.inr ⟨dkN_sub d rfl, e, ER, trivial⟩
  ·
    have e : dkSo p0.toInt = -1000000 := by unfold dkSo; rw [if_neg (by omega), if_neg (by omega), if_neg (by omega), if_neg (by omega), if_neg (by omega)]
    exact Or.inr ⟨dkN_sub d rfl, e, ER, trivial⟩
  ·
    have e : dkSo p0.toInt = 4 := by first | (rw [show p0.toInt = _ from u0]; rfl) | (unfold dkSo; simp only [*]; rfl)
    exact Or.inl ⟨dkN_sub d rfl, (by rw [e]; decide), ER.trans e.symm, trivial⟩
  ·
    have e : dkSo p0.toInt = -1000000 := by unfold dkSo; rw [if_neg (by omega), if_neg (by omega), if_neg (by omega), if_neg (by omega), if_neg (by omega)]
    exact Or.inr ⟨dkN_sub d rfl, e, ER, trivial⟩
  ·
    have e : dkSo p0.toInt = -1000000 := by unfold dkSo; rw [if_neg (by omega), if_neg (by omega), if_neg (by omega), if_neg (by omega), if_neg (by omega)]
    exact Or.inr ⟨dkN_sub d rfl, e, ER, trivial⟩
  ·
    have e : dkSo p0.toInt = -1000000 := by unfold dkSo; rw [if_neg (by omega), if_neg (by omega), if_neg (by omega), if_neg (by omega), if_neg (by omega)]
    exact Or.inr ⟨dkN_sub d rfl, e, ER, trivial⟩
  ·
    have e : dkSo p0.toInt = -1000000 := by unfold dkSo; rw [if_neg (by omega), if_neg (by omega), if_neg (by omega), if_neg (by omega), if_neg (by omega)]
    exact Or.inr ⟨dkN_sub d rfl, e, ER, trivial⟩
  ·
    have e : dkSo p0.toInt = 3 := by first | (rw [show p0.toInt = _ from u0]; rfl) | (unfold dkSo; simp only [*]; rfl)
    exact Or.inl ⟨dkN_sub d rfl, (by rw [e]; decide), ER.trans e.symm, trivial⟩
  ·
    have e : dkSo p0.toInt = -1000000 := by unfold dkSo; rw [if_neg (by omega), if_neg (by omega), if_neg (by omega), if_neg (by omega), if_neg (by omega)]
    exact Or.inr ⟨dkN_sub d rfl, e, ER, trivial⟩
  ·
    have e : dkSo p0.toInt = -1000000 := by unfold dkSo; rw [if_neg (by omega), if_neg (by omega), if_neg (by omega), if_neg (by omega), if_neg (by omega)]
    exact Or.inr ⟨dkN_sub d rfl, e, ER, trivial⟩
  ·
    have e : dkSo p0.toInt = 5 := by first | (rw [show p0.toInt = _ from u0]; rfl) | (unfold dkSo; simp only [*]; rfl)
    exact Or.inl ⟨dkN_sub d rfl, (by rw [e]; decide), ER.trans e.symm, trivial⟩
  ·
    have e : dkSo p0.toInt = 2 := by first | (rw [show p0.toInt = _ from u0]; rfl) | (unfold dkSo; simp only [*]; rfl)
    exact Or.inl ⟨dkN_sub d rfl, (by rw [e]; decide), ER.trans e.symm, trivial⟩
  ·
    have e : dkSo p0.toInt = -1000000 := by unfold dkSo; rw [if_neg (by omega), if_neg (by omega), if_neg (by omega), if_neg (by omega), if_neg (by omega)]
    exact Or.inr ⟨dkN_sub d rfl, e, ER, trivial⟩
set_option maxHeartbeats 4000000 in
set_option maxRecDepth 100000 in
theorem fx_X4_kennel_1 (l : Launch) (g : dkG) (z : Nat) (I0 : dkI) (t0 : Nat) (ht0 : dkT t0) (p0 : Int32) (p1 : Int32) (dp0 : dkN [(1, 5)] p0) (dp1 : dkN [(0, 8)] p1)  (hO : dkOk I0) : Met l yX4_kennel wsX4_kennel (dkR 1) (dkPc g z [.ref (z + t0), .int p0, .int p1] I0) (dkQv g z (fun I1 => dkF [(t0, t0, 11, 11), (t0, t0, 15, 15), (t0 + 7, t0 + 7, 0, 5), (t0 + 8, t0 + 8, 0, 5), (t0 + 9, t0 + 9, 0, 5)] I0 I1 ∧ dkOk I1 ∧ ((dkN [(1, 6)] (I1 t0 11) ∧ dkN [(1, 63)] (I1 t0 15) ∧ (I0 t0 11).toInt + 1 ≤ (6 : Int) ∧ ((I0 t0 11) + (1 : Int32)).toInt = (I0 t0 11).toInt + (1 : Int) ∧ I1 t0 0 = I0 t0 0 ∧ I1 t0 4 = I0 t0 4 ∧ I1 t0 11 = (I0 t0 11) + (1 : Int32) ∧ I1 (t0 + 7)  = dkV (I0 (t0 + 7)) (Int32.toNatClampNeg (I0 t0 11)) p0 ∧ True) ∨ (dkN [(6, 6)] (I1 t0 11) ∧ (6 : Int) + 0 ≤ (I0 t0 11).toInt ∧ I1 t0 0 = I0 t0 0 ∧ I1 t0 4 = I0 t0 4 ∧ I1 t0 11 = I0 t0 11 ∧ I1 (t0 + 7)  = I0 (t0 + 7) ∧ True)))) 0 0 (dkA z) := by
  refine Met.ofW (cc := cX4_kennel) (maxL := 3) (ret := none) (by decide) rfl ?_
  intro p e s m args below meth c s₁ B hml hv
  obtain ⟨ha, hW, hK, hT⟩ := hv
  have hx := B.exec
  have hb := B.bytes
  have hr := B.returns
  have hts := atoms_spec (ws := wsX4_kennel) B.pre
  have hown : s.vm.findClass RX4 = some m.cls := findClass_of_methodNamed B.named
  have hlocks := B.notSynchronized
  have hS : va_S (dkA z) s.heap s.heap [] := va_S.rf
  have hF : dkF [(t0, t0, 11, 11), (t0, t0, 15, 15), (t0 + 7, t0 + 7, 0, 5), (t0 + 8, t0 + 8, 0, 5), (t0 + 9, t0 + 9, 0, 5)] I0 I0 := dkF_rf _ _
  have hl := lv_entry ([.ref (z + t0), .int p0, .int p1]) (n := 3) (Nat.le_of_ble_eq_true rfl)
  have hgo : entryFrame m args 3 = entryFrame m ([.ref (z + t0), .int p0, .int p1] : List Value).toArray 3 := by rw [ha]
  rw [hgo, lg_entry_eq]
  generalize (lg_sl ([.ref (z + t0), .int p0, .int p1]) ++ List.replicate (3 - (lg_sl ([.ref (z + t0), .int p0, .int p1])).length) Slot.unset).toArray = ls at hl ⊢
  have hl : lv_has ls 3 [(0, .ref (z + t0)), (1, .int p0), (2, .int p1)] := hl
  refine lv_aload_n hx hb dX4_kennel_0 rfl (lv_at hl 0 rfl) ?_
  refine dk_get (k := t0) hx hb hts iX4_kennel_4 hown hK (dk_aT0 ht0 hW) rfl 11 (by decide) (hts (.fieldLink RX4 58 "DogKings$Town" "dogs" "I") (List.mem_of_getElem? (i := 1) rfl)) rfl dX4_kennel_1 ?_
  refine lv_topi (fun v1 ev1 => ?_)
  have dv1 : dkN [(0, 6)] v1 := by rw [ev1]; exact (dkO_at hO ht0 (c := 0) (by decide) 11)
  have xv1 : v1 = I0 t0 11 := ev1.trans rfl
  refine lv_bipush (v := 6) hx hb dX4_kennel_4 (by decide) ?_
  refine lv_icmp_lt (tgt := 10) hx hb dX4_kennel_6 (by decide) (fun c2 => ?_) (fun c2 => ?_)
  ·
    have q3 : (I0 t0 11).toInt + 1 ≤ (6 : Int) := by first | (rw [← xv1]; exact (dkc_lt c2)) | (subst xv1; exact (dkc_lt c2))
    have d4 : dkN [(0, 5)] v1 := dkN_le1 1 dv1 (dkN_lit (x := 6) (6) rfl) (dkc_lt c2) rfl
    have f5 : dkN [(0, 5)] (I0 t0 11) := by rw [← ev1]; exact d4
    refine lv_aload_n hx hb dX4_kennel_10 rfl (lv_at hl 0 rfl) ?_
    refine dk_get (k := t0) hx hb hts iX4_kennel_4 hown hK (dk_aT0 ht0 hW) rfl 12 (by decide) (hts (.fieldLink RX4 30 "DogKings$Town" "sort" "[I") (List.mem_of_getElem? (i := 2) rfl)) rfl dX4_kennel_11 ?_
    refine lv_aload_n hx hb dX4_kennel_14 rfl (lv_at hl 0 rfl) ?_
    refine dk_get (k := t0) hx hb hts iX4_kennel_4 hown hK (dk_aT0 ht0 hW) rfl 11 (by decide) (hts (.fieldLink RX4 58 "DogKings$Town" "dogs" "I") (List.mem_of_getElem? (i := 1) rfl)) rfl dX4_kennel_15 ?_
    refine lv_topi (fun v6 ev6 => ?_)
    have dv6 : dkN [(0, 5)] v6 := by rw [ev6]; exact f5
    have xv6 : v6 = I0 t0 11 := ev6.trans rfl
    refine lv_iload_n hx hb dX4_kennel_18 rfl (lv_at hl 1 rfl) ?_
    refine dk_ist (k := (t0 + 7)) hx hb hK hW (fun _ => dkC_T g z ht0 (c := 7) (by decide) _) (by have := dkT_lt ht0; omega) hS (dkN_in (n := 6) dv6 rfl) dX4_kennel_19 (fun I7 H7 L7 eI7 hW hS => ?_)
    have hO := dkO_setT hO ht0 (c := 7) (by decide) eI7 (dkN_sub dp0 rfl)
    have hF := dkF_set hF eI7 (dkIn_atv (i := 2) rfl (Nat.le_refl _) (Nat.le_refl _) dv6 rfl)
    refine lv_aload_n hx hb dX4_kennel_20 rfl (lv_at hl 0 rfl) ?_
    refine dk_get (k := t0) hx hb hts iX4_kennel_4 hown hK (dk_aT0 ht0 hW) rfl 13 (by decide) (hts (.fieldLink RX4 33 "DogKings$Town" "dogHome" "[I") (List.mem_of_getElem? (i := 3) rfl)) rfl dX4_kennel_21 ?_
    refine lv_aload_n hx hb dX4_kennel_24 rfl (lv_at hl 0 rfl) ?_
    refine dk_get (k := t0) hx hb hts iX4_kennel_4 hown hK (dk_aT0 ht0 hW) rfl 11 (by decide) (hts (.fieldLink RX4 58 "DogKings$Town" "dogs" "I") (List.mem_of_getElem? (i := 1) rfl)) rfl dX4_kennel_25 ?_
    refine lv_topi (fun v8 ev8 => ?_)
    have dv8 : dkN [(0, 5)] v8 := by rw [ev8]; exact (by rw [eI7, dkU_n (by omega)]; exact f5)
    have xv8 : v8 = I0 t0 11 := ev8.trans ((by rw [eI7, dkU_n (by omega)] : I7 t0 11 = _).trans rfl)
    refine lv_iload_n hx hb dX4_kennel_28 rfl (lv_at hl 2 rfl) ?_
    refine dk_ist (k := (t0 + 8)) hx hb hK hW (fun _ => dkC_T g z ht0 (c := 8) (by decide) _) (by have := dkT_lt ht0; omega) hS (dkN_in (n := 6) dv8 rfl) dX4_kennel_29 (fun I9 H9 L9 eI9 hW hS => ?_)
    have hO := dkO_setT hO ht0 (c := 8) (by decide) eI9 (dkN_sub dp1 rfl)
    have hF := dkF_set hF eI9 (dkIn_atv (i := 3) rfl (Nat.le_refl _) (Nat.le_refl _) dv8 rfl)
    refine lv_aload_n hx hb dX4_kennel_30 rfl (lv_at hl 0 rfl) ?_
    refine dk_get (k := t0) hx hb hts iX4_kennel_4 hown hK (dk_aT0 ht0 hW) rfl 14 (by decide) (hts (.fieldLink RX4 36 "DogKings$Town" "dogAt" "[I") (List.mem_of_getElem? (i := 4) rfl)) rfl dX4_kennel_31 ?_
    refine lv_aload_n hx hb dX4_kennel_34 rfl (lv_at hl 0 rfl) ?_
    refine dk_get (k := t0) hx hb hts iX4_kennel_4 hown hK (dk_aT0 ht0 hW) rfl 11 (by decide) (hts (.fieldLink RX4 58 "DogKings$Town" "dogs" "I") (List.mem_of_getElem? (i := 1) rfl)) rfl dX4_kennel_35 ?_
    refine lv_topi (fun v10 ev10 => ?_)
    have dv10 : dkN [(0, 5)] v10 := by rw [ev10]; exact (by rw [eI9, dkU_n (by omega)]; exact (by rw [eI7, dkU_n (by omega)]; exact f5))
    have xv10 : v10 = I0 t0 11 := ev10.trans ((by rw [eI9, dkU_n (by omega)] : I9 t0 11 = _).trans ((by rw [eI7, dkU_n (by omega)] : I7 t0 11 = _).trans rfl))
    refine lv_iload_n hx hb dX4_kennel_38 rfl (lv_at hl 2 rfl) ?_
    refine dk_ist (k := (t0 + 9)) hx hb hK hW (fun _ => dkC_T g z ht0 (c := 9) (by decide) _) (by have := dkT_lt ht0; omega) hS (dkN_in (n := 6) dv10 rfl) dX4_kennel_39 (fun I11 H11 L11 eI11 hW hS => ?_)
    have hO := dkO_setT hO ht0 (c := 9) (by decide) eI11 (dkN_sub dp1 rfl)
    have hF := dkF_set hF eI11 (dkIn_atv (i := 4) rfl (Nat.le_refl _) (Nat.le_refl _) dv10 rfl)
    refine lv_aload_n hx hb dX4_kennel_40 rfl (lv_at hl 0 rfl) ?_
    refine lv_dup hx hb dX4_kennel_41 rfl ?_
    refine dk_get (k := t0) hx hb hts iX4_kennel_4 hown hK (dk_aT0 ht0 hW) rfl 11 (by decide) (hts (.fieldLink RX4 58 "DogKings$Town" "dogs" "I") (List.mem_of_getElem? (i := 1) rfl)) rfl dX4_kennel_42 ?_
    refine lv_topi (fun v12 ev12 => ?_)
    have dv12 : dkN [(0, 5)] v12 := by rw [ev12]; exact (by rw [eI11, dkU_n (by omega)]; exact (by rw [eI9, dkU_n (by omega)]; exact (by rw [eI7, dkU_n (by omega)]; exact f5)))
    have xv12 : v12 = I0 t0 11 := ev12.trans ((by rw [eI11, dkU_n (by omega)] : I11 t0 11 = _).trans ((by rw [eI9, dkU_n (by omega)] : I9 t0 11 = _).trans ((by rw [eI7, dkU_n (by omega)] : I7 t0 11 = _).trans rfl)))
    refine lv_iconst (v := 1) hx hb dX4_kennel_45 (by decide) ?_
    refine lv_iadd hx hb dX4_kennel_46 ?_
    refine lv_topi (fun v13 ev13 => ?_)
    have dv13 : dkN [(1, 6)] v13 := by rw [ev13]; exact dkN_add dv12 (dkN_lit (x := 1) (1) rfl) rfl
    have xv13 : v13 = (I0 t0 11) + (1 : Int32) := by rw [ev13, xv12]
    have q14 : ((I0 t0 11) + (1 : Int32)).toInt = (I0 t0 11).toInt + (1 : Int) := by first | (rw [← xv13, ← xv12]; exact (by rw [ev13]; exact dk_addE dv12 (dkN_lit (x := 1) (1) rfl) rfl)) | (subst xv13 xv12; exact (by rw [ev13]; exact dk_addE dv12 (dkN_lit (x := 1) (1) rfl) rfl))
    refine dk_put (k := t0) hx hb hts iX4_kennel_4 tyX4 tyX4_ok nmX4 hown hK hW (dk_aT0 ht0 hW) hS rfl 11 (by decide) (hts (.fieldLink RX4 58 "DogKings$Town" "dogs" "I") (List.mem_of_getElem? (i := 1) rfl)) rfl rfl (Nat.le_of_ble_eq_true rfl) (dk_eT11 ht0) dX4_kennel_47 (fun I15 H15 L15 eI15 hW hS => ?_)
    have eI15 : I15 = dkU I11 t0 11 v13 := eI15
    have hO := dkO_setT hO ht0 (c := 0) (by decide) eI15 (dkN_sub dv13 rfl)
    have hF := dkF_set hF eI15 (dkIn_at (i := 0) rfl (Nat.le_refl _) (Nat.le_refl _) (by decide) (by decide))
    refine lv_aload_n hx hb dX4_kennel_50 rfl (lv_at hl 0 rfl) ?_
    refine lv_aload_n hx hb dX4_kennel_51 rfl (lv_at hl 0 rfl) ?_
    refine dk_get (k := t0) hx hb hts iX4_kennel_4 hown hK (dk_aT0 ht0 hW) rfl 11 (by decide) (hts (.fieldLink RX4 58 "DogKings$Town" "dogs" "I") (List.mem_of_getElem? (i := 1) rfl)) rfl dX4_kennel_52 ?_
    refine lv_topi (fun v16 ev16 => ?_)
    have dv16 : dkN [(1, 6)] v16 := by rw [ev16]; exact (by rw [eI15, dkU_ss]; exact dv13)
    have xv16 : v16 = (I0 t0 11) + (1 : Int32) := ev16.trans (by rw [eI15, dkU_ss, xv13])
    refine dk_SiN (As := [.int v16]) (rest := [.ref (z + t0)]) ⟨hx, hb, hml, hown, hts⟩ (c_X5_setOfAll_0 l g z I15 v16 dv16 hO) ⟨va_cnB 1 hts gX4_kennel_X5_setOfAll_n70 rfl rfl rfl (hK.2.1 (RX4, 70, yX5_setOfAll) (by decide)) (hts (.initialized RX5) (List.mem_of_getElem? (i := 7) rfl)) (by decide +kernel) ⟨Nat.le_of_ble_eq_true rfl, Nat.le_of_ble_eq_true rfl⟩, (hts (.static yX5_setOfAll) (List.mem_of_getElem? (i := 6) rfl)), trivial⟩ hK hT hW hS rfl hl.1 rfl (Nat.le_of_ble_eq_true rfl) dX4_kennel_55 ⟨Nat.zero_le _, Nat.zero_le _⟩ (fun v17 I17 H17 L17 hp17 hW hS => ?_)
    obtain ⟨hF17, hO, hc17⟩ := hp17
    have hF := dkF_callP hF hF17 dkSub_nil
    have eI17 : I15 = I17 := (dkF_nil hF17).symm
    subst eI17
    obtain ⟨dv17, -⟩ := hc17
    refine dk_put (k := t0) hx hb hts iX4_kennel_4 tyX4 tyX4_ok nmX4 hown hK hW (dk_aT0 ht0 hW) hS rfl 15 (by decide) (hts (.fieldLink RX4 61 "DogKings$Town" "dogsThere" "I") (List.mem_of_getElem? (i := 5) rfl)) rfl rfl (Nat.le_of_ble_eq_true rfl) (dk_eT15 ht0) dX4_kennel_58 (fun I18 H18 L18 eI18 hW hS => ?_)
    have eI18 : I18 = dkU I15 t0 15 v17 := eI18
    have hO := dkO_setT hO ht0 (c := 0) (by decide) eI18 (dkN_sub dv17 rfl)
    have hF := dkF_set hF eI18 (dkIn_at (i := 1) rfl (Nat.le_refl _) (Nat.le_refl _) (by decide) (by decide))
    exact W.vret hx hb hr (fun t ht hW9 => ⟨⟨I18, rfl, ⟨hF, hO, Or.inl ⟨(show dkN [(1, 6)] (I18 t0 11) from dkN_sub (by rw [eI18, dkU_sn (by decide)]; exact (by rw [hF17 t0 11 dkNin_nil]; exact (by rw [eI15, dkU_ss]; exact dv13))) rfl), (show dkN [(1, 63)] (I18 t0 15) from dkN_sub (by rw [eI18, dkU_ss]; exact dv17) rfl), q3, q14, ((by rw [eI18, dkU_sn (by decide)] : I18 t0 0 = _).trans ((hF17 t0 0 dkNin_nil).trans ((by rw [eI15, dkU_sn (by decide)] : I15 t0 0 = _).trans ((by rw [eI11, dkU_n (by omega)] : I11 t0 0 = _).trans ((by rw [eI9, dkU_n (by omega)] : I9 t0 0 = _).trans ((by rw [eI7, dkU_n (by omega)] : I7 t0 0 = _).trans rfl)))))), ((by rw [eI18, dkU_sn (by decide)] : I18 t0 4 = _).trans ((hF17 t0 4 dkNin_nil).trans ((by rw [eI15, dkU_sn (by decide)] : I15 t0 4 = _).trans ((by rw [eI11, dkU_n (by omega)] : I11 t0 4 = _).trans ((by rw [eI9, dkU_n (by omega)] : I9 t0 4 = _).trans ((by rw [eI7, dkU_n (by omega)] : I7 t0 4 = _).trans rfl)))))), ((by rw [eI18, dkU_sn (by decide)] : I18 t0 11 = _).trans ((hF17 t0 11 dkNin_nil).trans (by rw [eI15, dkU_ss, xv13]))), ((by rw [eI18, dkU_n (by omega)] : I18 (t0 + 7) = _).trans ((funext fun j => hF17 (t0 + 7) j dkNin_nil).trans ((by rw [eI15, dkU_n (by omega)] : I15 (t0 + 7) = _).trans ((by rw [eI11, dkU_n (by omega)] : I11 (t0 + 7) = _).trans ((by rw [eI9, dkU_n (by omega)] : I9 (t0 + 7) = _).trans (by rw [eI7, dkU_s, show (I0 (t0 + 7)) = I0 (t0 + 7) from rfl, xv6])))))), trivial⟩⟩, dkW_eq ht hW⟩, hS.F ht⟩) hS.2.2 dX4_kennel_61
  ·
    have q19 : (6 : Int) + 0 ≤ (I0 t0 11).toInt := by first | (rw [← xv1]; exact (dkc_nlt c2)) | (subst xv1; exact (dkc_nlt c2))
    have d20 : dkN [(6, 6)] v1 := dkN_le2 0 (dkN_lit (x := 6) (6) rfl) dv1 (dkc_nlt c2) rfl
    have f21 : dkN [(6, 6)] (I0 t0 11) := by rw [← ev1]; exact d20
    exact W.vret hx hb hr (fun t ht hW9 => ⟨⟨I0, rfl, ⟨hF, hO, Or.inr (⟨(show dkN [(6, 6)] (I0 t0 11) from dkN_sub f21 rfl), q19, rfl, rfl, rfl, rfl, trivial⟩)⟩, dkW_eq ht hW⟩, hS.F ht⟩) hS.2.2 dX4_kennel_9
set_option maxHeartbeats 4000000 in
set_option maxRecDepth 100000 in
theorem fx_X2_readsDogs_1 (l : Launch) (g : dkG) (z : Nat) (I0 : dkI) (np0 : dkN [(3, 9)] (I0 14 0)) (np1 : dkN [(0, 0)] (I0 14 11))  (hO : dkOk I0) : Met l yX2_readsDogs wsX2_readsDogs (dkR 2) (dkPc g z [.ref (z + 12)] I0) (dkQi g z (fun r I1 => dkF [(12, 12, 2, 2), (12, 12, 4, 5), (14, 14, 11, 11), (14, 14, 15, 15), (21, 21, 0, 5), (22, 22, 0, 5), (23, 23, 0, 5)] I0 I1 ∧ dkOk I1 ∧ ((dkN [(1, 1)] r ∧ dkN [(3, 9)] (I1 14 0) ∧ (dkDw (I0 13) (I0 12 1) (I0 14 0) 6 (I0 12 2)).1 = 0 ∧ r = 1 ∧ I1 12 5 = I0 12 5 ∧ I1 14 0 = I0 14 0 ∧ I1 14 4 = I0 14 4 ∧ I1 14 11 = dkDk (I0 13) (I0 12 1) (I0 14 0) 6 (I0 12 2) 0 ∧ (∀ j : Nat, j < Int32.toNatClampNeg (dkDk (I0 13) (I0 12 1) (I0 14 0) 6 (I0 12 2) 0) → I1 21 j = dkSo ((I0 13) (Int32.toNatClampNeg (dkDp (I0 13) (I0 12 1) (I0 14 0) (I0 12 2) j))).toInt ∧ dkSo ((I0 13) (Int32.toNatClampNeg (dkDp (I0 13) (I0 12 1) (I0 14 0) (I0 12 2) j))).toInt ≠ -1000000) ∧ True) ∨ (dkN [(0, 0)] r ∧ dkN [(1, 90)] (I1 12 1) ∧ dkN [(3, 9)] (I1 14 0) ∧ (dkDw (I0 13) (I0 12 1) (I0 14 0) 6 (I0 12 2)).1 ≠ 0 ∧ r = 0 ∧ I1 12 4 = (dkDw (I0 13) (I0 12 1) (I0 14 0) 6 (I0 12 2)).2 ∧ I1 12 5 = (dkDw (I0 13) (I0 12 1) (I0 14 0) 6 (I0 12 2)).1 ∧ True)))) 0 0 (dkA z) := by
  refine Met.ofW (cc := cX2_readsDogs) (maxL := 4) (ret := (some .boolean)) (by decide) rfl ?_
  intro p e s m args below meth c s₁ B hml hv
  obtain ⟨ha, hW, hK, hT⟩ := hv
  have hx := B.exec
  have hb := B.bytes
  have hr := B.returns
  have hts := atoms_spec (ws := wsX2_readsDogs) B.pre
  have hown : s.vm.findClass RX2 = some m.cls := findClass_of_methodNamed B.named
  have hlocks := B.notSynchronized
  have hS : va_S (dkA z) s.heap s.heap [] := va_S.rf
  have hF : dkF [(12, 12, 2, 2), (12, 12, 4, 5), (14, 14, 11, 11), (14, 14, 15, 15), (21, 21, 0, 5), (22, 22, 0, 5), (23, 23, 0, 5)] I0 I0 := dkF_rf _ _
  have hl := lv_entry ([.ref (z + 12)]) (n := 4) (Nat.le_of_ble_eq_true rfl)
  have hgo : entryFrame m args 4 = entryFrame m ([.ref (z + 12)] : List Value).toArray 4 := by rw [ha]
  rw [hgo, lg_entry_eq]
  generalize (lg_sl ([.ref (z + 12)]) ++ List.replicate (4 - (lg_sl ([.ref (z + 12)])).length) Slot.unset).toArray = ls at hl ⊢
  have hl : lv_has ls 4 [(0, .ref (z + 12))] := hl
  have C2 : ∀ (n : Nat), ∀ (I : dkI) (H : Heap) (locs : List Loc) (ls : Array Slot) (x2_1 : Int32), (90 - x2_1.toInt).toNat < n → dkW g z I H → va_S (dkA z) s.heap H locs → dkF [(12, 12, 2, 2), (12, 12, 4, 5), (14, 14, 11, 11), (14, 14, 15, 15), (21, 21, 0, 5), (22, 22, 0, 5), (23, 23, 0, 5)] I0 I → dkOk I → dkN [(0, 90)] x2_1 → dkN [(3, 9)] (I 14 0) → I 13 = I0 13 → I 12 1 = I0 12 1 → I 12 5 = I0 12 5 → I 14 0 = I0 14 0 → I 14 4 = I0 14 4 → (dkX4 (I0 13) (I0 12 1) (I0 14 0) (I0 12 2) (I 12 2) (I 14 11) (I 21) ∧ x2_1.toInt = (I 14 11).toInt) → lv_has ls 4 [(0, .ref (z + 12)), (1, .int x2_1)] → W p l e (headSpec wsX2_readsDogs (dkR 2)).room s m args below meth c H locs 0 0 (MQ below (dkQi g z (fun r I1 => dkF [(12, 12, 2, 2), (12, 12, 4, 5), (14, 14, 11, 11), (14, 14, 15, 15), (21, 21, 0, 5), (22, 22, 0, 5), (23, 23, 0, 5)] I0 I1 ∧ dkOk I1 ∧ ((dkN [(1, 1)] r ∧ dkN [(3, 9)] (I1 14 0) ∧ (dkDw (I0 13) (I0 12 1) (I0 14 0) 6 (I0 12 2)).1 = 0 ∧ r = 1 ∧ I1 12 5 = I0 12 5 ∧ I1 14 0 = I0 14 0 ∧ I1 14 4 = I0 14 4 ∧ I1 14 11 = dkDk (I0 13) (I0 12 1) (I0 14 0) 6 (I0 12 2) 0 ∧ (∀ j : Nat, j < Int32.toNatClampNeg (dkDk (I0 13) (I0 12 1) (I0 14 0) 6 (I0 12 2) 0) → I1 21 j = dkSo ((I0 13) (Int32.toNatClampNeg (dkDp (I0 13) (I0 12 1) (I0 14 0) (I0 12 2) j))).toInt ∧ dkSo ((I0 13) (Int32.toNatClampNeg (dkDp (I0 13) (I0 12 1) (I0 14 0) (I0 12 2) j))).toInt ≠ -1000000) ∧ True) ∨ (dkN [(0, 0)] r ∧ dkN [(1, 90)] (I1 12 1) ∧ dkN [(3, 9)] (I1 14 0) ∧ (dkDw (I0 13) (I0 12 1) (I0 14 0) 6 (I0 12 2)).1 ≠ 0 ∧ r = 0 ∧ I1 12 4 = (dkDw (I0 13) (I0 12 1) (I0 14 0) 6 (I0 12 2)).2 ∧ I1 12 5 = (dkDw (I0 13) (I0 12 1) (I0 14 0) 6 (I0 12 2)).1 ∧ True)))) args s 0 0 (dkA z)) (F0 m 2 ls []) := by
    intro n
    induction n with
    | zero => intro I H locs ls x2_1 hn; exact absurd hn (Nat.not_lt_zero _)
    | succ n ih2 =>
      intro I2_ H locs ls x2_1 hn2 hW hS hF_2 hO k2_0 f2_0 z2_0 zp2_0 zp2_1 zp2_2 zp2_3 cx2 hl
      have hF := hF_2
      refine lv_iload_n hx hb dX2_readsDogs_2 rfl (lv_at hl 1 rfl) ?_
      refine lv_bipush (v := 90) hx hb dX2_readsDogs_3 (by decide) ?_
      refine lv_icmp_ge (tgt := 114) hx hb dX2_readsDogs_5 (by decide) (fun c1 => ?_) (fun c1 => ?_)
      ·
        have d2 : dkN [(90, 90)] x2_1 := dkN_le2 0 (dkN_lit (x := 90) (90) rfl) k2_0 (dkc_le c1) rfl
        refine lv_iconst (v := 1) hx hb dX2_readsDogs_114 (by decide) ?_
        have i0 : (0 : Int32).toInt = 0 := rfl
        have i1 : (1 : Int32).toInt = 1 := rfl
        have i2 : (2 : Int32).toInt = 2 := rfl
        have i3 : (3 : Int32).toInt = 3 := rfl
        have i9 : (9 : Int32).toInt = 9 := rfl
        have i30 : (30 : Int32).toInt = 30 := rfl
        have i44 : (44 : Int32).toInt = 44 := rfl
        have i59 : (59 : Int32).toInt = 59 := rfl
        have i109 : (109 : Int32).toInt = 109 := rfl
        have i116 : (116 : Int32).toInt = 116 := rfl
        have hl9 := dkN_lo (b := 90) d2 rfl
        have hx9 := cx2.2
        have hb9 := dkN_hi (b := 6) (show dkN [(0, 6)] (I2_ 14 11) from ‹dkOk I2_› 14 11) rfl
        have hd9 := dkX2c_e cx2.1.1 (by first | omega | (exfalso; omega))
        have e3 : dkDw (I0 13) (I0 12 1) (I0 14 0) 6 (I0 12 2) = (0, I2_ 12 2) := hd9.1
        exact W.zret (v := 1) (ty := .boolean) hx hb hr rfl (fun t ht hW9 => ⟨⟨1, I2_, rfl, ⟨hF, hO, Or.inl ⟨dkN_sub (dkN_lit (x := 1) (1) rfl) rfl, (show dkN [(3, 9)] (I2_ 14 0) from dkN_sub f2_0 rfl), (dkP_1 e3), rfl, (show I2_ 12 5 = I0 12 5 from zp2_1), (show I2_ 14 0 = I0 14 0 from zp2_2), (show I2_ 14 4 = I0 14 4 from zp2_3), (((show I2_ 14 11 = I2_ 14 11 from rfl)).trans hd9.2), (fun j hj => ⟨(congrFun rfl j).trans (cx2.1.2.2 j (by rw [hd9.2]; exact hj)).1, (cx2.1.2.2 j (by rw [hd9.2]; exact hj)).2⟩), trivial⟩⟩, dkW_eq ht hW⟩, hS.F ht⟩) hS.2.2 dX2_readsDogs_115
      ·
        have d4 : dkN [(0, 89)] x2_1 := dkN_le1 1 k2_0 (dkN_lit (x := 90) (90) rfl) (dkc_nle c1) rfl
        refine lv_aload_n hx hb dX2_readsDogs_8 rfl (lv_at hl 0 rfl) ?_
        refine dk_get (k := 12) hx hb hts iX2_readsDogs_2 hown hK (dk_at12 hW) rfl 2 (by decide) (hts (.fieldLink RX2 30 "DogKings$Reader" "at" "I") (List.mem_of_getElem? (i := 1) rfl)) rfl dX2_readsDogs_9 ?_
        refine lv_topi (fun v5 ev5 => ?_)
        have dv5 : dkN [(0, 90)] v5 := by rw [ev5]; exact (hO 12 2)
        have xv5 : v5 = I2_ 12 2 := ev5.trans rfl
        refine lv_aload_n hx hb dX2_readsDogs_12 rfl (lv_at hl 0 rfl) ?_
        refine dk_get (k := 12) hx hb hts iX2_readsDogs_2 hown hK (dk_at12 hW) rfl 1 (by decide) (hts (.fieldLink RX2 22 "DogKings$Reader" "bytes" "I") (List.mem_of_getElem? (i := 2) rfl)) rfl dX2_readsDogs_13 ?_
        refine lv_topi (fun v6 ev6 => ?_)
        have dv6 : dkN [(0, 90)] v6 := by rw [ev6]; exact (hO 12 1)
        have xv6 : v6 = I0 12 1 := ev6.trans zp2_0
        refine lv_icmp_ge (tgt := 114) hx hb dX2_readsDogs_16 (by decide) (fun c7 => ?_) (fun c7 => ?_)
        ·
          have q8 : (I0 12 1).toInt + 0 ≤ (I2_ 12 2).toInt := by first | (rw [← xv6, ← xv5]; exact (dkc_le c7)) | (subst xv6 xv5; exact (dkc_le c7))
          refine lv_iconst (v := 1) hx hb dX2_readsDogs_114 (by decide) ?_
          have i0 : (0 : Int32).toInt = 0 := rfl
          have i1 : (1 : Int32).toInt = 1 := rfl
          have i2 : (2 : Int32).toInt = 2 := rfl
          have i3 : (3 : Int32).toInt = 3 := rfl
          have i9 : (9 : Int32).toInt = 9 := rfl
          have i30 : (30 : Int32).toInt = 30 := rfl
          have i44 : (44 : Int32).toInt = 44 := rfl
          have i59 : (59 : Int32).toInt = 59 := rfl
          have i109 : (109 : Int32).toInt = 109 := rfl
          have i116 : (116 : Int32).toInt = 116 := rfl
          have hl9 := dkN_lo (b := 0) d4 rfl
          have hx9 := cx2.2
          have hb9 := dkN_hi (b := 6) (show dkN [(0, 6)] (I2_ 14 11) from ‹dkOk I2_› 14 11) rfl
          have hd9 := dkX2c_e cx2.1.1 (by first | omega | (exfalso; omega))
          have e9 : dkDw (I0 13) (I0 12 1) (I0 14 0) 6 (I0 12 2) = (0, I2_ 12 2) := hd9.1
          exact W.zret (v := 1) (ty := .boolean) hx hb hr rfl (fun t ht hW9 => ⟨⟨1, I2_, rfl, ⟨hF, hO, Or.inl ⟨dkN_sub (dkN_lit (x := 1) (1) rfl) rfl, (show dkN [(3, 9)] (I2_ 14 0) from dkN_sub f2_0 rfl), (dkP_1 e9), rfl, (show I2_ 12 5 = I0 12 5 from zp2_1), (show I2_ 14 0 = I0 14 0 from zp2_2), (show I2_ 14 4 = I0 14 4 from zp2_3), (((show I2_ 14 11 = I2_ 14 11 from rfl)).trans hd9.2), (fun j hj => ⟨(congrFun rfl j).trans (cx2.1.2.2 j (by rw [hd9.2]; exact hj)).1, (cx2.1.2.2 j (by rw [hd9.2]; exact hj)).2⟩), trivial⟩⟩, dkW_eq ht hW⟩, hS.F ht⟩) hS.2.2 dX2_readsDogs_115
        ·
          have q10 : (I2_ 12 2).toInt + 1 ≤ (I0 12 1).toInt := by first | (rw [← xv6, ← xv5]; exact (dkc_nle c7)) | (subst xv6 xv5; exact (dkc_nle c7))
          have d11 : dkN [(1, 90)] v6 := dkN_le2 1 dv5 dv6 (dkc_nle c7) rfl
          have f12 : dkN [(1, 90)] (I2_ 12 1) := by rw [← ev6]; exact d11
          have d13 : dkN [(0, 89)] v5 := dkN_le1 1 dv5 dv6 (dkc_nle c7) rfl
          have f14 : dkN [(0, 89)] (I2_ 12 2) := by rw [← ev5]; exact d13
          refine lv_aload_n hx hb dX2_readsDogs_19 rfl (lv_at hl 0 rfl) ?_
          refine dk_Vi (As := []) (rest := []) ⟨hx, hb, hml, hown, hts⟩ (fx_X2_coming_1 l g z I2_ hO) (cwV 0 hts gX2_readsDogs_X2_coming rfl rfl rfl (by decide +kernel) ⟨Nat.le_of_ble_eq_true rfl, Nat.le_of_ble_eq_true rfl⟩) (dk_at12 hW) rfl hK hT hW hS rfl hl.1 rfl (Nat.le_of_ble_eq_true rfl) dX2_readsDogs_20 ⟨Nat.zero_le _, Nat.zero_le _⟩ (fun v15 I15 H15 L15 hp15 hW hS => ?_)
          obtain ⟨hF15, hO, hc15⟩ := hp15
          have hF := dkF_call hF hF15 rfl
          have eI15 : I2_ = I15 := (dkF_nil hF15).symm
          subst eI15
          rcases hc15 with ⟨dv15, x15_0, xr15, -⟩ | hc15
          ·
            have w16 : I2_ 12 1 = I0 12 1 := zp2_0
            have w17 : I2_ 12 2 = I2_ 12 2 := rfl
            have q18 : (I0 12 1).toInt + 0 ≤ (I2_ 12 2).toInt := by have h := x15_0; rw [w16, w17] at h; exact h
            have xv15 : v15 = (-1000000) := by have h := xr15; exact h
            refine dk_Si (As := [.int v15]) (rest := []) ⟨hx, hb, hml, hown, hts⟩ (fx_X2_sortOf_2 l g z I2_ v15 dv15 hO) (va_cwS 1 hts gX2_readsDogs_X2_sortOf rfl rfl rfl (by decide +kernel) ⟨Nat.le_of_ble_eq_true rfl, Nat.le_of_ble_eq_true rfl⟩) hK hT hW hS rfl hl.1 rfl (Nat.le_of_ble_eq_true rfl) dX2_readsDogs_23 ⟨Nat.zero_le _, Nat.zero_le _⟩ (fun v19 I19 H19 L19 hp19 hW hS => ?_)
            obtain ⟨hF19, hO, hc19⟩ := hp19
            have hF := dkF_call hF hF19 rfl
            have eI19 : I2_ = I19 := (dkF_nil hF19).symm
            subst eI19
            obtain ⟨dv19, xr19, -⟩ := hc19
            have xv19 : v19 = (-1000000) := by have h := xr19; exact h
            refine lv_istore_n (lv' := [(2, .int v19), (0, .ref (z + 12)), (1, .int x2_1)]) hx hb dX2_readsDogs_26 rfl hl (by decide) rfl (fun ls hl => ?_)
            refine lv_iload_n hx hb dX2_readsDogs_27 rfl (lv_at hl 0 rfl) ?_
            refine lv_ldc (v := (-1000000)) hx hb hown (hts (.constant RX2 50 (-1000000)) (List.mem_of_getElem? (i := 3) rfl)) dX2_readsDogs_28 ?_
            refine lv_icmp_ne (tgt := 39) hx hb dX2_readsDogs_30 (by decide) (fun c20 => ?_) (fun c20 => ?_)
            ·
              exact absurd ((xv19).trans (rfl).symm) c20
            ·
              refine lv_aload_n hx hb dX2_readsDogs_33 rfl (lv_at hl 1 rfl) ?_
              refine lv_iconst (v := 1) hx hb dX2_readsDogs_34 (by decide) ?_
              refine dk_Vi (As := [.int 1]) (rest := []) ⟨hx, hb, hml, hown, hts⟩ (fx_X2_meets_3 l g z I2_ 1 (dkN_lit (x := 1) (1) rfl) hO) (cwV 1 hts gX2_readsDogs_X2_meets rfl rfl rfl (by decide +kernel) ⟨Nat.le_of_ble_eq_true rfl, Nat.le_of_ble_eq_true rfl⟩) (dk_at12 hW) rfl hK hT hW hS rfl hl.1 rfl (Nat.le_of_ble_eq_true rfl) dX2_readsDogs_35 ⟨Nat.zero_le _, Nat.zero_le _⟩ (fun v21 I21 H21 L21 hp21 hW hS => ?_)
              obtain ⟨hF21, hO, hc21⟩ := hp21
              have hF := dkF_call hF hF21 rfl
              obtain ⟨dv21, f21_12_4, f21_12_5, xr21, xh21_0, xh21_1, xh21_2, -⟩ := hc21
              have w22 : I2_ 12 2 = I2_ 12 2 := ((hF19 12 2 rfl).trans ((hF15 12 2 rfl).trans rfl))
              have y23 : I21 12 2 = I2_ 12 2 := by have h := xh21_0; rw [w22] at h; exact h
              have y24 : I21 12 4 = I2_ 12 2 := by have h := xh21_1; rw [w22] at h; exact h
              have y25 : I21 12 5 = 1 := by have h := xh21_2; exact h
              have xv21 : v21 = 0 := by have h := xr21; exact h
              have i0 : (0 : Int32).toInt = 0 := rfl
              have i1 : (1 : Int32).toInt = 1 := rfl
              have i2 : (2 : Int32).toInt = 2 := rfl
              have i3 : (3 : Int32).toInt = 3 := rfl
              have i9 : (9 : Int32).toInt = 9 := rfl
              have i30 : (30 : Int32).toInt = 30 := rfl
              have i44 : (44 : Int32).toInt = 44 := rfl
              have i59 : (59 : Int32).toInt = 59 := rfl
              have i109 : (109 : Int32).toInt = 109 := rfl
              have i116 : (116 : Int32).toInt = 116 := rfl
              exact W.zret (v := v21) (ty := .boolean) hx hb hr (dkN_zr dv21 rfl) (fun t ht hW9 => ⟨⟨v21, I21, rfl, ⟨hF, hO, Or.inr (⟨dkN_sub dv21 rfl, (show dkN [(1, 90)] (I21 12 1) from dkN_sub (by rw [hF21 12 1 rfl]; exact (by rw [hF19 12 1 rfl]; exact (by rw [hF15 12 1 rfl]; exact f12))) rfl), (show dkN [(3, 9)] (I21 14 0) from dkN_sub (by rw [hF21 14 0 rfl]; exact (by rw [hF19 14 0 rfl]; exact (by rw [hF15 14 0 rfl]; exact f2_0))) rfl), (by exfalso; omega), (by exfalso; omega), (by exfalso; omega), (by exfalso; omega), trivial⟩)⟩, dkW_eq ht hW⟩, hS.F ht⟩) hS.2.2 dX2_readsDogs_38
          ·
            obtain ⟨dv15, f15_12_1, f15_12_2, x15_0, xr15, -⟩ := hc15
            have w27 : I2_ 12 2 = I2_ 12 2 := rfl
            have w28 : I2_ 12 1 = I0 12 1 := zp2_0
            have w29 : I2_ 13 = I0 13 := z2_0
            have xv15 : v15 = (I0 13) (Int32.toNatClampNeg (I2_ 12 2)) := by have h := xr15; rw [w29, w27] at h; exact h
            refine dk_Si (As := [.int v15]) (rest := []) ⟨hx, hb, hml, hown, hts⟩ (h_X2_sortOf_1 l g z I2_ v15 dv15 hO) (va_cwS 1 hts gX2_readsDogs_X2_sortOf rfl rfl rfl (by decide +kernel) ⟨Nat.le_of_ble_eq_true rfl, Nat.le_of_ble_eq_true rfl⟩) hK hT hW hS rfl hl.1 rfl (Nat.le_of_ble_eq_true rfl) dX2_readsDogs_23 ⟨Nat.zero_le _, Nat.zero_le _⟩ (fun v30 I30 H30 L30 hp30 hW hS => ?_)
            obtain ⟨hF30, hO, hc30⟩ := hp30
            have hF := dkF_call hF hF30 rfl
            have eI30 : I2_ = I30 := (dkF_nil hF30).symm
            subst eI30
            rcases hc30 with ⟨dv30, x30_0, xr30, -⟩ | hc30
            ·
              have q31 : dkSo ((I0 13) (Int32.toNatClampNeg (I2_ 12 2))).toInt ≠ -1000000 := by have h := x30_0; rw [xv15] at h; exact h
              have xv30 : v30 = dkSo ((I0 13) (Int32.toNatClampNeg (I2_ 12 2))).toInt := by have h := xr30; rw [xv15] at h; exact h
              refine lv_istore_n (lv' := [(2, .int v30), (0, .ref (z + 12)), (1, .int x2_1)]) hx hb dX2_readsDogs_26 rfl hl (by decide) rfl (fun ls hl => ?_)
              refine lv_iload_n hx hb dX2_readsDogs_27 rfl (lv_at hl 0 rfl) ?_
              refine lv_ldc (v := (-1000000)) hx hb hown (hts (.constant RX2 50 (-1000000)) (List.mem_of_getElem? (i := 3) rfl)) dX2_readsDogs_28 ?_
              refine lv_icmp_ne (tgt := 39) hx hb dX2_readsDogs_30 (by decide) (fun c32 => ?_) (fun c32 => ?_)
              ·
                have q33 : (dkSo ((I0 13) (Int32.toNatClampNeg (I2_ 12 2))).toInt).toInt ≠ (-1000000 : Int) := by first | (rw [← xv30]; exact (dk_ne c32)) | (subst xv30; exact (dk_ne c32))
                refine lv_aload_n hx hb dX2_readsDogs_39 rfl (lv_at hl 1 rfl) ?_
                refine dk_get (k := 12) hx hb hts iX2_readsDogs_2 hown hK (dk_at12 hW) rfl 3 (by decide) (hts (.fieldLink RX2 18 "DogKings$Reader" "draft" "LDogKings$Town;") (List.mem_of_getElem? (i := 4) rfl)) rfl dX2_readsDogs_40 ?_
                refine dk_get (k := 14) hx hb hts iX2_readsDogs_4 hown hK (dk_at14 hW) rfl 11 (by decide) (hts (.fieldLink RX2 79 "DogKings$Town" "dogs" "I") (List.mem_of_getElem? (i := 5) rfl)) rfl dX2_readsDogs_43 ?_
                refine lv_topi (fun v34 ev34 => ?_)
                have dv34 : dkN [(0, 6)] v34 := by rw [ev34]; exact (hO 14 11)
                have xv34 : v34 = I2_ 14 11 := ev34.trans ((hF30 14 11 rfl).trans ((hF15 14 11 rfl).trans rfl))
                refine lv_bipush (v := 6) hx hb dX2_readsDogs_46 (by decide) ?_
                refine lv_icmp_lt (tgt := 57) hx hb dX2_readsDogs_48 (by decide) (fun c35 => ?_) (fun c35 => ?_)
                ·
                  have q36 : (I2_ 14 11).toInt + 1 ≤ (6 : Int) := by first | (rw [← xv34]; exact (dkc_lt c35)) | (subst xv34; exact (dkc_lt c35))
                  have d37 : dkN [(0, 5)] v34 := dkN_le1 1 dv34 (dkN_lit (x := 6) (6) rfl) (dkc_lt c35) rfl
                  have f38 : dkN [(0, 5)] (I2_ 14 11) := by rw [← ev34]; exact d37
                  refine lv_aload_n hx hb dX2_readsDogs_57 rfl (lv_at hl 1 rfl) ?_
                  refine lv_dup hx hb dX2_readsDogs_58 rfl ?_
                  refine dk_get (k := 12) hx hb hts iX2_readsDogs_2 hown hK (dk_at12 hW) rfl 2 (by decide) (hts (.fieldLink RX2 30 "DogKings$Reader" "at" "I") (List.mem_of_getElem? (i := 1) rfl)) rfl dX2_readsDogs_59 ?_
                  refine lv_topi (fun v39 ev39 => ?_)
                  have dv39 : dkN [(0, 89)] v39 := by rw [ev39]; exact (by rw [hF30 12 2 rfl]; exact f15_12_2)
                  have xv39 : v39 = I2_ 12 2 := ev39.trans ((hF30 12 2 rfl).trans ((hF15 12 2 rfl).trans rfl))
                  refine lv_iconst (v := 1) hx hb dX2_readsDogs_62 (by decide) ?_
                  refine lv_iadd hx hb dX2_readsDogs_63 ?_
                  refine lv_topi (fun v40 ev40 => ?_)
                  have dv40 : dkN [(1, 90)] v40 := by rw [ev40]; exact dkN_add dv39 (dkN_lit (x := 1) (1) rfl) rfl
                  have xv40 : v40 = (I2_ 12 2) + (1 : Int32) := by rw [ev40, xv39]
                  have q41 : ((I2_ 12 2) + (1 : Int32)).toInt = (I2_ 12 2).toInt + (1 : Int) := by first | (rw [← xv40, ← xv39]; exact (by rw [ev40]; exact dk_addE dv39 (dkN_lit (x := 1) (1) rfl) rfl)) | (subst xv40 xv39; exact (by rw [ev40]; exact dk_addE dv39 (dkN_lit (x := 1) (1) rfl) rfl))
                  refine dk_put (k := 12) hx hb hts iX2_readsDogs_2 tyX2 tyX2_ok nmX2 hown hK hW (dk_at12 hW) hS rfl 2 (by decide) (hts (.fieldLink RX2 30 "DogKings$Reader" "at" "I") (List.mem_of_getElem? (i := 1) rfl)) rfl rfl (Nat.le_of_ble_eq_true rfl) rfl dX2_readsDogs_64 (fun I42 H42 L42 eI42 hW hS => ?_)
                  have eI42 : I42 = dkU I2_ 12 2 v40 := eI42
                  have hO := dkO_set hO eI42 (dkN_sub dv40 rfl)
                  have hF := dkF_set hF eI42 rfl
                  refine lv_aload_n hx hb dX2_readsDogs_67 rfl (lv_at hl 1 rfl) ?_
                  refine lv_iconst (v := 0) hx hb dX2_readsDogs_68 (by decide) ?_
                  refine lv_aload_n hx hb dX2_readsDogs_69 rfl (lv_at hl 1 rfl) ?_
                  refine dk_get (k := 12) hx hb hts iX2_readsDogs_2 hown hK (dk_at12 hW) rfl 3 (by decide) (hts (.fieldLink RX2 18 "DogKings$Reader" "draft" "LDogKings$Town;") (List.mem_of_getElem? (i := 4) rfl)) rfl dX2_readsDogs_70 ?_
                  refine dk_get (k := 14) hx hb hts iX2_readsDogs_4 hown hK (dk_at14 hW) rfl 0 (by decide) (hts (.fieldLink RX2 68 "DogKings$Town" "places" "I") (List.mem_of_getElem? (i := 6) rfl)) rfl dX2_readsDogs_73 ?_
                  refine lv_topi (fun v43 ev43 => ?_)
                  have dv43 : dkN [(3, 9)] v43 := by rw [ev43]; exact (by rw [eI42, dkU_n (by decide)]; exact (by rw [hF30 14 0 rfl]; exact (by rw [hF15 14 0 rfl]; exact f2_0)))
                  have xv43 : v43 = I0 14 0 := ev43.trans ((by rw [eI42, dkU_n (by decide)] : I42 14 0 = _).trans ((hF30 14 0 rfl).trans ((hF15 14 0 rfl).trans zp2_2)))
                  refine lv_iconst (v := 1) hx hb dX2_readsDogs_76 (by decide) ?_
                  refine lv_isub hx hb dX2_readsDogs_77 ?_
                  refine lv_topi (fun v44 ev44 => ?_)
                  have dv44 : dkN [(2, 8)] v44 := by rw [ev44]; exact dkN_subt dv43 (dkN_lit (x := 1) (1) rfl) rfl
                  have xv44 : v44 = (I0 14 0) - (1 : Int32) := by rw [ev44, xv43]
                  have q45 : ((I0 14 0) - (1 : Int32)).toInt = (I0 14 0).toInt - (1 : Int) := by first | (rw [← xv44, ← xv43]; exact (by rw [ev44]; exact dk_subE dv43 (dkN_lit (x := 1) (1) rfl) rfl)) | (subst xv44 xv43; exact (by rw [ev44]; exact dk_subE dv43 (dkN_lit (x := 1) (1) rfl) rfl))
                  refine dk_Vi (As := [.int 0, .int v44]) (rest := []) ⟨hx, hb, hml, hown, hts⟩ (h_X2_number_2 l g z I42 0 v44 (dkN_lit (x := 0) (0) rfl) dv44 hO) (cwV 2 hts gX2_readsDogs_X2_number rfl rfl rfl (by decide +kernel) ⟨Nat.le_of_ble_eq_true rfl, Nat.le_of_ble_eq_true rfl⟩) (dk_at12 hW) rfl hK hT hW hS rfl hl.1 rfl (Nat.le_of_ble_eq_true rfl) dX2_readsDogs_78 ⟨Nat.zero_le _, Nat.zero_le _⟩ (fun v46 I46 H46 L46 hp46 hW hS => ?_)
                  obtain ⟨hF46, hO, hc46⟩ := hp46
                  have hF := dkF_call hF hF46 rfl
                  rcases hc46 with ⟨dv46, f46_12_1, f46_12_2, x46_0, xr46, xh46_0, xh46_1, -⟩ | hc46
                  ·
                    have w47 : I42 13 = I0 13 := ((by rw [eI42, dkU_n (by decide)] : I42 13 = _).trans ((funext fun j => hF30 13 j dkNin_nil).trans ((funext fun j => hF15 13 j dkNin_nil).trans z2_0)))
                    have w48 : I42 12 1 = I0 12 1 := ((by rw [eI42, dkU_sn (by decide)] : I42 12 1 = _).trans ((hF30 12 1 rfl).trans ((hF15 12 1 rfl).trans zp2_0)))
                    have w49 : I42 12 2 = (I2_ 12 2) + (1 : Int32) := (by rw [eI42, dkU_ss, xv40])
                    have q50 : (dkNg (I0 13) (I0 12 1) 0 ((I0 14 0) - (1 : Int32)) ((I2_ 12 2) + (1 : Int32))).1 = 0 := by have h := x46_0; rw [w47, w48, w49, xv44] at h; exact h
                    have y51 : I46 12 2 = (dkNg (I0 13) (I0 12 1) 0 ((I0 14 0) - (1 : Int32)) ((I2_ 12 2) + (1 : Int32))).2 := by have h := xh46_0; rw [w47, w48, w49, xv44] at h; exact h
                    have w52 : I42 12 5 = I0 12 5 := ((by rw [eI42, dkU_sn (by decide)] : I42 12 5 = _).trans ((hF30 12 5 rfl).trans ((hF15 12 5 rfl).trans zp2_1)))
                    have y53 : I46 12 5 = I0 12 5 := by have h := xh46_1; rw [w52] at h; exact h
                    have xv46 : v46 = dkNn (I0 13) (I0 12 1) ((I2_ 12 2) + (1 : Int32)) := by have h := xr46; rw [w47, w48, w49] at h; exact h
                    refine lv_istore_n (lv' := [(3, .int v46), (2, .int v30), (0, .ref (z + 12)), (1, .int x2_1)]) hx hb dX2_readsDogs_81 rfl hl (by decide) rfl (fun ls hl => ?_)
                    refine lv_iload_n hx hb dX2_readsDogs_82 rfl (lv_at hl 0 rfl) ?_
                    refine lv_ldc (v := (-1000000)) hx hb hown (hts (.constant RX2 50 (-1000000)) (List.mem_of_getElem? (i := 3) rfl)) dX2_readsDogs_83 ?_
                    refine lv_icmp_eq (tgt := 97) hx hb dX2_readsDogs_85 (by decide) (fun c54 => ?_) (fun c54 => ?_)
                    ·
                      exact (dkN_nil (show dkN [] v46 from dkN_eq1 dv46 (dkN_lit (x := (-1000000)) (-1000000) rfl) (congrArg Int32.toInt c54) rfl)).elim
                    ·
                      have q55 : (dkNn (I0 13) (I0 12 1) ((I2_ 12 2) + (1 : Int32))).toInt ≠ (-1000000 : Int) := by first | (rw [← xv46]; exact (dk_ne c54)) | (subst xv46; exact (dk_ne c54))
                      refine lv_aload_n hx hb dX2_readsDogs_88 rfl (lv_at hl 2 rfl) ?_
                      refine lv_bipush (v := 59) hx hb dX2_readsDogs_89 (by decide) ?_
                      refine dk_Vi (As := [.int 59]) (rest := []) ⟨hx, hb, hml, hown, hts⟩ (h_X2_takes_2 l g z I46 59 (dkN_lit (x := 59) (59) rfl) hO) (cwV 1 hts gX2_readsDogs_X2_takes rfl rfl rfl (by decide +kernel) ⟨Nat.le_of_ble_eq_true rfl, Nat.le_of_ble_eq_true rfl⟩) (dk_at12 hW) rfl hK hT hW hS rfl hl.1 rfl (Nat.le_of_ble_eq_true rfl) dX2_readsDogs_91 ⟨Nat.zero_le _, Nat.zero_le _⟩ (fun v56 I56 H56 L56 hp56 hW hS => ?_)
                      obtain ⟨hF56, hO, hc56⟩ := hp56
                      have hF := dkF_call hF hF56 rfl
                      rcases hc56 with ⟨dv56, f56_12_1, f56_12_2, x56_0, xr56, xh56_0, xh56_1, -⟩ | hc56
                      ·
                        have w57 : I46 13 = I0 13 := ((funext fun j => hF46 13 j (dkNin_k rfl (dkNin_k rfl dkNin_nil))).trans ((by rw [eI42, dkU_n (by decide)] : I42 13 = _).trans ((funext fun j => hF30 13 j dkNin_nil).trans ((funext fun j => hF15 13 j dkNin_nil).trans z2_0))))
                        have w58 : I46 12 1 = I0 12 1 := ((hF46 12 1 rfl).trans ((by rw [eI42, dkU_sn (by decide)] : I42 12 1 = _).trans ((hF30 12 1 rfl).trans ((hF15 12 1 rfl).trans zp2_0))))
                        have w59 : I46 12 2 = (dkNg (I0 13) (I0 12 1) 0 ((I0 14 0) - (1 : Int32)) ((I2_ 12 2) + (1 : Int32))).2 := y51
                        have q60 : (dkSg (I0 13) (I0 12 1) 59 ((dkNg (I0 13) (I0 12 1) 0 ((I0 14 0) - (1 : Int32)) ((I2_ 12 2) + (1 : Int32))).2)).1 = 0 := by have h := x56_0; rw [w57, w58, w59] at h; exact h
                        have y61 : I56 12 2 = (dkSg (I0 13) (I0 12 1) 59 ((dkNg (I0 13) (I0 12 1) 0 ((I0 14 0) - (1 : Int32)) ((I2_ 12 2) + (1 : Int32))).2)).2 := by have h := xh56_0; rw [w57, w58, w59] at h; exact h
                        have w62 : I46 12 5 = I0 12 5 := y53
                        have y63 : I56 12 5 = I0 12 5 := by have h := xh56_1; rw [w62] at h; exact h
                        have xv56 : v56 = 1 := by have h := xr56; exact h
                        refine lv_if_ne (tgt := 99) hx hb dX2_readsDogs_94 (by decide) (fun c64 => ?_) (fun c64 => ?_)
                        ·
                          refine lv_aload_n hx hb dX2_readsDogs_99 rfl (lv_at hl 2 rfl) ?_
                          refine dk_get (k := 12) hx hb hts iX2_readsDogs_2 hown hK (dk_at12 hW) rfl 3 (by decide) (hts (.fieldLink RX2 18 "DogKings$Reader" "draft" "LDogKings$Town;") (List.mem_of_getElem? (i := 4) rfl)) rfl dX2_readsDogs_100 ?_
                          refine lv_iload_n hx hb dX2_readsDogs_103 rfl (lv_at hl 1 rfl) ?_
                          refine lv_iload_n hx hb dX2_readsDogs_104 rfl (lv_at hl 0 rfl) ?_
                          refine dk_Vv (As := [.int v30, .int v46]) (rest := []) ⟨hx, hb, hml, hown, hts⟩ (fx_X4_kennel_1 l g z I56 (14) (by unfold dkT; omega) v30 v46 dv30 dv46 hO) (cwV 2 hts gX2_readsDogs_X4_kennel rfl rfl rfl (by decide +kernel) ⟨Nat.le_of_ble_eq_true rfl, Nat.le_of_ble_eq_true rfl⟩) (dk_at14 hW) rfl hK hT hW hS rfl hl.1 rfl (Nat.le_of_ble_eq_true rfl) dX2_readsDogs_105 ⟨Nat.zero_le _, Nat.zero_le _⟩ (fun I65 H65 L65 hp65 hW hS => ?_)
                          obtain ⟨hF65, hO, hc65⟩ := hp65
                          have hF := dkF_call hF hF65 rfl
                          rcases hc65 with ⟨f65_14_11, f65_14_15, x65_0, x65_1, xh65_0, xh65_1, xh65_2, xh65_3, -⟩ | hc65
                          ·
                            have w66 : I56 14 11 = I2_ 14 11 := ((hF56 14 11 rfl).trans ((hF46 14 11 rfl).trans ((by rw [eI42, dkU_n (by decide)] : I42 14 11 = _).trans ((hF30 14 11 rfl).trans ((hF15 14 11 rfl).trans rfl)))))
                            have q67 : ((I2_ 14 11) + (1 : Int32)).toInt = (I2_ 14 11).toInt + (1 : Int) := by have h := x65_1; rw [w66] at h; exact h
                            have w68 : I56 14 0 = I0 14 0 := ((hF56 14 0 rfl).trans ((hF46 14 0 rfl).trans ((by rw [eI42, dkU_n (by decide)] : I42 14 0 = _).trans ((hF30 14 0 rfl).trans ((hF15 14 0 rfl).trans zp2_2)))))
                            have y69 : I65 14 0 = I0 14 0 := by have h := xh65_0; rw [w68] at h; exact h
                            have w70 : I56 14 4 = I0 14 4 := ((hF56 14 4 rfl).trans ((hF46 14 4 rfl).trans ((by rw [eI42, dkU_n (by decide)] : I42 14 4 = _).trans ((hF30 14 4 rfl).trans ((hF15 14 4 rfl).trans zp2_3)))))
                            have y71 : I65 14 4 = I0 14 4 := by have h := xh65_1; rw [w70] at h; exact h
                            have k72 : dkN [(1, 6)] (I65 14 11) := by rw [xh65_2]; exact dkN_add (by rw [hF56 14 11 rfl]; exact (by rw [hF46 14 11 rfl]; exact (by rw [eI42, dkU_n (by decide)]; exact f38))) (dkN_lit (x := 1) (1) rfl) rfl
                            have y73 : I65 14 11 = (I2_ 14 11) + (1 : Int32) := by have h := xh65_2; rw [w66] at h; exact h
                            have w74 : I56 21 = I2_ 21 := ((funext fun j => hF56 21 j (dkNin_k rfl (dkNin_k rfl dkNin_nil))).trans ((funext fun j => hF46 21 j (dkNin_k rfl (dkNin_k rfl dkNin_nil))).trans ((by rw [eI42, dkU_n (by decide)] : I42 21 = _).trans ((funext fun j => hF30 21 j dkNin_nil).trans ((funext fun j => hF15 21 j dkNin_nil).trans rfl)))))
                            have y75 : I65 21 = dkV (I2_ 21) (Int32.toNatClampNeg (I2_ 14 11)) (dkSo ((I0 13) (Int32.toNatClampNeg (I2_ 12 2))).toInt) := by have h := xh65_3; rw [w74, w66, xv30] at h; exact h
                            obtain ⟨v76, ev76⟩ : ∃ y : Int32, y = x2_1 + 1 := ⟨_, rfl⟩
                            have dv76 : dkN [(1, 90)] v76 := by rw [ev76]; exact dkN_add d4 (dkN_lit (x := 1) (1) rfl) rfl
                            refine lv_iinc (v := v76) (lv' := [(1, .int v76), (3, .int v46), (2, .int v30), (0, .ref (z + 12))]) hx hb dX2_readsDogs_108 hl (k := 3) rfl (by rw [ev76]; rfl) (by decide) rfl (fun ls hl => ?_)
                            refine lv_goto (tgt := 2) hx hb dX2_readsDogs_111 (by decide) ?_
                            exact ih2 I65 _ _ ls v76 (dk_near hn2 (by rw [ev76]; exact dk_inc d4 rfl) (dkN_lt d4 rfl)) hW hS hF hO (dkN_sub dv76 rfl) (show dkN [(3, 9)] (I65 14 0) from dkN_sub (by rw [hF65 14 0 rfl]; exact (by rw [hF56 14 0 rfl]; exact (by rw [hF46 14 0 rfl]; exact (by rw [eI42, dkU_n (by decide)]; exact (by rw [hF30 14 0 rfl]; exact (by rw [hF15 14 0 rfl]; exact f2_0)))))) rfl) ((funext fun j => hF65 13 j (dkNin_k rfl (dkNin_k rfl (dkNin_k rfl (dkNin_k rfl (dkNin_k rfl dkNin_nil)))))).trans ((funext fun j => hF56 13 j (dkNin_k rfl (dkNin_k rfl dkNin_nil))).trans ((funext fun j => hF46 13 j (dkNin_k rfl (dkNin_k rfl dkNin_nil))).trans ((by rw [eI42, dkU_n (by decide)] : I42 13 = _).trans ((funext fun j => hF30 13 j dkNin_nil).trans ((funext fun j => hF15 13 j dkNin_nil).trans z2_0)))))) ((hF65 12 1 rfl).trans ((hF56 12 1 rfl).trans ((hF46 12 1 rfl).trans ((by rw [eI42, dkU_sn (by decide)] : I42 12 1 = _).trans ((hF30 12 1 rfl).trans ((hF15 12 1 rfl).trans zp2_0)))))) ((hF65 12 5 rfl).trans y63) y69 y71 ⟨(by rw [show I65 12 2 = (dkSg (I0 13) (I0 12 1) 59 ((dkNg (I0 13) (I0 12 1) 0 ((I0 14 0) - (1 : Int32)) ((I2_ 12 2) + (1 : Int32))).2)).2 from ((hF65 12 2 rfl).trans y61), show I65 14 11 = (I2_ 14 11) + (1 : Int32) from y73, show I65 21 = dkV (I2_ 21) (Int32.toNatClampNeg (I2_ 14 11)) (dkSo ((I0 13) (Int32.toNatClampNeg (I2_ 12 2))).toInt) from y75]; exact dkX4c_s cx2.1 (by omega) q31 (by omega) (dk_nlt (dkN_ge (show dkN [(0, 6)] (I2_ 14 11) from ‹dkOk I2_› 14 11) rfl)) q50 q60 (dkV_s _ _ _) (fun j hj => dkV_n (Nat.ne_of_lt hj))), (by rw [show I65 14 11 = (I2_ 14 11) + (1 : Int32) from y73, ev76, dk_inc d4 rfl, dk_inc (show dkN [(0, 5)] (I2_ 14 11) from dkN_le1 1 (show dkN [(0, 6)] (I2_ 14 11) from ‹dkOk I2_› 14 11) (dkN_lit (x := 6) (6) rfl) (by show (I2_ 14 11).toInt + 1 ≤ (6 : Int); omega) rfl) rfl]; have h9 := cx2.2; omega)⟩ (lv_sub hl [3, 0] rfl)
                          ·
                            obtain ⟨f65_14_11, x65_0, xh65_0, xh65_1, xh65_2, xh65_3, -⟩ := hc65
                            have w77 : I56 14 11 = I2_ 14 11 := ((hF56 14 11 rfl).trans ((hF46 14 11 rfl).trans ((by rw [eI42, dkU_n (by decide)] : I42 14 11 = _).trans ((hF30 14 11 rfl).trans ((hF15 14 11 rfl).trans rfl)))))
                            have q78 : (6 : Int) + 0 ≤ (I2_ 14 11).toInt := by have h := x65_0; rw [w77] at h; exact h
                            have w79 : I56 14 0 = I0 14 0 := ((hF56 14 0 rfl).trans ((hF46 14 0 rfl).trans ((by rw [eI42, dkU_n (by decide)] : I42 14 0 = _).trans ((hF30 14 0 rfl).trans ((hF15 14 0 rfl).trans zp2_2)))))
                            have y80 : I65 14 0 = I0 14 0 := by have h := xh65_0; rw [w79] at h; exact h
                            have w81 : I56 14 4 = I0 14 4 := ((hF56 14 4 rfl).trans ((hF46 14 4 rfl).trans ((by rw [eI42, dkU_n (by decide)] : I42 14 4 = _).trans ((hF30 14 4 rfl).trans ((hF15 14 4 rfl).trans zp2_3)))))
                            have y82 : I65 14 4 = I0 14 4 := by have h := xh65_1; rw [w81] at h; exact h
                            have y83 : I65 14 11 = I2_ 14 11 := by have h := xh65_2; rw [w77] at h; exact h
                            have w84 : I56 21 = I2_ 21 := ((funext fun j => hF56 21 j (dkNin_k rfl (dkNin_k rfl dkNin_nil))).trans ((funext fun j => hF46 21 j (dkNin_k rfl (dkNin_k rfl dkNin_nil))).trans ((by rw [eI42, dkU_n (by decide)] : I42 21 = _).trans ((funext fun j => hF30 21 j dkNin_nil).trans ((funext fun j => hF15 21 j dkNin_nil).trans rfl)))))
                            have y85 : I65 21 = I2_ 21 := by have h := xh65_3; rw [w84] at h; exact h
                            obtain ⟨v86, ev86⟩ : ∃ y : Int32, y = x2_1 + 1 := ⟨_, rfl⟩
                            have dv86 : dkN [(1, 90)] v86 := by rw [ev86]; exact dkN_add d4 (dkN_lit (x := 1) (1) rfl) rfl
                            refine lv_iinc (v := v86) (lv' := [(1, .int v86), (3, .int v46), (2, .int v30), (0, .ref (z + 12))]) hx hb dX2_readsDogs_108 hl (k := 3) rfl (by rw [ev86]; rfl) (by decide) rfl (fun ls hl => ?_)
                            refine lv_goto (tgt := 2) hx hb dX2_readsDogs_111 (by decide) ?_
                            exact ih2 I65 _ _ ls v86 (dk_near hn2 (by rw [ev86]; exact dk_inc d4 rfl) (dkN_lt d4 rfl)) hW hS hF hO (dkN_sub dv86 rfl) (show dkN [(3, 9)] (I65 14 0) from dkN_sub (by rw [hF65 14 0 rfl]; exact (by rw [hF56 14 0 rfl]; exact (by rw [hF46 14 0 rfl]; exact (by rw [eI42, dkU_n (by decide)]; exact (by rw [hF30 14 0 rfl]; exact (by rw [hF15 14 0 rfl]; exact f2_0)))))) rfl) ((funext fun j => hF65 13 j (dkNin_k rfl (dkNin_k rfl (dkNin_k rfl (dkNin_k rfl (dkNin_k rfl dkNin_nil)))))).trans ((funext fun j => hF56 13 j (dkNin_k rfl (dkNin_k rfl dkNin_nil))).trans ((funext fun j => hF46 13 j (dkNin_k rfl (dkNin_k rfl dkNin_nil))).trans ((by rw [eI42, dkU_n (by decide)] : I42 13 = _).trans ((funext fun j => hF30 13 j dkNin_nil).trans ((funext fun j => hF15 13 j dkNin_nil).trans z2_0)))))) ((hF65 12 1 rfl).trans ((hF56 12 1 rfl).trans ((hF46 12 1 rfl).trans ((by rw [eI42, dkU_sn (by decide)] : I42 12 1 = _).trans ((hF30 12 1 rfl).trans ((hF15 12 1 rfl).trans zp2_0)))))) ((hF65 12 5 rfl).trans y63) y80 y82 (by exfalso; omega) (lv_sub hl [3, 0] rfl)
                        ·
                          exact (dkN_nil (show dkN [] v56 from dkN_eq1 dv56 (dkN_lit (x := 0) (0) rfl) (congrArg Int32.toInt c64) rfl)).elim
                      ·
                        obtain ⟨dv56, x56_0, xr56, xh56_0, xh56_1, -⟩ := hc56
                        have w87 : I46 13 = I0 13 := ((funext fun j => hF46 13 j (dkNin_k rfl (dkNin_k rfl dkNin_nil))).trans ((by rw [eI42, dkU_n (by decide)] : I42 13 = _).trans ((funext fun j => hF30 13 j dkNin_nil).trans ((funext fun j => hF15 13 j dkNin_nil).trans z2_0))))
                        have w88 : I46 12 1 = I0 12 1 := ((hF46 12 1 rfl).trans ((by rw [eI42, dkU_sn (by decide)] : I42 12 1 = _).trans ((hF30 12 1 rfl).trans ((hF15 12 1 rfl).trans zp2_0))))
                        have w89 : I46 12 2 = (dkNg (I0 13) (I0 12 1) 0 ((I0 14 0) - (1 : Int32)) ((I2_ 12 2) + (1 : Int32))).2 := y51
                        have q90 : (dkSg (I0 13) (I0 12 1) 59 ((dkNg (I0 13) (I0 12 1) 0 ((I0 14 0) - (1 : Int32)) ((I2_ 12 2) + (1 : Int32))).2)).1 ≠ 0 := by have h := x56_0; rw [w87, w88, w89] at h; exact h
                        have y91 : I56 12 4 = (dkSg (I0 13) (I0 12 1) 59 ((dkNg (I0 13) (I0 12 1) 0 ((I0 14 0) - (1 : Int32)) ((I2_ 12 2) + (1 : Int32))).2)).2 := by have h := xh56_0; rw [w87, w88, w89] at h; exact h
                        have y92 : I56 12 5 = (dkSg (I0 13) (I0 12 1) 59 ((dkNg (I0 13) (I0 12 1) 0 ((I0 14 0) - (1 : Int32)) ((I2_ 12 2) + (1 : Int32))).2)).1 := by have h := xh56_1; rw [w87, w88, w89] at h; exact h
                        have xv56 : v56 = 0 := by have h := xr56; exact h
                        refine lv_if_ne (tgt := 99) hx hb dX2_readsDogs_94 (by decide) (fun c93 => ?_) (fun c93 => ?_)
                        ·
                          exact absurd ((xv56).trans (rfl).symm) c93
                        ·
                          refine lv_iconst (v := 0) hx hb dX2_readsDogs_97 (by decide) ?_
                          have i0 : (0 : Int32).toInt = 0 := rfl
                          have i1 : (1 : Int32).toInt = 1 := rfl
                          have i2 : (2 : Int32).toInt = 2 := rfl
                          have i3 : (3 : Int32).toInt = 3 := rfl
                          have i9 : (9 : Int32).toInt = 9 := rfl
                          have i30 : (30 : Int32).toInt = 30 := rfl
                          have i44 : (44 : Int32).toInt = 44 := rfl
                          have i59 : (59 : Int32).toInt = 59 := rfl
                          have i109 : (109 : Int32).toInt = 109 := rfl
                          have i116 : (116 : Int32).toInt = 116 := rfl
                          have e94 : dkDw (I0 13) (I0 12 1) (I0 14 0) 6 (I0 12 2) = ((dkSg (I0 13) (I0 12 1) 59 ((dkNg (I0 13) (I0 12 1) 0 ((I0 14 0) - (1 : Int32)) ((I2_ 12 2) + (1 : Int32))).2)).1, (dkSg (I0 13) (I0 12 1) 59 ((dkNg (I0 13) (I0 12 1) 0 ((I0 14 0) - (1 : Int32)) ((I2_ 12 2) + (1 : Int32))).2)).2) := dkX2c_f2 cx2.1.1 (by omega) q31 (by omega) q50 q90
                          exact W.zret (v := 0) (ty := .boolean) hx hb hr rfl (fun t ht hW9 => ⟨⟨0, I56, rfl, ⟨hF, hO, Or.inr (⟨dkN_sub (dkN_lit (x := 0) (0) rfl) rfl, (show dkN [(1, 90)] (I56 12 1) from dkN_sub (by rw [hF56 12 1 rfl]; exact f46_12_1) rfl), (show dkN [(3, 9)] (I56 14 0) from dkN_sub (by rw [hF56 14 0 rfl]; exact (by rw [hF46 14 0 rfl]; exact (by rw [eI42, dkU_n (by decide)]; exact (by rw [hF30 14 0 rfl]; exact (by rw [hF15 14 0 rfl]; exact f2_0))))) rfl), (fun q => q90 ((dkP_1 e94).symm.trans q)), rfl, (((show I56 12 4 = (dkSg (I0 13) (I0 12 1) 59 ((dkNg (I0 13) (I0 12 1) 0 ((I0 14 0) - (1 : Int32)) ((I2_ 12 2) + (1 : Int32))).2)).2 from y91)).trans (dkP_2 e94).symm), (((show I56 12 5 = (dkSg (I0 13) (I0 12 1) 59 ((dkNg (I0 13) (I0 12 1) 0 ((I0 14 0) - (1 : Int32)) ((I2_ 12 2) + (1 : Int32))).2)).1 from y92)).trans (dkP_1 e94).symm), trivial⟩)⟩, dkW_eq ht hW⟩, hS.F ht⟩) hS.2.2 dX2_readsDogs_98
                  ·
                    obtain ⟨dv46, x46_0, xr46, xh46_0, xh46_1, -⟩ := hc46
                    have w95 : I42 13 = I0 13 := ((by rw [eI42, dkU_n (by decide)] : I42 13 = _).trans ((funext fun j => hF30 13 j dkNin_nil).trans ((funext fun j => hF15 13 j dkNin_nil).trans z2_0)))
                    have w96 : I42 12 1 = I0 12 1 := ((by rw [eI42, dkU_sn (by decide)] : I42 12 1 = _).trans ((hF30 12 1 rfl).trans ((hF15 12 1 rfl).trans zp2_0)))
                    have w97 : I42 12 2 = (I2_ 12 2) + (1 : Int32) := (by rw [eI42, dkU_ss, xv40])
                    have q98 : (dkNg (I0 13) (I0 12 1) 0 ((I0 14 0) - (1 : Int32)) ((I2_ 12 2) + (1 : Int32))).1 ≠ 0 := by have h := x46_0; rw [w95, w96, w97, xv44] at h; exact h
                    have y99 : I46 12 4 = (dkNg (I0 13) (I0 12 1) 0 ((I0 14 0) - (1 : Int32)) ((I2_ 12 2) + (1 : Int32))).2 := by have h := xh46_0; rw [w95, w96, w97, xv44] at h; exact h
                    have y100 : I46 12 5 = (dkNg (I0 13) (I0 12 1) 0 ((I0 14 0) - (1 : Int32)) ((I2_ 12 2) + (1 : Int32))).1 := by have h := xh46_1; rw [w95, w96, w97, xv44] at h; exact h
                    have xv46 : v46 = (-1000000) := by have h := xr46; exact h
                    refine lv_istore_n (lv' := [(3, .int v46), (2, .int v30), (0, .ref (z + 12)), (1, .int x2_1)]) hx hb dX2_readsDogs_81 rfl hl (by decide) rfl (fun ls hl => ?_)
                    refine lv_iload_n hx hb dX2_readsDogs_82 rfl (lv_at hl 0 rfl) ?_
                    refine lv_ldc (v := (-1000000)) hx hb hown (hts (.constant RX2 50 (-1000000)) (List.mem_of_getElem? (i := 3) rfl)) dX2_readsDogs_83 ?_
                    refine lv_icmp_eq (tgt := 97) hx hb dX2_readsDogs_85 (by decide) (fun c101 => ?_) (fun c101 => ?_)
                    ·
                      refine lv_iconst (v := 0) hx hb dX2_readsDogs_97 (by decide) ?_
                      have i0 : (0 : Int32).toInt = 0 := rfl
                      have i1 : (1 : Int32).toInt = 1 := rfl
                      have i2 : (2 : Int32).toInt = 2 := rfl
                      have i3 : (3 : Int32).toInt = 3 := rfl
                      have i9 : (9 : Int32).toInt = 9 := rfl
                      have i30 : (30 : Int32).toInt = 30 := rfl
                      have i44 : (44 : Int32).toInt = 44 := rfl
                      have i59 : (59 : Int32).toInt = 59 := rfl
                      have i109 : (109 : Int32).toInt = 109 := rfl
                      have i116 : (116 : Int32).toInt = 116 := rfl
                      have e102 : dkDw (I0 13) (I0 12 1) (I0 14 0) 6 (I0 12 2) = ((dkNg (I0 13) (I0 12 1) 0 ((I0 14 0) - (1 : Int32)) ((I2_ 12 2) + (1 : Int32))).1, (dkNg (I0 13) (I0 12 1) 0 ((I0 14 0) - (1 : Int32)) ((I2_ 12 2) + (1 : Int32))).2) := dkX2c_f1 cx2.1.1 (by omega) q31 (by omega) q98
                      exact W.zret (v := 0) (ty := .boolean) hx hb hr rfl (fun t ht hW9 => ⟨⟨0, I46, rfl, ⟨hF, hO, Or.inr (⟨dkN_sub (dkN_lit (x := 0) (0) rfl) rfl, (show dkN [(1, 90)] (I46 12 1) from dkN_sub (by rw [hF46 12 1 rfl]; exact (by rw [eI42, dkU_sn (by decide)]; exact (by rw [hF30 12 1 rfl]; exact f15_12_1))) rfl), (show dkN [(3, 9)] (I46 14 0) from dkN_sub (by rw [hF46 14 0 rfl]; exact (by rw [eI42, dkU_n (by decide)]; exact (by rw [hF30 14 0 rfl]; exact (by rw [hF15 14 0 rfl]; exact f2_0)))) rfl), (fun q => q98 ((dkP_1 e102).symm.trans q)), rfl, (((show I46 12 4 = (dkNg (I0 13) (I0 12 1) 0 ((I0 14 0) - (1 : Int32)) ((I2_ 12 2) + (1 : Int32))).2 from y99)).trans (dkP_2 e102).symm), (((show I46 12 5 = (dkNg (I0 13) (I0 12 1) 0 ((I0 14 0) - (1 : Int32)) ((I2_ 12 2) + (1 : Int32))).1 from y100)).trans (dkP_1 e102).symm), trivial⟩)⟩, dkW_eq ht hW⟩, hS.F ht⟩) hS.2.2 dX2_readsDogs_98
                    ·
                      exact absurd ((xv46).trans (rfl).symm) c101
                ·
                  have q103 : (6 : Int) + 0 ≤ (I2_ 14 11).toInt := by first | (rw [← xv34]; exact (dkc_nlt c35)) | (subst xv34; exact (dkc_nlt c35))
                  have d104 : dkN [(6, 6)] v34 := dkN_le2 0 (dkN_lit (x := 6) (6) rfl) dv34 (dkc_nlt c35) rfl
                  have f105 : dkN [(6, 6)] (I2_ 14 11) := by rw [← ev34]; exact d104
                  refine lv_aload_n hx hb dX2_readsDogs_51 rfl (lv_at hl 1 rfl) ?_
                  refine lv_iconst (v := 3) hx hb dX2_readsDogs_52 (by decide) ?_
                  refine dk_Vi (As := [.int 3]) (rest := []) ⟨hx, hb, hml, hown, hts⟩ (fx_X2_meets_5 l g z I2_ 3 (dkN_lit (x := 3) (3) rfl) hO) (cwV 1 hts gX2_readsDogs_X2_meets rfl rfl rfl (by decide +kernel) ⟨Nat.le_of_ble_eq_true rfl, Nat.le_of_ble_eq_true rfl⟩) (dk_at12 hW) rfl hK hT hW hS rfl hl.1 rfl (Nat.le_of_ble_eq_true rfl) dX2_readsDogs_53 ⟨Nat.zero_le _, Nat.zero_le _⟩ (fun v106 I106 H106 L106 hp106 hW hS => ?_)
                  obtain ⟨hF106, hO, hc106⟩ := hp106
                  have hF := dkF_call hF hF106 rfl
                  obtain ⟨dv106, f106_12_4, f106_12_5, xr106, xh106_0, xh106_1, xh106_2, -⟩ := hc106
                  have w107 : I2_ 12 2 = I2_ 12 2 := ((hF30 12 2 rfl).trans ((hF15 12 2 rfl).trans rfl))
                  have y108 : I106 12 2 = I2_ 12 2 := by have h := xh106_0; rw [w107] at h; exact h
                  have y109 : I106 12 4 = I2_ 12 2 := by have h := xh106_1; rw [w107] at h; exact h
                  have y110 : I106 12 5 = 3 := by have h := xh106_2; exact h
                  have xv106 : v106 = 0 := by have h := xr106; exact h
                  have i0 : (0 : Int32).toInt = 0 := rfl
                  have i1 : (1 : Int32).toInt = 1 := rfl
                  have i2 : (2 : Int32).toInt = 2 := rfl
                  have i3 : (3 : Int32).toInt = 3 := rfl
                  have i9 : (9 : Int32).toInt = 9 := rfl
                  have i30 : (30 : Int32).toInt = 30 := rfl
                  have i44 : (44 : Int32).toInt = 44 := rfl
                  have i59 : (59 : Int32).toInt = 59 := rfl
                  have i109 : (109 : Int32).toInt = 109 := rfl
                  have i116 : (116 : Int32).toInt = 116 := rfl
                  have e111 : dkDw (I0 13) (I0 12 1) (I0 14 0) 6 (I0 12 2) = (3, I2_ 12 2) := dkX2c_o cx2.1.1 (by omega) q31 (by omega)
                  exact W.zret (v := v106) (ty := .boolean) hx hb hr (dkN_zr dv106 rfl) (fun t ht hW9 => ⟨⟨v106, I106, rfl, ⟨hF, hO, Or.inr (⟨dkN_sub dv106 rfl, (show dkN [(1, 90)] (I106 12 1) from dkN_sub (by rw [hF106 12 1 rfl]; exact (by rw [hF30 12 1 rfl]; exact f15_12_1)) rfl), (show dkN [(3, 9)] (I106 14 0) from dkN_sub (by rw [hF106 14 0 rfl]; exact (by rw [hF30 14 0 rfl]; exact (by rw [hF15 14 0 rfl]; exact f2_0))) rfl), (dkE_k e111 (by decide)), xv106, (((show I106 12 4 = I2_ 12 2 from y109)).trans (dkP_2 e111).symm), (((show I106 12 5 = 3 from y110)).trans (dkP_1 e111).symm), trivial⟩)⟩, dkW_eq ht hW⟩, hS.F ht⟩) hS.2.2 dX2_readsDogs_56
              ·
                exact (dkN_nil (show dkN [] v30 from dkN_eq1 dv30 (dkN_lit (x := (-1000000)) (-1000000) rfl) (congrArg Int32.toInt c32) rfl)).elim
            ·
              obtain ⟨dv30, x30_0, xr30, -⟩ := hc30
              have q112 : dkSo ((I0 13) (Int32.toNatClampNeg (I2_ 12 2))).toInt = -1000000 := by have h := x30_0; rw [xv15] at h; exact h
              have xv30 : v30 = (-1000000) := by have h := xr30; exact h
              refine lv_istore_n (lv' := [(2, .int v30), (0, .ref (z + 12)), (1, .int x2_1)]) hx hb dX2_readsDogs_26 rfl hl (by decide) rfl (fun ls hl => ?_)
              refine lv_iload_n hx hb dX2_readsDogs_27 rfl (lv_at hl 0 rfl) ?_
              refine lv_ldc (v := (-1000000)) hx hb hown (hts (.constant RX2 50 (-1000000)) (List.mem_of_getElem? (i := 3) rfl)) dX2_readsDogs_28 ?_
              refine lv_icmp_ne (tgt := 39) hx hb dX2_readsDogs_30 (by decide) (fun c113 => ?_) (fun c113 => ?_)
              ·
                exact absurd ((xv30).trans (rfl).symm) c113
              ·
                refine lv_aload_n hx hb dX2_readsDogs_33 rfl (lv_at hl 1 rfl) ?_
                refine lv_iconst (v := 1) hx hb dX2_readsDogs_34 (by decide) ?_
                refine dk_Vi (As := [.int 1]) (rest := []) ⟨hx, hb, hml, hown, hts⟩ (fx_X2_meets_3 l g z I2_ 1 (dkN_lit (x := 1) (1) rfl) hO) (cwV 1 hts gX2_readsDogs_X2_meets rfl rfl rfl (by decide +kernel) ⟨Nat.le_of_ble_eq_true rfl, Nat.le_of_ble_eq_true rfl⟩) (dk_at12 hW) rfl hK hT hW hS rfl hl.1 rfl (Nat.le_of_ble_eq_true rfl) dX2_readsDogs_35 ⟨Nat.zero_le _, Nat.zero_le _⟩ (fun v114 I114 H114 L114 hp114 hW hS => ?_)
                obtain ⟨hF114, hO, hc114⟩ := hp114
                have hF := dkF_call hF hF114 rfl
                obtain ⟨dv114, f114_12_4, f114_12_5, xr114, xh114_0, xh114_1, xh114_2, -⟩ := hc114
                have w115 : I2_ 12 2 = I2_ 12 2 := ((hF30 12 2 rfl).trans ((hF15 12 2 rfl).trans rfl))
                have y116 : I114 12 2 = I2_ 12 2 := by have h := xh114_0; rw [w115] at h; exact h
                have y117 : I114 12 4 = I2_ 12 2 := by have h := xh114_1; rw [w115] at h; exact h
                have y118 : I114 12 5 = 1 := by have h := xh114_2; exact h
                have xv114 : v114 = 0 := by have h := xr114; exact h
                have i0 : (0 : Int32).toInt = 0 := rfl
                have i1 : (1 : Int32).toInt = 1 := rfl
                have i2 : (2 : Int32).toInt = 2 := rfl
                have i3 : (3 : Int32).toInt = 3 := rfl
                have i9 : (9 : Int32).toInt = 9 := rfl
                have i30 : (30 : Int32).toInt = 30 := rfl
                have i44 : (44 : Int32).toInt = 44 := rfl
                have i59 : (59 : Int32).toInt = 59 := rfl
                have i109 : (109 : Int32).toInt = 109 := rfl
                have i116 : (116 : Int32).toInt = 116 := rfl
                have e119 : dkDw (I0 13) (I0 12 1) (I0 14 0) 6 (I0 12 2) = (1, I2_ 12 2) := dkX2c_u cx2.1.1 (by omega) q112
                exact W.zret (v := v114) (ty := .boolean) hx hb hr (dkN_zr dv114 rfl) (fun t ht hW9 => ⟨⟨v114, I114, rfl, ⟨hF, hO, Or.inr (⟨dkN_sub dv114 rfl, (show dkN [(1, 90)] (I114 12 1) from dkN_sub (by rw [hF114 12 1 rfl]; exact (by rw [hF30 12 1 rfl]; exact f15_12_1)) rfl), (show dkN [(3, 9)] (I114 14 0) from dkN_sub (by rw [hF114 14 0 rfl]; exact (by rw [hF30 14 0 rfl]; exact (by rw [hF15 14 0 rfl]; exact f2_0))) rfl), (dkE_k e119 (by decide)), xv114, (((show I114 12 4 = I2_ 12 2 from y117)).trans (dkP_2 e119).symm), (((show I114 12 5 = 1 from y118)).trans (dkP_1 e119).symm), trivial⟩)⟩, dkW_eq ht hW⟩, hS.F ht⟩) hS.2.2 dX2_readsDogs_38
  refine lv_iconst (v := 0) hx hb dX2_readsDogs_0 (by decide) ?_
  refine lv_istore_n (lv' := [(1, .int 0), (0, .ref (z + 12))]) hx hb dX2_readsDogs_1 rfl hl (by decide) rfl (fun ls hl => ?_)
  exact C2 _ I0 _ _ ls 0 (Nat.lt_succ_self _) hW hS hF hO (dkN_sub (dkN_lit (x := 0) (0) rfl) rfl) (show dkN [(3, 9)] (I0 14 0) from dkN_sub np0 rfl) rfl rfl rfl rfl rfl ⟨(by rw [show I0 12 2 = I0 12 2 from rfl, show I0 14 11 = I0 14 11 from rfl, (show I0 14 11 = 0 from dkN_is np1 rfl)]; exact dkX4_0), (by rw [show I0 14 11 = I0 14 11 from rfl, (show I0 14 11 = 0 from dkN_is np1 rfl)])⟩ (lv_sub hl [1, 0] rfl)
set_option maxHeartbeats 4000000 in
set_option maxRecDepth 100000 in
theorem fx_X2_reads_1 (l : Launch) (g : dkG) (z : Nat) (I0 : dkI)  (hO : dkOk I0) : Met l yX2_reads wsX2_reads (dkR 4) (dkPc g z [.ref (z + 12)] I0) (dkQi g z (fun r I1 => dkF [(12, 12, 1, 2), (12, 12, 4, 5), (14, 14, 0, 4), (14, 14, 11, 11), (14, 14, 15, 17), (15, 15, 0, 4), (16, 16, 0, 4), (17, 17, 0, 4), (18, 18, 0, 4), (19, 19, 0, 4), (20, 20, 0, 4), (21, 21, 0, 5), (22, 22, 0, 5), (23, 23, 0, 5)] I0 I1 ∧ dkOk I1 ∧ ((dkN [(0, 0)] r ∧ dkN [(0, 0)] (I1 12 1) ∧ (dkTw (I0 13) (I0 12 1)).1 ≠ 0 ∧ r = 0 ∧ I1 12 1 = 0 ∧ I1 12 4 = (dkTw (I0 13) (I0 12 1)).2 ∧ I1 12 5 = (dkTw (I0 13) (I0 12 1)).1 ∧ True) ∨ (dkN [(1, 1)] r ∧ dkN [(0, 0)] (I1 12 1) ∧ dkN [(3, 9)] (I1 14 0) ∧ dkN [(1, 30)] (I1 14 1) ∧ dkN [(0, 0)] (I1 14 16) ∧ dkN [(0, 0)] (I1 14 17) ∧ dkN [(0, 0)] (I1 14 2) ∧ dkN [(0, 0)] (I1 14 3) ∧ dkN [(1, 5)] (I1 14 4) ∧ (dkTw (I0 13) (I0 12 1)).1 = 0 ∧ r = 1 ∧ I1 12 1 = 0 ∧ I1 12 5 = I0 12 5 ∧ I1 14 0 = dkHh (I0 13) (I0 12 1) ∧ I1 14 4 = dkTp (I0 13) (I0 12 1) ∧ I1 14 11 = dkTd (I0 13) (I0 12 1) ∧ (∀ j : Nat, j < Int32.toNatClampNeg (dkTd (I0 13) (I0 12 1)) → I1 21 j = dkSs (I0 13) (I0 12 1) j ∧ dkSs (I0 13) (I0 12 1) j ≠ -1000000) ∧ True)))) 0 0 (dkA z) := by
  refine Met.ofW (cc := cX2_reads) (maxL := 2) (ret := (some .boolean)) (by decide) rfl ?_
  intro p e s m args below meth c s₁ B hml hv
  obtain ⟨ha, hW, hK, hT⟩ := hv
  have hx := B.exec
  have hb := B.bytes
  have hr := B.returns
  have hts := atoms_spec (ws := wsX2_reads) B.pre
  have hown : s.vm.findClass RX2 = some m.cls := findClass_of_methodNamed B.named
  have hlocks := B.notSynchronized
  have hS : va_S (dkA z) s.heap s.heap [] := va_S.rf
  have hF : dkF [(12, 12, 1, 2), (12, 12, 4, 5), (14, 14, 0, 4), (14, 14, 11, 11), (14, 14, 15, 17), (15, 15, 0, 4), (16, 16, 0, 4), (17, 17, 0, 4), (18, 18, 0, 4), (19, 19, 0, 4), (20, 20, 0, 4), (21, 21, 0, 5), (22, 22, 0, 5), (23, 23, 0, 5)] I0 I0 := dkF_rf _ _
  have hl := lv_entry ([.ref (z + 12)]) (n := 2) (Nat.le_of_ble_eq_true rfl)
  have hgo : entryFrame m args 2 = entryFrame m ([.ref (z + 12)] : List Value).toArray 2 := by rw [ha]
  rw [hgo, lg_entry_eq]
  generalize (lg_sl ([.ref (z + 12)]) ++ List.replicate (2 - (lg_sl ([.ref (z + 12)])).length) Slot.unset).toArray = ls at hl ⊢
  have hl : lv_has ls 2 [(0, .ref (z + 12))] := hl
  refine lv_aload_n hx hb dX2_reads_0 rfl (lv_at hl 0 rfl) ?_
  refine lv_iconst (v := 0) hx hb dX2_reads_1 (by decide) ?_
  refine dk_put (k := 12) hx hb hts iX2_reads_2 tyX2 tyX2_ok nmX2 hown hK hW (dk_at12 hW) hS rfl 2 (by decide) (hts (.fieldLink RX2 30 "DogKings$Reader" "at" "I") (List.mem_of_getElem? (i := 1) rfl)) rfl rfl (Nat.le_of_ble_eq_true rfl) rfl dX2_reads_2 (fun I1 H1 L1 eI1 hW hS => ?_)
  have eI1 : I1 = dkU I0 12 2 0 := eI1
  have hO := dkO_set hO eI1 (dkN_sub (dkN_lit (x := 0) (0) rfl) rfl)
  have hF := dkF_set hF eI1 rfl
  refine lv_aload_n hx hb dX2_reads_5 rfl (lv_at hl 0 rfl) ?_
  refine dk_Vi (As := []) (rest := []) ⟨hx, hb, hml, hown, hts⟩ (h_X2_readsLaw_0 l g z I1 hO) (cwV 0 hts gX2_reads_X2_readsLaw rfl rfl rfl (by decide +kernel) ⟨Nat.le_of_ble_eq_true rfl, Nat.le_of_ble_eq_true rfl⟩) (dk_at12 hW) rfl hK hT hW hS rfl hl.1 rfl (Nat.le_of_ble_eq_true rfl) dX2_reads_6 ⟨Nat.zero_le _, Nat.zero_le _⟩ (fun v2 I2 H2 L2 hp2 hW hS => ?_)
  obtain ⟨hF2, hO, hc2⟩ := hp2
  have hF := dkF_call hF hF2 rfl
  rcases hc2 with ⟨dv2, f2_12_1, f2_12_2, f2_14_0, f2_14_1, f2_14_11, f2_14_15, f2_14_16, f2_14_17, f2_14_2, f2_14_3, f2_14_4, x2_0, xr2, xh2_0, xh2_1, xh2_2, xh2_3, xh2_4, -⟩ | hc2
  ·
    have w3 : I1 13 = I0 13 := ((by rw [eI1, dkU_n (by decide)] : I1 13 = _).trans rfl)
    have w4 : I1 12 1 = I0 12 1 := ((by rw [eI1, dkU_sn (by decide)] : I1 12 1 = _).trans rfl)
    have w5 : I1 12 2 = 0 := (by rw [eI1, dkU_ss])
    have q6 : (dkLw (I0 13) (I0 12 1) (0)).1 = 0 := by have h := x2_0; rw [w3, w4, w5] at h; exact h
    have y7 : I2 12 2 = (dkLw (I0 13) (I0 12 1) (0)).2 := by have h := xh2_0; rw [w3, w4, w5] at h; exact h
    have w8 : I1 12 5 = I0 12 5 := ((by rw [eI1, dkU_sn (by decide)] : I1 12 5 = _).trans rfl)
    have y9 : I2 12 5 = I0 12 5 := by have h := xh2_1; rw [w8] at h; exact h
    have y10 : I2 14 0 = dkNn (I0 13) (I0 12 1) (dkSg (I0 13) (I0 12 1) 116 (0)).2 := by have h := xh2_2; rw [w3, w4, w5] at h; exact h
    have y11 : I2 14 4 = 0 := by have h := xh2_3; exact h
    have y12 : I2 14 11 = 0 := by have h := xh2_4; exact h
    have xv2 : v2 = 1 := by have h := xr2; exact h
    refine lv_if_eq (tgt := 30) hx hb dX2_reads_9 (by decide) (fun c13 => ?_) (fun c13 => ?_)
    ·
      exact (dkN_nil (show dkN [] v2 from dkN_eq1 dv2 (dkN_lit (x := 0) (0) rfl) (congrArg Int32.toInt c13) rfl)).elim
    ·
      refine lv_aload_n hx hb dX2_reads_12 rfl (lv_at hl 0 rfl) ?_
      refine dk_Vi (As := []) (rest := []) ⟨hx, hb, hml, hown, hts⟩ (fx_X2_readsPeople_1 l g z I2 (show dkN [(3, 9)] (I2 14 0) from dkN_sub f2_14_0 rfl) (show dkN [(0, 0)] (I2 14 4) from dkN_sub f2_14_4 rfl) hO) (cwV 0 hts gX2_reads_X2_readsPeople rfl rfl rfl (by decide +kernel) ⟨Nat.le_of_ble_eq_true rfl, Nat.le_of_ble_eq_true rfl⟩) (dk_at12 hW) rfl hK hT hW hS rfl hl.1 rfl (Nat.le_of_ble_eq_true rfl) dX2_reads_13 ⟨Nat.zero_le _, Nat.zero_le _⟩ (fun v14 I14 H14 L14 hp14 hW hS => ?_)
      obtain ⟨hF14, hO, hc14⟩ := hp14
      have hF := dkF_call hF hF14 rfl
      rcases hc14 with ⟨dv14, f14_14_0, x14_0, xr14, xh14_0, xh14_1, -⟩ | hc14
      ·
        have w15 : I2 13 = I0 13 := ((funext fun j => hF2 13 j (dkNin_k rfl (dkNin_k rfl (dkNin_k rfl (dkNin_k rfl (dkNin_k rfl dkNin_nil)))))).trans ((by rw [eI1, dkU_n (by decide)] : I1 13 = _).trans rfl))
        have w16 : I2 12 1 = I0 12 1 := ((hF2 12 1 rfl).trans ((by rw [eI1, dkU_sn (by decide)] : I1 12 1 = _).trans rfl))
        have w17 : I2 14 0 = dkNn (I0 13) (I0 12 1) (dkSg (I0 13) (I0 12 1) 116 (0)).2 := y10
        have w18 : I2 12 2 = (dkLw (I0 13) (I0 12 1) (0)).2 := y7
        have q19 : (dkPs (I0 13) (I0 12 1) (dkNn (I0 13) (I0 12 1) (dkSg (I0 13) (I0 12 1) 116 (0)).2) ((dkLw (I0 13) (I0 12 1) (0)).2)).1 ≠ 0 := by have h := x14_0; rw [w15, w16, w17, w18] at h; exact h
        have y20 : I14 12 4 = (dkPs (I0 13) (I0 12 1) (dkNn (I0 13) (I0 12 1) (dkSg (I0 13) (I0 12 1) 116 (0)).2) ((dkLw (I0 13) (I0 12 1) (0)).2)).2 := by have h := xh14_0; rw [w15, w16, w17, w18] at h; exact h
        have y21 : I14 12 5 = (dkPs (I0 13) (I0 12 1) (dkNn (I0 13) (I0 12 1) (dkSg (I0 13) (I0 12 1) 116 (0)).2) ((dkLw (I0 13) (I0 12 1) (0)).2)).1 := by have h := xh14_1; rw [w15, w16, w17, w18] at h; exact h
        have xv14 : v14 = 0 := by have h := xr14; exact h
        refine lv_if_eq (tgt := 30) hx hb dX2_reads_16 (by decide) (fun c22 => ?_) (fun c22 => ?_)
        ·
          refine lv_iconst (v := 0) hx hb dX2_reads_30 (by decide) ?_
          refine lv_istore_n (lv' := [(1, .int 0), (0, .ref (z + 12))]) hx hb dX2_reads_31 rfl hl (by decide) rfl (fun ls hl => ?_)
          refine lv_aload_n hx hb dX2_reads_32 rfl (lv_at hl 1 rfl) ?_
          refine lv_iconst (v := 0) hx hb dX2_reads_33 (by decide) ?_
          refine dk_put (k := 12) hx hb hts iX2_reads_2 tyX2 tyX2_ok nmX2 hown hK hW (dk_at12 hW) hS rfl 1 (by decide) (hts (.fieldLink RX2 22 "DogKings$Reader" "bytes" "I") (List.mem_of_getElem? (i := 2) rfl)) rfl rfl (Nat.le_of_ble_eq_true rfl) rfl dX2_reads_34 (fun I23 H23 L23 eI23 hW hS => ?_)
          have eI23 : I23 = dkU I14 12 1 0 := eI23
          have hO := dkO_set hO eI23 (dkN_sub (dkN_lit (x := 0) (0) rfl) rfl)
          have hF := dkF_set hF eI23 rfl
          refine lv_iload_n hx hb dX2_reads_37 rfl (lv_at hl 0 rfl) ?_
          exact W.zret (v := 0) (ty := .boolean) hx hb hr rfl (fun t ht hW9 => ⟨⟨0, I23, rfl, ⟨hF, hO, Or.inl ⟨dkN_sub (dkN_lit (x := 0) (0) rfl) rfl, (show dkN [(0, 0)] (I23 12 1) from dkN_sub (by rw [eI23, dkU_ss]; exact (dkN_lit (x := 0) (0) rfl)) rfl), (fun q => q19 ((congrArg Prod.fst (dkTw_2 q6 q19)).symm.trans q)), rfl, (show I23 12 1 = 0 from (by rw [eI23, dkU_ss])), (((show I23 12 4 = (dkPs (I0 13) (I0 12 1) (dkNn (I0 13) (I0 12 1) (dkSg (I0 13) (I0 12 1) 116 (0)).2) ((dkLw (I0 13) (I0 12 1) (0)).2)).2 from ((by rw [eI23, dkU_sn (by decide)] : I23 12 4 = _).trans y20))).trans (congrArg Prod.snd (dkTw_2 q6 q19)).symm), (((show I23 12 5 = (dkPs (I0 13) (I0 12 1) (dkNn (I0 13) (I0 12 1) (dkSg (I0 13) (I0 12 1) 116 (0)).2) ((dkLw (I0 13) (I0 12 1) (0)).2)).1 from ((by rw [eI23, dkU_sn (by decide)] : I23 12 5 = _).trans y21))).trans (congrArg Prod.fst (dkTw_2 q6 q19)).symm), trivial⟩⟩, dkW_eq ht hW⟩, hS.F ht⟩) hS.2.2 dX2_reads_38
        ·
          exact absurd ((xv14).trans (rfl).symm) c22
      ·
        obtain ⟨dv14, f14_12_1, f14_14_0, f14_14_4, x14_0, xr14, xh14_0, xh14_1, xh14_2, xh14_3, xh14_4, -⟩ := hc14
        have w24 : I2 13 = I0 13 := ((funext fun j => hF2 13 j (dkNin_k rfl (dkNin_k rfl (dkNin_k rfl (dkNin_k rfl (dkNin_k rfl dkNin_nil)))))).trans ((by rw [eI1, dkU_n (by decide)] : I1 13 = _).trans rfl))
        have w25 : I2 12 1 = I0 12 1 := ((hF2 12 1 rfl).trans ((by rw [eI1, dkU_sn (by decide)] : I1 12 1 = _).trans rfl))
        have w26 : I2 14 0 = dkNn (I0 13) (I0 12 1) (dkSg (I0 13) (I0 12 1) 116 (0)).2 := y10
        have w27 : I2 12 2 = (dkLw (I0 13) (I0 12 1) (0)).2 := y7
        have q28 : (dkPs (I0 13) (I0 12 1) (dkNn (I0 13) (I0 12 1) (dkSg (I0 13) (I0 12 1) 116 (0)).2) ((dkLw (I0 13) (I0 12 1) (0)).2)).1 = 0 := by have h := x14_0; rw [w24, w25, w26, w27] at h; exact h
        have y29 : I14 12 2 = (dkPs (I0 13) (I0 12 1) (dkNn (I0 13) (I0 12 1) (dkSg (I0 13) (I0 12 1) 116 (0)).2) ((dkLw (I0 13) (I0 12 1) (0)).2)).2 := by have h := xh14_0; rw [w24, w25, w26, w27] at h; exact h
        have w30 : I2 12 5 = I0 12 5 := y9
        have y31 : I14 12 5 = I0 12 5 := by have h := xh14_1; rw [w30] at h; exact h
        have y32 : I14 14 0 = dkNn (I0 13) (I0 12 1) (dkSg (I0 13) (I0 12 1) 116 (0)).2 := by have h := xh14_2; rw [w26] at h; exact h
        have y33 : I14 14 4 = dkPk (I0 13) (I0 12 1) (dkNn (I0 13) (I0 12 1) (dkSg (I0 13) (I0 12 1) 116 (0)).2) 5 ((dkLw (I0 13) (I0 12 1) (0)).2) 0 := by have h := xh14_3; rw [w24, w25, w26, w27] at h; exact h
        have w34 : I2 14 11 = 0 := y12
        have y35 : I14 14 11 = 0 := by have h := xh14_4; rw [w34] at h; exact h
        have xv14 : v14 = 1 := by have h := xr14; exact h
        refine lv_if_eq (tgt := 30) hx hb dX2_reads_16 (by decide) (fun c36 => ?_) (fun c36 => ?_)
        ·
          exact (dkN_nil (show dkN [] v14 from dkN_eq1 dv14 (dkN_lit (x := 0) (0) rfl) (congrArg Int32.toInt c36) rfl)).elim
        ·
          refine lv_aload_n hx hb dX2_reads_19 rfl (lv_at hl 0 rfl) ?_
          refine dk_Vi (As := []) (rest := []) ⟨hx, hb, hml, hown, hts⟩ (fx_X2_readsDogs_1 l g z I14 (show dkN [(3, 9)] (I14 14 0) from dkN_sub f14_14_0 rfl) (show dkN [(0, 0)] (I14 14 11) from dkN_sub (by rw [hF14 14 11 rfl]; exact f2_14_11) rfl) hO) (cwV 0 hts gX2_reads_X2_readsDogs rfl rfl rfl (by decide +kernel) ⟨Nat.le_of_ble_eq_true rfl, Nat.le_of_ble_eq_true rfl⟩) (dk_at12 hW) rfl hK hT hW hS rfl hl.1 rfl (Nat.le_of_ble_eq_true rfl) dX2_reads_20 ⟨Nat.zero_le _, Nat.zero_le _⟩ (fun v37 I37 H37 L37 hp37 hW hS => ?_)
          obtain ⟨hF37, hO, hc37⟩ := hp37
          have hF := dkF_call hF hF37 rfl
          rcases hc37 with ⟨dv37, f37_14_0, x37_0, xr37, xh37_0, xh37_1, xh37_2, xh37_3, xp37_0, -⟩ | hc37
          ·
            have w38 : I14 13 = I0 13 := ((funext fun j => hF14 13 j (dkNin_k rfl (dkNin_k rfl (dkNin_k rfl (dkNin_k rfl (dkNin_k rfl (dkNin_k rfl (dkNin_k rfl (dkNin_k rfl (dkNin_k rfl dkNin_nil)))))))))).trans ((funext fun j => hF2 13 j (dkNin_k rfl (dkNin_k rfl (dkNin_k rfl (dkNin_k rfl (dkNin_k rfl dkNin_nil)))))).trans ((by rw [eI1, dkU_n (by decide)] : I1 13 = _).trans rfl)))
            have w39 : I14 12 1 = I0 12 1 := ((hF14 12 1 rfl).trans ((hF2 12 1 rfl).trans ((by rw [eI1, dkU_sn (by decide)] : I1 12 1 = _).trans rfl)))
            have w40 : I14 14 0 = dkNn (I0 13) (I0 12 1) (dkSg (I0 13) (I0 12 1) 116 (0)).2 := y32
            have w41 : I14 12 2 = (dkPs (I0 13) (I0 12 1) (dkNn (I0 13) (I0 12 1) (dkSg (I0 13) (I0 12 1) 116 (0)).2) ((dkLw (I0 13) (I0 12 1) (0)).2)).2 := y29
            have q42 : (dkDw (I0 13) (I0 12 1) (dkNn (I0 13) (I0 12 1) (dkSg (I0 13) (I0 12 1) 116 (0)).2) 6 ((dkPs (I0 13) (I0 12 1) (dkNn (I0 13) (I0 12 1) (dkSg (I0 13) (I0 12 1) 116 (0)).2) ((dkLw (I0 13) (I0 12 1) (0)).2)).2)).1 = 0 := by have h := x37_0; rw [w38, w39, w40, w41] at h; exact h
            have w43 : I14 12 5 = I0 12 5 := y31
            have y44 : I37 12 5 = I0 12 5 := by have h := xh37_0; rw [w43] at h; exact h
            have y45 : I37 14 0 = dkNn (I0 13) (I0 12 1) (dkSg (I0 13) (I0 12 1) 116 (0)).2 := by have h := xh37_1; rw [w40] at h; exact h
            have w46 : I14 14 4 = dkPk (I0 13) (I0 12 1) (dkNn (I0 13) (I0 12 1) (dkSg (I0 13) (I0 12 1) 116 (0)).2) 5 ((dkLw (I0 13) (I0 12 1) (0)).2) 0 := y33
            have y47 : I37 14 4 = dkPk (I0 13) (I0 12 1) (dkNn (I0 13) (I0 12 1) (dkSg (I0 13) (I0 12 1) 116 (0)).2) 5 ((dkLw (I0 13) (I0 12 1) (0)).2) 0 := by have h := xh37_2; rw [w46] at h; exact h
            have y48 : I37 14 11 = dkDk (I0 13) (I0 12 1) (dkNn (I0 13) (I0 12 1) (dkSg (I0 13) (I0 12 1) 116 (0)).2) 6 ((dkPs (I0 13) (I0 12 1) (dkNn (I0 13) (I0 12 1) (dkSg (I0 13) (I0 12 1) 116 (0)).2) ((dkLw (I0 13) (I0 12 1) (0)).2)).2) 0 := by have h := xh37_3; rw [w38, w39, w40, w41] at h; exact h
            have yp49 : ∀ j : Nat, j < Int32.toNatClampNeg (dkDk (I0 13) (I0 12 1) (dkNn (I0 13) (I0 12 1) (dkSg (I0 13) (I0 12 1) 116 (0)).2) 6 ((dkPs (I0 13) (I0 12 1) (dkNn (I0 13) (I0 12 1) (dkSg (I0 13) (I0 12 1) 116 (0)).2) ((dkLw (I0 13) (I0 12 1) (0)).2)).2) 0) → I37 21 j = dkSo ((I0 13) (Int32.toNatClampNeg (dkDp (I0 13) (I0 12 1) (dkNn (I0 13) (I0 12 1) (dkSg (I0 13) (I0 12 1) 116 (0)).2) ((dkPs (I0 13) (I0 12 1) (dkNn (I0 13) (I0 12 1) (dkSg (I0 13) (I0 12 1) 116 (0)).2) ((dkLw (I0 13) (I0 12 1) (0)).2)).2) j))).toInt ∧ dkSo ((I0 13) (Int32.toNatClampNeg (dkDp (I0 13) (I0 12 1) (dkNn (I0 13) (I0 12 1) (dkSg (I0 13) (I0 12 1) 116 (0)).2) ((dkPs (I0 13) (I0 12 1) (dkNn (I0 13) (I0 12 1) (dkSg (I0 13) (I0 12 1) 116 (0)).2) ((dkLw (I0 13) (I0 12 1) (0)).2)).2) j))).toInt ≠ -1000000 := by have h := xp37_0; rw [w38, w39, w40, w41] at h; exact h
            have xv37 : v37 = 1 := by have h := xr37; exact h
            refine lv_if_eq (tgt := 30) hx hb dX2_reads_23 (by decide) (fun c50 => ?_) (fun c50 => ?_)
            ·
              exact (dkN_nil (show dkN [] v37 from dkN_eq1 dv37 (dkN_lit (x := 0) (0) rfl) (congrArg Int32.toInt c50) rfl)).elim
            ·
              refine lv_iconst (v := 1) hx hb dX2_reads_26 (by decide) ?_
              refine lv_goto (tgt := 31) hx hb dX2_reads_27 (by decide) ?_
              refine lv_istore_n (lv' := [(1, .int 1), (0, .ref (z + 12))]) hx hb dX2_reads_31 rfl hl (by decide) rfl (fun ls hl => ?_)
              refine lv_aload_n hx hb dX2_reads_32 rfl (lv_at hl 1 rfl) ?_
              refine lv_iconst (v := 0) hx hb dX2_reads_33 (by decide) ?_
              refine dk_put (k := 12) hx hb hts iX2_reads_2 tyX2 tyX2_ok nmX2 hown hK hW (dk_at12 hW) hS rfl 1 (by decide) (hts (.fieldLink RX2 22 "DogKings$Reader" "bytes" "I") (List.mem_of_getElem? (i := 2) rfl)) rfl rfl (Nat.le_of_ble_eq_true rfl) rfl dX2_reads_34 (fun I51 H51 L51 eI51 hW hS => ?_)
              have eI51 : I51 = dkU I37 12 1 0 := eI51
              have hO := dkO_set hO eI51 (dkN_sub (dkN_lit (x := 0) (0) rfl) rfl)
              have hF := dkF_set hF eI51 rfl
              refine lv_iload_n hx hb dX2_reads_37 rfl (lv_at hl 0 rfl) ?_
              exact W.zret (v := 1) (ty := .boolean) hx hb hr rfl (fun t ht hW9 => ⟨⟨1, I51, rfl, ⟨hF, hO, Or.inr (⟨dkN_sub (dkN_lit (x := 1) (1) rfl) rfl, (show dkN [(0, 0)] (I51 12 1) from dkN_sub (by rw [eI51, dkU_ss]; exact (dkN_lit (x := 0) (0) rfl)) rfl), (show dkN [(3, 9)] (I51 14 0) from dkN_sub (by rw [eI51, dkU_n (by decide)]; exact f37_14_0) rfl), (show dkN [(1, 30)] (I51 14 1) from dkN_sub (by rw [eI51, dkU_n (by decide)]; exact (by rw [hF37 14 1 rfl]; exact (by rw [hF14 14 1 rfl]; exact f2_14_1))) rfl), (show dkN [(0, 0)] (I51 14 16) from dkN_sub (by rw [eI51, dkU_n (by decide)]; exact (by rw [hF37 14 16 rfl]; exact (by rw [hF14 14 16 rfl]; exact f2_14_16))) rfl), (show dkN [(0, 0)] (I51 14 17) from dkN_sub (by rw [eI51, dkU_n (by decide)]; exact (by rw [hF37 14 17 rfl]; exact (by rw [hF14 14 17 rfl]; exact f2_14_17))) rfl), (show dkN [(0, 0)] (I51 14 2) from dkN_sub (by rw [eI51, dkU_n (by decide)]; exact (by rw [hF37 14 2 rfl]; exact (by rw [hF14 14 2 rfl]; exact f2_14_2))) rfl), (show dkN [(0, 0)] (I51 14 3) from dkN_sub (by rw [eI51, dkU_n (by decide)]; exact (by rw [hF37 14 3 rfl]; exact (by rw [hF14 14 3 rfl]; exact f2_14_3))) rfl), (show dkN [(1, 5)] (I51 14 4) from dkN_sub (by rw [eI51, dkU_n (by decide)]; exact (by rw [hF37 14 4 rfl]; exact f14_14_4)) rfl), (dkTw_0 q6 q28 q42), rfl, (show I51 12 1 = 0 from (by rw [eI51, dkU_ss])), (show I51 12 5 = I0 12 5 from ((by rw [eI51, dkU_sn (by decide)] : I51 12 5 = _).trans y44)), (show I51 14 0 = dkNn (I0 13) (I0 12 1) (dkSg (I0 13) (I0 12 1) 116 (0)).2 from ((by rw [eI51, dkU_n (by decide)] : I51 14 0 = _).trans y45)), (((show I51 14 4 = dkPk (I0 13) (I0 12 1) (dkNn (I0 13) (I0 12 1) (dkSg (I0 13) (I0 12 1) 116 (0)).2) 5 ((dkLw (I0 13) (I0 12 1) (0)).2) 0 from ((by rw [eI51, dkU_n (by decide)] : I51 14 4 = _).trans y47))).trans (dkTw_0p q6 q28)), (((show I51 14 11 = dkDk (I0 13) (I0 12 1) (dkNn (I0 13) (I0 12 1) (dkSg (I0 13) (I0 12 1) 116 (0)).2) 6 ((dkPs (I0 13) (I0 12 1) (dkNn (I0 13) (I0 12 1) (dkSg (I0 13) (I0 12 1) 116 (0)).2) ((dkLw (I0 13) (I0 12 1) (0)).2)).2) 0 from ((by rw [eI51, dkU_n (by decide)] : I51 14 11 = _).trans y48))).trans (dkTw_0d q6 q28)), (fun j hj => ⟨(congrFun ((by rw [eI51, dkU_n (by decide)] : I51 21 = _).trans rfl) j).trans (yp49 j hj).1, (yp49 j hj).2⟩), trivial⟩)⟩, dkW_eq ht hW⟩, hS.F ht⟩) hS.2.2 dX2_reads_38
          ·
            obtain ⟨dv37, f37_12_1, f37_14_0, x37_0, xr37, xh37_0, xh37_1, -⟩ := hc37
            have w52 : I14 13 = I0 13 := ((funext fun j => hF14 13 j (dkNin_k rfl (dkNin_k rfl (dkNin_k rfl (dkNin_k rfl (dkNin_k rfl (dkNin_k rfl (dkNin_k rfl (dkNin_k rfl (dkNin_k rfl dkNin_nil)))))))))).trans ((funext fun j => hF2 13 j (dkNin_k rfl (dkNin_k rfl (dkNin_k rfl (dkNin_k rfl (dkNin_k rfl dkNin_nil)))))).trans ((by rw [eI1, dkU_n (by decide)] : I1 13 = _).trans rfl)))
            have w53 : I14 12 1 = I0 12 1 := ((hF14 12 1 rfl).trans ((hF2 12 1 rfl).trans ((by rw [eI1, dkU_sn (by decide)] : I1 12 1 = _).trans rfl)))
            have w54 : I14 14 0 = dkNn (I0 13) (I0 12 1) (dkSg (I0 13) (I0 12 1) 116 (0)).2 := y32
            have w55 : I14 12 2 = (dkPs (I0 13) (I0 12 1) (dkNn (I0 13) (I0 12 1) (dkSg (I0 13) (I0 12 1) 116 (0)).2) ((dkLw (I0 13) (I0 12 1) (0)).2)).2 := y29
            have q56 : (dkDw (I0 13) (I0 12 1) (dkNn (I0 13) (I0 12 1) (dkSg (I0 13) (I0 12 1) 116 (0)).2) 6 ((dkPs (I0 13) (I0 12 1) (dkNn (I0 13) (I0 12 1) (dkSg (I0 13) (I0 12 1) 116 (0)).2) ((dkLw (I0 13) (I0 12 1) (0)).2)).2)).1 ≠ 0 := by have h := x37_0; rw [w52, w53, w54, w55] at h; exact h
            have y57 : I37 12 4 = (dkDw (I0 13) (I0 12 1) (dkNn (I0 13) (I0 12 1) (dkSg (I0 13) (I0 12 1) 116 (0)).2) 6 ((dkPs (I0 13) (I0 12 1) (dkNn (I0 13) (I0 12 1) (dkSg (I0 13) (I0 12 1) 116 (0)).2) ((dkLw (I0 13) (I0 12 1) (0)).2)).2)).2 := by have h := xh37_0; rw [w52, w53, w54, w55] at h; exact h
            have y58 : I37 12 5 = (dkDw (I0 13) (I0 12 1) (dkNn (I0 13) (I0 12 1) (dkSg (I0 13) (I0 12 1) 116 (0)).2) 6 ((dkPs (I0 13) (I0 12 1) (dkNn (I0 13) (I0 12 1) (dkSg (I0 13) (I0 12 1) 116 (0)).2) ((dkLw (I0 13) (I0 12 1) (0)).2)).2)).1 := by have h := xh37_1; rw [w52, w53, w54, w55] at h; exact h
            have xv37 : v37 = 0 := by have h := xr37; exact h
            refine lv_if_eq (tgt := 30) hx hb dX2_reads_23 (by decide) (fun c59 => ?_) (fun c59 => ?_)
            ·
              refine lv_iconst (v := 0) hx hb dX2_reads_30 (by decide) ?_
              refine lv_istore_n (lv' := [(1, .int 0), (0, .ref (z + 12))]) hx hb dX2_reads_31 rfl hl (by decide) rfl (fun ls hl => ?_)
              refine lv_aload_n hx hb dX2_reads_32 rfl (lv_at hl 1 rfl) ?_
              refine lv_iconst (v := 0) hx hb dX2_reads_33 (by decide) ?_
              refine dk_put (k := 12) hx hb hts iX2_reads_2 tyX2 tyX2_ok nmX2 hown hK hW (dk_at12 hW) hS rfl 1 (by decide) (hts (.fieldLink RX2 22 "DogKings$Reader" "bytes" "I") (List.mem_of_getElem? (i := 2) rfl)) rfl rfl (Nat.le_of_ble_eq_true rfl) rfl dX2_reads_34 (fun I60 H60 L60 eI60 hW hS => ?_)
              have eI60 : I60 = dkU I37 12 1 0 := eI60
              have hO := dkO_set hO eI60 (dkN_sub (dkN_lit (x := 0) (0) rfl) rfl)
              have hF := dkF_set hF eI60 rfl
              refine lv_iload_n hx hb dX2_reads_37 rfl (lv_at hl 0 rfl) ?_
              exact W.zret (v := 0) (ty := .boolean) hx hb hr rfl (fun t ht hW9 => ⟨⟨0, I60, rfl, ⟨hF, hO, Or.inl ⟨dkN_sub (dkN_lit (x := 0) (0) rfl) rfl, (show dkN [(0, 0)] (I60 12 1) from dkN_sub (by rw [eI60, dkU_ss]; exact (dkN_lit (x := 0) (0) rfl)) rfl), (fun q => q56 ((congrArg Prod.fst (dkTw_3 q6 q28)).symm.trans q)), rfl, (show I60 12 1 = 0 from (by rw [eI60, dkU_ss])), (((show I60 12 4 = (dkDw (I0 13) (I0 12 1) (dkNn (I0 13) (I0 12 1) (dkSg (I0 13) (I0 12 1) 116 (0)).2) 6 ((dkPs (I0 13) (I0 12 1) (dkNn (I0 13) (I0 12 1) (dkSg (I0 13) (I0 12 1) 116 (0)).2) ((dkLw (I0 13) (I0 12 1) (0)).2)).2)).2 from ((by rw [eI60, dkU_sn (by decide)] : I60 12 4 = _).trans y57))).trans (congrArg Prod.snd (dkTw_3 q6 q28)).symm), (((show I60 12 5 = (dkDw (I0 13) (I0 12 1) (dkNn (I0 13) (I0 12 1) (dkSg (I0 13) (I0 12 1) 116 (0)).2) 6 ((dkPs (I0 13) (I0 12 1) (dkNn (I0 13) (I0 12 1) (dkSg (I0 13) (I0 12 1) 116 (0)).2) ((dkLw (I0 13) (I0 12 1) (0)).2)).2)).1 from ((by rw [eI60, dkU_sn (by decide)] : I60 12 5 = _).trans y58))).trans (congrArg Prod.fst (dkTw_3 q6 q28)).symm), trivial⟩⟩, dkW_eq ht hW⟩, hS.F ht⟩) hS.2.2 dX2_reads_38
            ·
              exact absurd ((xv37).trans (rfl).symm) c59
  ·
    obtain ⟨dv2, x2_0, xr2, xh2_0, xh2_1, -⟩ := hc2
    have w61 : I1 13 = I0 13 := ((by rw [eI1, dkU_n (by decide)] : I1 13 = _).trans rfl)
    have w62 : I1 12 1 = I0 12 1 := ((by rw [eI1, dkU_sn (by decide)] : I1 12 1 = _).trans rfl)
    have w63 : I1 12 2 = 0 := (by rw [eI1, dkU_ss])
    have q64 : (dkLw (I0 13) (I0 12 1) (0)).1 ≠ 0 := by have h := x2_0; rw [w61, w62, w63] at h; exact h
    have y65 : I2 12 4 = (dkLw (I0 13) (I0 12 1) (0)).2 := by have h := xh2_0; rw [w61, w62, w63] at h; exact h
    have y66 : I2 12 5 = (dkLw (I0 13) (I0 12 1) (0)).1 := by have h := xh2_1; rw [w61, w62, w63] at h; exact h
    have xv2 : v2 = 0 := by have h := xr2; exact h
    refine lv_if_eq (tgt := 30) hx hb dX2_reads_9 (by decide) (fun c67 => ?_) (fun c67 => ?_)
    ·
      refine lv_iconst (v := 0) hx hb dX2_reads_30 (by decide) ?_
      refine lv_istore_n (lv' := [(1, .int 0), (0, .ref (z + 12))]) hx hb dX2_reads_31 rfl hl (by decide) rfl (fun ls hl => ?_)
      refine lv_aload_n hx hb dX2_reads_32 rfl (lv_at hl 1 rfl) ?_
      refine lv_iconst (v := 0) hx hb dX2_reads_33 (by decide) ?_
      refine dk_put (k := 12) hx hb hts iX2_reads_2 tyX2 tyX2_ok nmX2 hown hK hW (dk_at12 hW) hS rfl 1 (by decide) (hts (.fieldLink RX2 22 "DogKings$Reader" "bytes" "I") (List.mem_of_getElem? (i := 2) rfl)) rfl rfl (Nat.le_of_ble_eq_true rfl) rfl dX2_reads_34 (fun I68 H68 L68 eI68 hW hS => ?_)
      have eI68 : I68 = dkU I2 12 1 0 := eI68
      have hO := dkO_set hO eI68 (dkN_sub (dkN_lit (x := 0) (0) rfl) rfl)
      have hF := dkF_set hF eI68 rfl
      refine lv_iload_n hx hb dX2_reads_37 rfl (lv_at hl 0 rfl) ?_
      exact W.zret (v := 0) (ty := .boolean) hx hb hr rfl (fun t ht hW9 => ⟨⟨0, I68, rfl, ⟨hF, hO, Or.inl ⟨dkN_sub (dkN_lit (x := 0) (0) rfl) rfl, (show dkN [(0, 0)] (I68 12 1) from dkN_sub (by rw [eI68, dkU_ss]; exact (dkN_lit (x := 0) (0) rfl)) rfl), (fun q => q64 ((congrArg Prod.fst (dkTw_1 q64)).symm.trans q)), rfl, (show I68 12 1 = 0 from (by rw [eI68, dkU_ss])), (((show I68 12 4 = (dkLw (I0 13) (I0 12 1) (0)).2 from ((by rw [eI68, dkU_sn (by decide)] : I68 12 4 = _).trans y65))).trans (congrArg Prod.snd (dkTw_1 q64)).symm), (((show I68 12 5 = (dkLw (I0 13) (I0 12 1) (0)).1 from ((by rw [eI68, dkU_sn (by decide)] : I68 12 5 = _).trans y66))).trans (congrArg Prod.fst (dkTw_1 q64)).symm), trivial⟩⟩, dkW_eq ht hW⟩, hS.F ht⟩) hS.2.2 dX2_reads_38
    ·
      exact absurd ((xv2).trans (rfl).symm) c67
set_option maxHeartbeats 4000000 in
set_option maxRecDepth 100000 in
theorem fx_X4_become_1 (l : Launch) (g : dkG) (z : Nat) (I0 : dkI) (t0 : Nat) (ht0 : dkT t0) (t1 : Nat) (ht1 : dkT t1)  (m0 : t0 ≠ t1) (hO : dkOk I0) : Met l yX4_become wsX4_become (dkR 0) (dkPc g z [.ref (z + t0), .ref (z + t1)] I0) (dkQv g z (fun I1 => dkF [(t0, t0, 0, 4), (t0, t0, 11, 11), (t0, t0, 15, 17), (t0 + 1, t0 + 1, 0, 4), (t0 + 2, t0 + 2, 0, 4), (t0 + 3, t0 + 3, 0, 4), (t0 + 4, t0 + 4, 0, 4), (t0 + 5, t0 + 5, 0, 4), (t0 + 6, t0 + 6, 0, 4), (t0 + 7, t0 + 7, 0, 5), (t0 + 8, t0 + 8, 0, 5), (t0 + 9, t0 + 9, 0, 5)] I0 I1 ∧ dkOk I1 ∧ ((I1 t0 0 = I0 t1 0 ∧ I1 t0 4 = I0 t1 4 ∧ I1 t0 11 = I0 t1 11 ∧ (∀ j : Nat, j < Int32.toNatClampNeg (I0 t1 11) → I1 (t0 + 7) j = I0 (t1 + 7) j) ∧ True)))) 0 0 (dkA z) := by
  refine Met.ofW (cc := cX4_become) (maxL := 3) (ret := none) (by decide) rfl ?_
  intro p e s m args below meth c s₁ B hml hv
  obtain ⟨ha, hW, hK, hT⟩ := hv
  have hx := B.exec
  have hb := B.bytes
  have hr := B.returns
  have hts := atoms_spec (ws := wsX4_become) B.pre
  have hown : s.vm.findClass RX4 = some m.cls := findClass_of_methodNamed B.named
  have hlocks := B.notSynchronized
  have hS : va_S (dkA z) s.heap s.heap [] := va_S.rf
  have hF : dkF [(t0, t0, 0, 4), (t0, t0, 11, 11), (t0, t0, 15, 17), (t0 + 1, t0 + 1, 0, 4), (t0 + 2, t0 + 2, 0, 4), (t0 + 3, t0 + 3, 0, 4), (t0 + 4, t0 + 4, 0, 4), (t0 + 5, t0 + 5, 0, 4), (t0 + 6, t0 + 6, 0, 4), (t0 + 7, t0 + 7, 0, 5), (t0 + 8, t0 + 8, 0, 5), (t0 + 9, t0 + 9, 0, 5)] I0 I0 := dkF_rf _ _
  have hl := lv_entry ([.ref (z + t0), .ref (z + t1)]) (n := 3) (Nat.le_of_ble_eq_true rfl)
  have hgo : entryFrame m args 3 = entryFrame m ([.ref (z + t0), .ref (z + t1)] : List Value).toArray 3 := by rw [ha]
  rw [hgo, lg_entry_eq]
  generalize (lg_sl ([.ref (z + t0), .ref (z + t1)]) ++ List.replicate (3 - (lg_sl ([.ref (z + t0), .ref (z + t1)])).length) Slot.unset).toArray = ls at hl ⊢
  have hl : lv_has ls 3 [(0, .ref (z + t0)), (1, .ref (z + t1))] := hl
  have C138 : ∀ (n : Nat), ∀ (I : dkI) (H : Heap) (locs : List Loc) (ls : Array Slot) (x138_2 : Int32), (6 - x138_2.toInt).toNat < n → dkW g z I H → va_S (dkA z) s.heap H locs → dkF [(t0, t0, 0, 4), (t0, t0, 11, 11), (t0, t0, 15, 17), (t0 + 1, t0 + 1, 0, 4), (t0 + 2, t0 + 2, 0, 4), (t0 + 3, t0 + 3, 0, 4), (t0 + 4, t0 + 4, 0, 4), (t0 + 5, t0 + 5, 0, 4), (t0 + 6, t0 + 6, 0, 4), (t0 + 7, t0 + 7, 0, 5), (t0 + 8, t0 + 8, 0, 5), (t0 + 9, t0 + 9, 0, 5)] I0 I → dkOk I → dkN [(0, 6)] x138_2 → I (t1 + 7) = I0 (t1 + 7) → I t0 0 = I0 t1 0 → I t0 11 = I0 t1 11 → I t0 4 = I0 t1 4 → I t1 11 = I0 t1 11 → (∀ j : Nat, (j : Int) < x138_2.toInt → I (t0 + 7) j = I0 (t1 + 7) j) → lv_has ls 3 [(0, .ref (z + t0)), (1, .ref (z + t1)), (2, .int x138_2)] → W p l e (headSpec wsX4_become (dkR 0)).room s m args below meth c H locs 0 0 (MQ below (dkQv g z (fun I1 => dkF [(t0, t0, 0, 4), (t0, t0, 11, 11), (t0, t0, 15, 17), (t0 + 1, t0 + 1, 0, 4), (t0 + 2, t0 + 2, 0, 4), (t0 + 3, t0 + 3, 0, 4), (t0 + 4, t0 + 4, 0, 4), (t0 + 5, t0 + 5, 0, 4), (t0 + 6, t0 + 6, 0, 4), (t0 + 7, t0 + 7, 0, 5), (t0 + 8, t0 + 8, 0, 5), (t0 + 9, t0 + 9, 0, 5)] I0 I1 ∧ dkOk I1 ∧ ((I1 t0 0 = I0 t1 0 ∧ I1 t0 4 = I0 t1 4 ∧ I1 t0 11 = I0 t1 11 ∧ (∀ j : Nat, j < Int32.toNatClampNeg (I0 t1 11) → I1 (t0 + 7) j = I0 (t1 + 7) j) ∧ True)))) args s 0 0 (dkA z)) (F0 m 138 ls []) := by
    intro n
    induction n with
    | zero => intro I H locs ls x138_2 hn; exact absurd hn (Nat.not_lt_zero _)
    | succ n ih138 =>
      intro I138_ H locs ls x138_2 hn138 hW hS hF_138 hO k138_0 z138_0 zp138_0 zp138_1 zp138_2 zp138_3 cx138 hl
      have hF := hF_138
      refine lv_iload_n hx hb dX4_become_138 rfl (lv_at hl 2 rfl) ?_
      refine lv_aload_n hx hb dX4_become_139 rfl (lv_at hl 0 rfl) ?_
      refine dk_get (k := t0) hx hb hts iX4_become_4 hown hK (dk_aT0 ht0 hW) rfl 11 (by decide) (hts (.fieldLink RX4 58 "DogKings$Town" "dogs" "I") (List.mem_of_getElem? (i := 12) rfl)) rfl dX4_become_140 ?_
      refine lv_topi (fun v1 ev1 => ?_)
      have dv1 : dkN [(0, 6)] v1 := by rw [ev1]; exact (dkO_at hO ht0 (c := 0) (by decide) 11)
      have xv1 : v1 = I0 t1 11 := ev1.trans zp138_1
      refine lv_icmp_ge (tgt := 188) hx hb dX4_become_143 (by decide) (fun c2 => ?_) (fun c2 => ?_)
      ·
        have q3 : (I0 t1 11).toInt + 0 ≤ x138_2.toInt := by first | (rw [← xv1]; exact (dkc_le c2)) | (subst xv1; exact (dkc_le c2))
        refine lv_aload_n hx hb dX4_become_188 rfl (lv_at hl 0 rfl) ?_
        refine lv_aload_n hx hb dX4_become_189 rfl (lv_at hl 1 rfl) ?_
        refine dk_get (k := t1) hx hb hts iX4_become_4 hown hK (dk_aT0 ht1 hW) rfl 15 (by decide) (hts (.fieldLink RX4 61 "DogKings$Town" "dogsThere" "I") (List.mem_of_getElem? (i := 16) rfl)) rfl dX4_become_190 ?_
        refine lv_topi (fun v4 ev4 => ?_)
        have xv4 : v4 = I138_ t1 15 := ev4.trans rfl
        refine dk_put (k := t0) hx hb hts iX4_become_4 tyX4 tyX4_ok nmX4 hown hK hW (dk_aT0 ht0 hW) hS rfl 15 (by decide) (hts (.fieldLink RX4 61 "DogKings$Town" "dogsThere" "I") (List.mem_of_getElem? (i := 16) rfl)) rfl rfl (Nat.le_of_ble_eq_true rfl) (dk_eT15 ht0) dX4_become_193 (fun I5 H5 L5 eI5 hW hS => ?_)
        have eI5 : I5 = dkU I138_ t0 15 v4 := eI5
        have hO := dkO_setT hO ht0 (c := 0) (by decide) eI5 (dkN_sub (dkN_top v4) rfl)
        have hF := dkF_set hF eI5 (dkIn_at (i := 2) rfl (Nat.le_refl _) (Nat.le_refl _) (by decide) (by decide))
        refine lv_aload_n hx hb dX4_become_196 rfl (lv_at hl 0 rfl) ?_
        refine lv_aload_n hx hb dX4_become_197 rfl (lv_at hl 1 rfl) ?_
        refine dk_get (k := t1) hx hb hts iX4_become_4 hown hK (dk_aT0 ht1 hW) rfl 16 (by decide) (hts (.fieldLink RX4 64 "DogKings$Town" "dogsAsleep" "I") (List.mem_of_getElem? (i := 17) rfl)) rfl dX4_become_198 ?_
        refine lv_topi (fun v6 ev6 => ?_)
        have xv6 : v6 = I138_ t1 16 := ev6.trans ((by rw [eI5, dkU_n (by omega)] : I5 t1 16 = _).trans rfl)
        refine dk_put (k := t0) hx hb hts iX4_become_4 tyX4 tyX4_ok nmX4 hown hK hW (dk_aT0 ht0 hW) hS rfl 16 (by decide) (hts (.fieldLink RX4 64 "DogKings$Town" "dogsAsleep" "I") (List.mem_of_getElem? (i := 17) rfl)) rfl rfl (Nat.le_of_ble_eq_true rfl) (dk_eT16 ht0) dX4_become_201 (fun I7 H7 L7 eI7 hW hS => ?_)
        have eI7 : I7 = dkU I5 t0 16 v6 := eI7
        have hO := dkO_setT hO ht0 (c := 0) (by decide) eI7 (dkN_sub (dkN_top v6) rfl)
        have hF := dkF_set hF eI7 (dkIn_at (i := 2) rfl (Nat.le_refl _) (Nat.le_refl _) (by decide) (by decide))
        refine lv_aload_n hx hb dX4_become_204 rfl (lv_at hl 0 rfl) ?_
        refine lv_aload_n hx hb dX4_become_205 rfl (lv_at hl 1 rfl) ?_
        refine dk_get (k := t1) hx hb hts iX4_become_4 hown hK (dk_aT0 ht1 hW) rfl 17 (by decide) (hts (.fieldLink RX4 67 "DogKings$Town" "cats" "I") (List.mem_of_getElem? (i := 18) rfl)) rfl dX4_become_206 ?_
        refine lv_topi (fun v8 ev8 => ?_)
        have xv8 : v8 = I138_ t1 17 := ev8.trans ((by rw [eI7, dkU_n (by omega)] : I7 t1 17 = _).trans ((by rw [eI5, dkU_n (by omega)] : I5 t1 17 = _).trans rfl))
        refine dk_put (k := t0) hx hb hts iX4_become_4 tyX4 tyX4_ok nmX4 hown hK hW (dk_aT0 ht0 hW) hS rfl 17 (by decide) (hts (.fieldLink RX4 67 "DogKings$Town" "cats" "I") (List.mem_of_getElem? (i := 18) rfl)) rfl rfl (Nat.le_of_ble_eq_true rfl) (dk_eT17 ht0) dX4_become_209 (fun I9 H9 L9 eI9 hW hS => ?_)
        have eI9 : I9 = dkU I7 t0 17 v8 := eI9
        have hO := dkO_setT hO ht0 (c := 0) (by decide) eI9 (dkN_sub (dkN_top v8) rfl)
        have hF := dkF_set hF eI9 (dkIn_at (i := 2) rfl (Nat.le_refl _) (Nat.le_refl _) (by decide) (by decide))
        exact W.vret hx hb hr (fun t ht hW9 => ⟨⟨I9, rfl, ⟨hF, hO, ⟨((by rw [eI9, dkU_sn (by decide)] : I9 t0 0 = _).trans ((by rw [eI7, dkU_sn (by decide)] : I7 t0 0 = _).trans ((by rw [eI5, dkU_sn (by decide)] : I5 t0 0 = _).trans zp138_0))), ((by rw [eI9, dkU_sn (by decide)] : I9 t0 4 = _).trans ((by rw [eI7, dkU_sn (by decide)] : I7 t0 4 = _).trans ((by rw [eI5, dkU_sn (by decide)] : I5 t0 4 = _).trans zp138_2))), ((by rw [eI9, dkU_sn (by decide)] : I9 t0 11 = _).trans ((by rw [eI7, dkU_sn (by decide)] : I7 t0 11 = _).trans ((by rw [eI5, dkU_sn (by decide)] : I5 t0 11 = _).trans zp138_1))), (fun j hj => (congrFun ((by rw [eI9, dkU_n (by omega)] : I9 (t0 + 7) = _).trans ((by rw [eI7, dkU_n (by omega)] : I7 (t0 + 7) = _).trans ((by rw [eI5, dkU_n (by omega)] : I5 (t0 + 7) = _).trans rfl))) j).trans (cx138 j (dk_jlt hj (by omega)))), trivial⟩⟩, dkW_eq ht hW⟩, hS.F ht⟩) hS.2.2 dX4_become_212
      ·
        have q10 : x138_2.toInt + 1 ≤ (I0 t1 11).toInt := by first | (rw [← xv1]; exact (dkc_nle c2)) | (subst xv1; exact (dkc_nle c2))
        have d11 : dkN [(1, 6)] v1 := dkN_le2 1 k138_0 dv1 (dkc_nle c2) rfl
        have f12 : dkN [(1, 6)] (I138_ t0 11) := by rw [← ev1]; exact d11
        have d13 : dkN [(0, 5)] x138_2 := dkN_le1 1 k138_0 dv1 (dkc_nle c2) rfl
        refine lv_aload_n hx hb dX4_become_146 rfl (lv_at hl 0 rfl) ?_
        refine dk_get (k := t0) hx hb hts iX4_become_4 hown hK (dk_aT0 ht0 hW) rfl 12 (by decide) (hts (.fieldLink RX4 30 "DogKings$Town" "sort" "[I") (List.mem_of_getElem? (i := 13) rfl)) rfl dX4_become_147 ?_
        refine lv_iload_n hx hb dX4_become_150 rfl (lv_at hl 2 rfl) ?_
        refine lv_aload_n hx hb dX4_become_151 rfl (lv_at hl 1 rfl) ?_
        refine dk_get (k := t1) hx hb hts iX4_become_4 hown hK (dk_aT0 ht1 hW) rfl 12 (by decide) (hts (.fieldLink RX4 30 "DogKings$Town" "sort" "[I") (List.mem_of_getElem? (i := 13) rfl)) rfl dX4_become_152 ?_
        refine lv_iload_n hx hb dX4_become_155 rfl (lv_at hl 2 rfl) ?_
        refine dk_ild (k := (t1 + 7)) hx hb hK (dk_aT7 ht1 hW) (dkN_in (n := 6) d13 rfl) dX4_become_156 ?_
        refine lv_topi (fun v14 ev14 => ?_)
        have xv14 : v14 = I0 (t1 + 7) (Int32.toNatClampNeg x138_2) := ev14.trans (by rw [z138_0])
        refine dk_ist (k := (t0 + 7)) hx hb hK hW (fun _ => dkC_T g z ht0 (c := 7) (by decide) _) (by have := dkT_lt ht0; omega) hS (dkN_in (n := 6) d13 rfl) dX4_become_157 (fun I15 H15 L15 eI15 hW hS => ?_)
        have hO := dkO_setT hO ht0 (c := 7) (by decide) eI15 (dkN_sub (dkN_top v14) rfl)
        have hF := dkF_set hF eI15 (dkIn_atv (i := 9) rfl (Nat.le_refl _) (Nat.le_refl _) d13 rfl)
        refine lv_aload_n hx hb dX4_become_158 rfl (lv_at hl 0 rfl) ?_
        refine dk_get (k := t0) hx hb hts iX4_become_4 hown hK (dk_aT0 ht0 hW) rfl 13 (by decide) (hts (.fieldLink RX4 33 "DogKings$Town" "dogHome" "[I") (List.mem_of_getElem? (i := 14) rfl)) rfl dX4_become_159 ?_
        refine lv_iload_n hx hb dX4_become_162 rfl (lv_at hl 2 rfl) ?_
        refine lv_aload_n hx hb dX4_become_163 rfl (lv_at hl 1 rfl) ?_
        refine dk_get (k := t1) hx hb hts iX4_become_4 hown hK (dk_aT0 ht1 hW) rfl 13 (by decide) (hts (.fieldLink RX4 33 "DogKings$Town" "dogHome" "[I") (List.mem_of_getElem? (i := 14) rfl)) rfl dX4_become_164 ?_
        refine lv_iload_n hx hb dX4_become_167 rfl (lv_at hl 2 rfl) ?_
        refine dk_ild (k := (t1 + 8)) hx hb hK (dk_aT8 ht1 hW) (dkN_in (n := 6) d13 rfl) dX4_become_168 ?_
        refine lv_topi (fun v16 ev16 => ?_)
        refine dk_ist (k := (t0 + 8)) hx hb hK hW (fun _ => dkC_T g z ht0 (c := 8) (by decide) _) (by have := dkT_lt ht0; omega) hS (dkN_in (n := 6) d13 rfl) dX4_become_169 (fun I17 H17 L17 eI17 hW hS => ?_)
        have hO := dkO_setT hO ht0 (c := 8) (by decide) eI17 (dkN_sub (dkN_top v16) rfl)
        have hF := dkF_set hF eI17 (dkIn_atv (i := 10) rfl (Nat.le_refl _) (Nat.le_refl _) d13 rfl)
        refine lv_aload_n hx hb dX4_become_170 rfl (lv_at hl 0 rfl) ?_
        refine dk_get (k := t0) hx hb hts iX4_become_4 hown hK (dk_aT0 ht0 hW) rfl 14 (by decide) (hts (.fieldLink RX4 36 "DogKings$Town" "dogAt" "[I") (List.mem_of_getElem? (i := 15) rfl)) rfl dX4_become_171 ?_
        refine lv_iload_n hx hb dX4_become_174 rfl (lv_at hl 2 rfl) ?_
        refine lv_aload_n hx hb dX4_become_175 rfl (lv_at hl 1 rfl) ?_
        refine dk_get (k := t1) hx hb hts iX4_become_4 hown hK (dk_aT0 ht1 hW) rfl 14 (by decide) (hts (.fieldLink RX4 36 "DogKings$Town" "dogAt" "[I") (List.mem_of_getElem? (i := 15) rfl)) rfl dX4_become_176 ?_
        refine lv_iload_n hx hb dX4_become_179 rfl (lv_at hl 2 rfl) ?_
        refine dk_ild (k := (t1 + 9)) hx hb hK (dk_aT9 ht1 hW) (dkN_in (n := 6) d13 rfl) dX4_become_180 ?_
        refine lv_topi (fun v18 ev18 => ?_)
        refine dk_ist (k := (t0 + 9)) hx hb hK hW (fun _ => dkC_T g z ht0 (c := 9) (by decide) _) (by have := dkT_lt ht0; omega) hS (dkN_in (n := 6) d13 rfl) dX4_become_181 (fun I19 H19 L19 eI19 hW hS => ?_)
        have hO := dkO_setT hO ht0 (c := 9) (by decide) eI19 (dkN_sub (dkN_top v18) rfl)
        have hF := dkF_set hF eI19 (dkIn_atv (i := 11) rfl (Nat.le_refl _) (Nat.le_refl _) d13 rfl)
        obtain ⟨v20, ev20⟩ : ∃ y : Int32, y = x138_2 + 1 := ⟨_, rfl⟩
        have dv20 : dkN [(1, 6)] v20 := by rw [ev20]; exact dkN_add d13 (dkN_lit (x := 1) (1) rfl) rfl
        have xv20 : v20 = x138_2 + 1 := by rw [ev20]
        have q21 : (x138_2 + 1).toInt = x138_2.toInt + (1 : Int) := by first | (rw [← xv20]; exact (by rw [ev20]; exact dk_addE d13 (dkN_lit (x := 1) (1) rfl) rfl)) | (subst xv20; exact (by rw [ev20]; exact dk_addE d13 (dkN_lit (x := 1) (1) rfl) rfl))
        refine lv_iinc (v := v20) (lv' := [(2, .int v20), (0, .ref (z + t0)), (1, .ref (z + t1))]) hx hb dX4_become_182 hl (k := 2) rfl (by rw [ev20]; rfl) (by decide) rfl (fun ls hl => ?_)
        refine lv_goto (tgt := 138) hx hb dX4_become_185 (by decide) ?_
        exact ih138 I19 _ _ ls v20 (dk_near hn138 (by rw [ev20]; exact dk_inc d13 rfl) (dkN_lt d13 rfl)) hW hS hF hO (dkN_sub dv20 rfl) ((by rw [eI19, dkU_n (show (t1 + 7) ≠ (t0 + 9) from dkT_neT (c := 7) (d := 9) ht1 ht0 (by decide) (by decide) (by decide))] : I19 (t1 + 7) = _).trans ((by rw [eI17, dkU_n (show (t1 + 7) ≠ (t0 + 8) from dkT_neT (c := 7) (d := 8) ht1 ht0 (by decide) (by decide) (by decide))] : I17 (t1 + 7) = _).trans ((by rw [eI15, dkU_n (by omega)] : I15 (t1 + 7) = _).trans z138_0))) ((by rw [eI19, dkU_n (by omega)] : I19 t0 0 = _).trans ((by rw [eI17, dkU_n (by omega)] : I17 t0 0 = _).trans ((by rw [eI15, dkU_n (by omega)] : I15 t0 0 = _).trans zp138_0))) ((by rw [eI19, dkU_n (by omega)] : I19 t0 11 = _).trans ((by rw [eI17, dkU_n (by omega)] : I17 t0 11 = _).trans ((by rw [eI15, dkU_n (by omega)] : I15 t0 11 = _).trans zp138_1))) ((by rw [eI19, dkU_n (by omega)] : I19 t0 4 = _).trans ((by rw [eI17, dkU_n (by omega)] : I17 t0 4 = _).trans ((by rw [eI15, dkU_n (by omega)] : I15 t0 4 = _).trans zp138_2))) ((by rw [eI19, dkU_n (show t1 ≠ (t0 + 9) from dkT_neT (c := 0) (d := 9) ht1 ht0 (by decide) (by decide) (by decide))] : I19 t1 11 = _).trans ((by rw [eI17, dkU_n (show t1 ≠ (t0 + 8) from dkT_neT (c := 0) (d := 8) ht1 ht0 (by decide) (by decide) (by decide))] : I17 t1 11 = _).trans ((by rw [eI15, dkU_n (show t1 ≠ (t0 + 7) from dkT_neT (c := 0) (d := 7) ht1 ht0 (by decide) (by decide) (by decide))] : I15 t1 11 = _).trans zp138_3))) (by rw [show I19 (t0 + 7) = dkV (I138_ (t0 + 7)) (Int32.toNatClampNeg x138_2) (I0 (t1 + 7) (Int32.toNatClampNeg x138_2)) from ((by rw [eI19, dkU_n (by omega)] : I19 (t0 + 7) = _).trans ((by rw [eI17, dkU_n (by omega)] : I17 (t0 + 7) = _).trans (by rw [eI15, dkU_s, show (I138_ (t0 + 7)) = I138_ (t0 + 7) from rfl, xv14])))]; exact dkCl_s cx138 (by rw [ev20]; exact dk_inc d13 rfl) (dk_nlt (dkN_ge d13 rfl))) (lv_sub hl [1, 2, 0] rfl)
  have C42 : ∀ (n : Nat), ∀ (I : dkI) (H : Heap) (locs : List Loc) (ls : Array Slot) (x42_2 : Int32), (5 - x42_2.toInt).toNat < n → dkW g z I H → va_S (dkA z) s.heap H locs → dkF [(t0, t0, 0, 4), (t0, t0, 11, 11), (t0, t0, 15, 17), (t0 + 1, t0 + 1, 0, 4), (t0 + 2, t0 + 2, 0, 4), (t0 + 3, t0 + 3, 0, 4), (t0 + 4, t0 + 4, 0, 4), (t0 + 5, t0 + 5, 0, 4), (t0 + 6, t0 + 6, 0, 4), (t0 + 7, t0 + 7, 0, 5), (t0 + 8, t0 + 8, 0, 5), (t0 + 9, t0 + 9, 0, 5)] I0 I → dkOk I → dkN [(0, 5)] x42_2 → I (t1 + 7) = I0 (t1 + 7) → I t0 0 = I0 t1 0 → I t0 11 = I0 t0 11 → I t0 4 = I0 t1 4 → I t1 11 = I0 t1 11 → lv_has ls 3 [(0, .ref (z + t0)), (1, .ref (z + t1)), (2, .int x42_2)] → W p l e (headSpec wsX4_become (dkR 0)).room s m args below meth c H locs 0 0 (MQ below (dkQv g z (fun I1 => dkF [(t0, t0, 0, 4), (t0, t0, 11, 11), (t0, t0, 15, 17), (t0 + 1, t0 + 1, 0, 4), (t0 + 2, t0 + 2, 0, 4), (t0 + 3, t0 + 3, 0, 4), (t0 + 4, t0 + 4, 0, 4), (t0 + 5, t0 + 5, 0, 4), (t0 + 6, t0 + 6, 0, 4), (t0 + 7, t0 + 7, 0, 5), (t0 + 8, t0 + 8, 0, 5), (t0 + 9, t0 + 9, 0, 5)] I0 I1 ∧ dkOk I1 ∧ ((I1 t0 0 = I0 t1 0 ∧ I1 t0 4 = I0 t1 4 ∧ I1 t0 11 = I0 t1 11 ∧ (∀ j : Nat, j < Int32.toNatClampNeg (I0 t1 11) → I1 (t0 + 7) j = I0 (t1 + 7) j) ∧ True)))) args s 0 0 (dkA z)) (F0 m 42 ls []) := by
    intro n
    induction n with
    | zero => intro I H locs ls x42_2 hn; exact absurd hn (Nat.not_lt_zero _)
    | succ n ih42 =>
      intro I42_ H locs ls x42_2 hn42 hW hS hF_42 hO k42_0 z42_0 zp42_0 zp42_1 zp42_2 zp42_3 hl
      have hF := hF_42
      refine lv_iload_n hx hb dX4_become_42 rfl (lv_at hl 2 rfl) ?_
      refine lv_aload_n hx hb dX4_become_43 rfl (lv_at hl 0 rfl) ?_
      refine dk_get (k := t0) hx hb hts iX4_become_4 hown hK (dk_aT0 ht0 hW) rfl 4 (by decide) (hts (.fieldLink RX4 55 "DogKings$Town" "people" "I") (List.mem_of_getElem? (i := 5) rfl)) rfl dX4_become_44 ?_
      refine lv_topi (fun v22 ev22 => ?_)
      have dv22 : dkN [(0, 5)] v22 := by rw [ev22]; exact (dkO_at hO ht0 (c := 0) (by decide) 4)
      have xv22 : v22 = I0 t1 4 := ev22.trans zp42_2
      refine lv_icmp_ge (tgt := 128) hx hb dX4_become_47 (by decide) (fun c23 => ?_) (fun c23 => ?_)
      ·
        have q24 : (I0 t1 4).toInt + 0 ≤ x42_2.toInt := by first | (rw [← xv22]; exact (dkc_le c23)) | (subst xv22; exact (dkc_le c23))
        refine lv_aload_n hx hb dX4_become_128 rfl (lv_at hl 0 rfl) ?_
        refine lv_aload_n hx hb dX4_become_129 rfl (lv_at hl 1 rfl) ?_
        refine dk_get (k := t1) hx hb hts iX4_become_4 hown hK (dk_aT0 ht1 hW) rfl 11 (by decide) (hts (.fieldLink RX4 58 "DogKings$Town" "dogs" "I") (List.mem_of_getElem? (i := 12) rfl)) rfl dX4_become_130 ?_
        refine lv_topi (fun v25 ev25 => ?_)
        have dv25 : dkN [(0, 6)] v25 := by rw [ev25]; exact (dkO_at hO ht1 (c := 0) (by decide) 11)
        have xv25 : v25 = I0 t1 11 := ev25.trans zp42_3
        refine dk_put (k := t0) hx hb hts iX4_become_4 tyX4 tyX4_ok nmX4 hown hK hW (dk_aT0 ht0 hW) hS rfl 11 (by decide) (hts (.fieldLink RX4 58 "DogKings$Town" "dogs" "I") (List.mem_of_getElem? (i := 12) rfl)) rfl rfl (Nat.le_of_ble_eq_true rfl) (dk_eT11 ht0) dX4_become_133 (fun I26 H26 L26 eI26 hW hS => ?_)
        have eI26 : I26 = dkU I42_ t0 11 v25 := eI26
        have hO := dkO_setT hO ht0 (c := 0) (by decide) eI26 (dkN_sub dv25 rfl)
        have hF := dkF_set hF eI26 (dkIn_at (i := 1) rfl (Nat.le_refl _) (Nat.le_refl _) (by decide) (by decide))
        refine lv_iconst (v := 0) hx hb dX4_become_136 (by decide) ?_
        refine lv_istore_n (lv' := [(2, .int 0), (0, .ref (z + t0)), (1, .ref (z + t1))]) hx hb dX4_become_137 rfl hl (by decide) rfl (fun ls hl => ?_)
        exact C138 _ I26 _ _ ls 0 (Nat.lt_succ_self _) hW hS hF hO (dkN_sub (dkN_lit (x := 0) (0) rfl) rfl) ((by rw [eI26, dkU_n (show (t1 + 7) ≠ t0 from dkT_neT (c := 7) (d := 0) ht1 ht0 (by decide) (by decide) (by decide))] : I26 (t1 + 7) = _).trans z42_0) ((by rw [eI26, dkU_sn (by decide)] : I26 t0 0 = _).trans zp42_0) (by rw [eI26, dkU_ss, xv25]) ((by rw [eI26, dkU_sn (by decide)] : I26 t0 4 = _).trans zp42_2) ((by rw [eI26, dkU_n (by omega)] : I26 t1 11 = _).trans zp42_3) (fun j hj => absurd hj (by show ¬ ((j : Int) < 0); omega)) (lv_sub hl [1, 2, 0] rfl)
      ·
        have q27 : x42_2.toInt + 1 ≤ (I0 t1 4).toInt := by first | (rw [← xv22]; exact (dkc_nle c23)) | (subst xv22; exact (dkc_nle c23))
        have d28 : dkN [(1, 5)] v22 := dkN_le2 1 k42_0 dv22 (dkc_nle c23) rfl
        have f29 : dkN [(1, 5)] (I42_ t0 4) := by rw [← ev22]; exact d28
        have d30 : dkN [(0, 4)] x42_2 := dkN_le1 1 k42_0 dv22 (dkc_nle c23) rfl
        refine lv_aload_n hx hb dX4_become_50 rfl (lv_at hl 0 rfl) ?_
        refine dk_get (k := t0) hx hb hts iX4_become_4 hown hK (dk_aT0 ht0 hW) rfl 5 (by decide) (hts (.fieldLink RX4 9 "DogKings$Town" "personHome" "[I") (List.mem_of_getElem? (i := 6) rfl)) rfl dX4_become_51 ?_
        refine lv_iload_n hx hb dX4_become_54 rfl (lv_at hl 2 rfl) ?_
        refine lv_aload_n hx hb dX4_become_55 rfl (lv_at hl 1 rfl) ?_
        refine dk_get (k := t1) hx hb hts iX4_become_4 hown hK (dk_aT0 ht1 hW) rfl 5 (by decide) (hts (.fieldLink RX4 9 "DogKings$Town" "personHome" "[I") (List.mem_of_getElem? (i := 6) rfl)) rfl dX4_become_56 ?_
        refine lv_iload_n hx hb dX4_become_59 rfl (lv_at hl 2 rfl) ?_
        refine dk_ild (k := (t1 + 1)) hx hb hK (dk_aT1 ht1 hW) (dkN_in (n := 5) d30 rfl) dX4_become_60 ?_
        refine lv_topi (fun v31 ev31 => ?_)
        refine dk_ist (k := (t0 + 1)) hx hb hK hW (fun _ => dkC_T g z ht0 (c := 1) (by decide) _) (by have := dkT_lt ht0; omega) hS (dkN_in (n := 5) d30 rfl) dX4_become_61 (fun I32 H32 L32 eI32 hW hS => ?_)
        have hO := dkO_setT hO ht0 (c := 1) (by decide) eI32 (dkN_sub (dkN_top v31) rfl)
        have hF := dkF_set hF eI32 (dkIn_atv (i := 3) rfl (Nat.le_refl _) (Nat.le_refl _) d30 rfl)
        refine lv_aload_n hx hb dX4_become_62 rfl (lv_at hl 0 rfl) ?_
        refine dk_get (k := t0) hx hb hts iX4_become_4 hown hK (dk_aT0 ht0 hW) rfl 6 (by decide) (hts (.fieldLink RX4 15 "DogKings$Town" "smell" "[I") (List.mem_of_getElem? (i := 7) rfl)) rfl dX4_become_63 ?_
        refine lv_iload_n hx hb dX4_become_66 rfl (lv_at hl 2 rfl) ?_
        refine lv_aload_n hx hb dX4_become_67 rfl (lv_at hl 1 rfl) ?_
        refine dk_get (k := t1) hx hb hts iX4_become_4 hown hK (dk_aT0 ht1 hW) rfl 6 (by decide) (hts (.fieldLink RX4 15 "DogKings$Town" "smell" "[I") (List.mem_of_getElem? (i := 7) rfl)) rfl dX4_become_68 ?_
        refine lv_iload_n hx hb dX4_become_71 rfl (lv_at hl 2 rfl) ?_
        refine dk_ild (k := (t1 + 2)) hx hb hK (dk_aT2 ht1 hW) (dkN_in (n := 5) d30 rfl) dX4_become_72 ?_
        refine lv_topi (fun v33 ev33 => ?_)
        refine dk_ist (k := (t0 + 2)) hx hb hK hW (fun _ => dkC_T g z ht0 (c := 2) (by decide) _) (by have := dkT_lt ht0; omega) hS (dkN_in (n := 5) d30 rfl) dX4_become_73 (fun I34 H34 L34 eI34 hW hS => ?_)
        have hO := dkO_setT hO ht0 (c := 2) (by decide) eI34 (dkN_sub (dkN_top v33) rfl)
        have hF := dkF_set hF eI34 (dkIn_atv (i := 4) rfl (Nat.le_refl _) (Nat.le_refl _) d30 rfl)
        refine lv_aload_n hx hb dX4_become_74 rfl (lv_at hl 0 rfl) ?_
        refine dk_get (k := t0) hx hb hts iX4_become_4 hown hK (dk_aT0 ht0 hW) rfl 7 (by decide) (hts (.fieldLink RX4 18 "DogKings$Town" "personAt" "[I") (List.mem_of_getElem? (i := 8) rfl)) rfl dX4_become_75 ?_
        refine lv_iload_n hx hb dX4_become_78 rfl (lv_at hl 2 rfl) ?_
        refine lv_aload_n hx hb dX4_become_79 rfl (lv_at hl 1 rfl) ?_
        refine dk_get (k := t1) hx hb hts iX4_become_4 hown hK (dk_aT0 ht1 hW) rfl 7 (by decide) (hts (.fieldLink RX4 18 "DogKings$Town" "personAt" "[I") (List.mem_of_getElem? (i := 8) rfl)) rfl dX4_become_80 ?_
        refine lv_iload_n hx hb dX4_become_83 rfl (lv_at hl 2 rfl) ?_
        refine dk_ild (k := (t1 + 3)) hx hb hK (dk_aT3 ht1 hW) (dkN_in (n := 5) d30 rfl) dX4_become_84 ?_
        refine lv_topi (fun v35 ev35 => ?_)
        refine dk_ist (k := (t0 + 3)) hx hb hK hW (fun _ => dkC_T g z ht0 (c := 3) (by decide) _) (by have := dkT_lt ht0; omega) hS (dkN_in (n := 5) d30 rfl) dX4_become_85 (fun I36 H36 L36 eI36 hW hS => ?_)
        have hO := dkO_setT hO ht0 (c := 3) (by decide) eI36 (dkN_sub (dkN_top v35) rfl)
        have hF := dkF_set hF eI36 (dkIn_atv (i := 5) rfl (Nat.le_refl _) (Nat.le_refl _) d30 rfl)
        refine lv_aload_n hx hb dX4_become_86 rfl (lv_at hl 0 rfl) ?_
        refine dk_get (k := t0) hx hb hts iX4_become_4 hown hK (dk_aT0 ht0 hW) rfl 8 (by decide) (hts (.fieldLink RX4 21 "DogKings$Town" "bones" "[I") (List.mem_of_getElem? (i := 9) rfl)) rfl dX4_become_87 ?_
        refine lv_iload_n hx hb dX4_become_90 rfl (lv_at hl 2 rfl) ?_
        refine lv_aload_n hx hb dX4_become_91 rfl (lv_at hl 1 rfl) ?_
        refine dk_get (k := t1) hx hb hts iX4_become_4 hown hK (dk_aT0 ht1 hW) rfl 8 (by decide) (hts (.fieldLink RX4 21 "DogKings$Town" "bones" "[I") (List.mem_of_getElem? (i := 9) rfl)) rfl dX4_become_92 ?_
        refine lv_iload_n hx hb dX4_become_95 rfl (lv_at hl 2 rfl) ?_
        refine dk_ild (k := (t1 + 4)) hx hb hK (dk_aT4 ht1 hW) (dkN_in (n := 5) d30 rfl) dX4_become_96 ?_
        refine lv_topi (fun v37 ev37 => ?_)
        refine dk_ist (k := (t0 + 4)) hx hb hK hW (fun _ => dkC_T g z ht0 (c := 4) (by decide) _) (by have := dkT_lt ht0; omega) hS (dkN_in (n := 5) d30 rfl) dX4_become_97 (fun I38 H38 L38 eI38 hW hS => ?_)
        have hO := dkO_setT hO ht0 (c := 4) (by decide) eI38 (dkN_sub (dkN_top v37) rfl)
        have hF := dkF_set hF eI38 (dkIn_atv (i := 6) rfl (Nat.le_refl _) (Nat.le_refl _) d30 rfl)
        refine lv_aload_n hx hb dX4_become_98 rfl (lv_at hl 0 rfl) ?_
        refine dk_get (k := t0) hx hb hts iX4_become_4 hown hK (dk_aT0 ht0 hW) rfl 9 (by decide) (hts (.fieldLink RX4 24 "DogKings$Town" "gait" "[I") (List.mem_of_getElem? (i := 10) rfl)) rfl dX4_become_99 ?_
        refine lv_iload_n hx hb dX4_become_102 rfl (lv_at hl 2 rfl) ?_
        refine lv_aload_n hx hb dX4_become_103 rfl (lv_at hl 1 rfl) ?_
        refine dk_get (k := t1) hx hb hts iX4_become_4 hown hK (dk_aT0 ht1 hW) rfl 9 (by decide) (hts (.fieldLink RX4 24 "DogKings$Town" "gait" "[I") (List.mem_of_getElem? (i := 10) rfl)) rfl dX4_become_104 ?_
        refine lv_iload_n hx hb dX4_become_107 rfl (lv_at hl 2 rfl) ?_
        refine dk_ild (k := (t1 + 5)) hx hb hK (dk_aT5 ht1 hW) (dkN_in (n := 5) d30 rfl) dX4_become_108 ?_
        refine lv_topi (fun v39 ev39 => ?_)
        refine dk_ist (k := (t0 + 5)) hx hb hK hW (fun _ => dkC_T g z ht0 (c := 5) (by decide) _) (by have := dkT_lt ht0; omega) hS (dkN_in (n := 5) d30 rfl) dX4_become_109 (fun I40 H40 L40 eI40 hW hS => ?_)
        have hO := dkO_setT hO ht0 (c := 5) (by decide) eI40 (dkN_sub (dkN_top v39) rfl)
        have hF := dkF_set hF eI40 (dkIn_atv (i := 7) rfl (Nat.le_refl _) (Nat.le_refl _) d30 rfl)
        refine lv_aload_n hx hb dX4_become_110 rfl (lv_at hl 0 rfl) ?_
        refine dk_get (k := t0) hx hb hts iX4_become_4 hown hK (dk_aT0 ht0 hW) rfl 10 (by decide) (hts (.fieldLink RX4 27 "DogKings$Town" "reigns" "[I") (List.mem_of_getElem? (i := 11) rfl)) rfl dX4_become_111 ?_
        refine lv_iload_n hx hb dX4_become_114 rfl (lv_at hl 2 rfl) ?_
        refine lv_aload_n hx hb dX4_become_115 rfl (lv_at hl 1 rfl) ?_
        refine dk_get (k := t1) hx hb hts iX4_become_4 hown hK (dk_aT0 ht1 hW) rfl 10 (by decide) (hts (.fieldLink RX4 27 "DogKings$Town" "reigns" "[I") (List.mem_of_getElem? (i := 11) rfl)) rfl dX4_become_116 ?_
        refine lv_iload_n hx hb dX4_become_119 rfl (lv_at hl 2 rfl) ?_
        refine dk_ild (k := (t1 + 6)) hx hb hK (dk_aT6 ht1 hW) (dkN_in (n := 5) d30 rfl) dX4_become_120 ?_
        refine lv_topi (fun v41 ev41 => ?_)
        refine dk_ist (k := (t0 + 6)) hx hb hK hW (fun _ => dkC_T g z ht0 (c := 6) (by decide) _) (by have := dkT_lt ht0; omega) hS (dkN_in (n := 5) d30 rfl) dX4_become_121 (fun I42 H42 L42 eI42 hW hS => ?_)
        have hO := dkO_setT hO ht0 (c := 6) (by decide) eI42 (dkN_sub (dkN_top v41) rfl)
        have hF := dkF_set hF eI42 (dkIn_atv (i := 8) rfl (Nat.le_refl _) (Nat.le_refl _) d30 rfl)
        obtain ⟨v43, ev43⟩ : ∃ y : Int32, y = x42_2 + 1 := ⟨_, rfl⟩
        have dv43 : dkN [(1, 5)] v43 := by rw [ev43]; exact dkN_add d30 (dkN_lit (x := 1) (1) rfl) rfl
        have xv43 : v43 = x42_2 + 1 := by rw [ev43]
        have q44 : (x42_2 + 1).toInt = x42_2.toInt + (1 : Int) := by first | (rw [← xv43]; exact (by rw [ev43]; exact dk_addE d30 (dkN_lit (x := 1) (1) rfl) rfl)) | (subst xv43; exact (by rw [ev43]; exact dk_addE d30 (dkN_lit (x := 1) (1) rfl) rfl))
        refine lv_iinc (v := v43) (lv' := [(2, .int v43), (0, .ref (z + t0)), (1, .ref (z + t1))]) hx hb dX4_become_122 hl (k := 2) rfl (by rw [ev43]; rfl) (by decide) rfl (fun ls hl => ?_)
        refine lv_goto (tgt := 42) hx hb dX4_become_125 (by decide) ?_
        exact ih42 I42 _ _ ls v43 (dk_near hn42 (by rw [ev43]; exact dk_inc d30 rfl) (dkN_lt d30 rfl)) hW hS hF hO (dkN_sub dv43 rfl) ((by rw [eI42, dkU_n (show (t1 + 7) ≠ (t0 + 6) from dkT_neT (c := 7) (d := 6) ht1 ht0 (by decide) (by decide) (by decide))] : I42 (t1 + 7) = _).trans ((by rw [eI40, dkU_n (show (t1 + 7) ≠ (t0 + 5) from dkT_neT (c := 7) (d := 5) ht1 ht0 (by decide) (by decide) (by decide))] : I40 (t1 + 7) = _).trans ((by rw [eI38, dkU_n (show (t1 + 7) ≠ (t0 + 4) from dkT_neT (c := 7) (d := 4) ht1 ht0 (by decide) (by decide) (by decide))] : I38 (t1 + 7) = _).trans ((by rw [eI36, dkU_n (show (t1 + 7) ≠ (t0 + 3) from dkT_neT (c := 7) (d := 3) ht1 ht0 (by decide) (by decide) (by decide))] : I36 (t1 + 7) = _).trans ((by rw [eI34, dkU_n (show (t1 + 7) ≠ (t0 + 2) from dkT_neT (c := 7) (d := 2) ht1 ht0 (by decide) (by decide) (by decide))] : I34 (t1 + 7) = _).trans ((by rw [eI32, dkU_n (show (t1 + 7) ≠ (t0 + 1) from dkT_neT (c := 7) (d := 1) ht1 ht0 (by decide) (by decide) (by decide))] : I32 (t1 + 7) = _).trans z42_0)))))) ((by rw [eI42, dkU_n (by omega)] : I42 t0 0 = _).trans ((by rw [eI40, dkU_n (by omega)] : I40 t0 0 = _).trans ((by rw [eI38, dkU_n (by omega)] : I38 t0 0 = _).trans ((by rw [eI36, dkU_n (by omega)] : I36 t0 0 = _).trans ((by rw [eI34, dkU_n (by omega)] : I34 t0 0 = _).trans ((by rw [eI32, dkU_n (by omega)] : I32 t0 0 = _).trans zp42_0)))))) ((by rw [eI42, dkU_n (by omega)] : I42 t0 11 = _).trans ((by rw [eI40, dkU_n (by omega)] : I40 t0 11 = _).trans ((by rw [eI38, dkU_n (by omega)] : I38 t0 11 = _).trans ((by rw [eI36, dkU_n (by omega)] : I36 t0 11 = _).trans ((by rw [eI34, dkU_n (by omega)] : I34 t0 11 = _).trans ((by rw [eI32, dkU_n (by omega)] : I32 t0 11 = _).trans zp42_1)))))) ((by rw [eI42, dkU_n (by omega)] : I42 t0 4 = _).trans ((by rw [eI40, dkU_n (by omega)] : I40 t0 4 = _).trans ((by rw [eI38, dkU_n (by omega)] : I38 t0 4 = _).trans ((by rw [eI36, dkU_n (by omega)] : I36 t0 4 = _).trans ((by rw [eI34, dkU_n (by omega)] : I34 t0 4 = _).trans ((by rw [eI32, dkU_n (by omega)] : I32 t0 4 = _).trans zp42_2)))))) ((by rw [eI42, dkU_n (show t1 ≠ (t0 + 6) from dkT_neT (c := 0) (d := 6) ht1 ht0 (by decide) (by decide) (by decide))] : I42 t1 11 = _).trans ((by rw [eI40, dkU_n (show t1 ≠ (t0 + 5) from dkT_neT (c := 0) (d := 5) ht1 ht0 (by decide) (by decide) (by decide))] : I40 t1 11 = _).trans ((by rw [eI38, dkU_n (show t1 ≠ (t0 + 4) from dkT_neT (c := 0) (d := 4) ht1 ht0 (by decide) (by decide) (by decide))] : I38 t1 11 = _).trans ((by rw [eI36, dkU_n (show t1 ≠ (t0 + 3) from dkT_neT (c := 0) (d := 3) ht1 ht0 (by decide) (by decide) (by decide))] : I36 t1 11 = _).trans ((by rw [eI34, dkU_n (show t1 ≠ (t0 + 2) from dkT_neT (c := 0) (d := 2) ht1 ht0 (by decide) (by decide) (by decide))] : I34 t1 11 = _).trans ((by rw [eI32, dkU_n (show t1 ≠ (t0 + 1) from dkT_neT (c := 0) (d := 1) ht1 ht0 (by decide) (by decide) (by decide))] : I32 t1 11 = _).trans zp42_3)))))) (lv_sub hl [1, 2, 0] rfl)
  refine lv_aload_n hx hb dX4_become_0 rfl (lv_at hl 0 rfl) ?_
  refine lv_aload_n hx hb dX4_become_1 rfl (lv_at hl 1 rfl) ?_
  refine dk_get (k := t1) hx hb hts iX4_become_4 hown hK (dk_aT0 ht1 hW) rfl 0 (by decide) (hts (.fieldLink RX4 42 "DogKings$Town" "places" "I") (List.mem_of_getElem? (i := 1) rfl)) rfl dX4_become_2 ?_
  refine lv_topi (fun v45 ev45 => ?_)
  have dv45 : dkN [(0, 9)] v45 := by rw [ev45]; exact (dkO_at hO ht1 (c := 0) (by decide) 0)
  have xv45 : v45 = I0 t1 0 := ev45.trans rfl
  refine dk_put (k := t0) hx hb hts iX4_become_4 tyX4 tyX4_ok nmX4 hown hK hW (dk_aT0 ht0 hW) hS rfl 0 (by decide) (hts (.fieldLink RX4 42 "DogKings$Town" "places" "I") (List.mem_of_getElem? (i := 1) rfl)) rfl rfl (Nat.le_of_ble_eq_true rfl) (dk_eT0 ht0) dX4_become_5 (fun I46 H46 L46 eI46 hW hS => ?_)
  have eI46 : I46 = dkU I0 t0 0 v45 := eI46
  have hO := dkO_setT hO ht0 (c := 0) (by decide) eI46 (dkN_sub dv45 rfl)
  have hF := dkF_set hF eI46 (dkIn_at (i := 0) rfl (Nat.le_refl _) (Nat.le_refl _) (by decide) (by decide))
  refine lv_aload_n hx hb dX4_become_8 rfl (lv_at hl 0 rfl) ?_
  refine lv_aload_n hx hb dX4_become_9 rfl (lv_at hl 1 rfl) ?_
  refine dk_get (k := t1) hx hb hts iX4_become_4 hown hK (dk_aT0 ht1 hW) rfl 1 (by decide) (hts (.fieldLink RX4 46 "DogKings$Town" "fridayLasts" "I") (List.mem_of_getElem? (i := 2) rfl)) rfl dX4_become_10 ?_
  refine lv_topi (fun v47 ev47 => ?_)
  have dv47 : dkN [(0, 30)] v47 := by rw [ev47]; exact (dkO_at hO ht1 (c := 0) (by decide) 1)
  have xv47 : v47 = I0 t1 1 := ev47.trans ((by rw [eI46, dkU_n (by omega)] : I46 t1 1 = _).trans rfl)
  refine dk_put (k := t0) hx hb hts iX4_become_4 tyX4 tyX4_ok nmX4 hown hK hW (dk_aT0 ht0 hW) hS rfl 1 (by decide) (hts (.fieldLink RX4 46 "DogKings$Town" "fridayLasts" "I") (List.mem_of_getElem? (i := 2) rfl)) rfl rfl (Nat.le_of_ble_eq_true rfl) (dk_eT1 ht0) dX4_become_13 (fun I48 H48 L48 eI48 hW hS => ?_)
  have eI48 : I48 = dkU I46 t0 1 v47 := eI48
  have hO := dkO_setT hO ht0 (c := 0) (by decide) eI48 (dkN_sub dv47 rfl)
  have hF := dkF_set hF eI48 (dkIn_at (i := 0) rfl (Nat.le_refl _) (Nat.le_refl _) (by decide) (by decide))
  refine lv_aload_n hx hb dX4_become_16 rfl (lv_at hl 0 rfl) ?_
  refine lv_aload_n hx hb dX4_become_17 rfl (lv_at hl 1 rfl) ?_
  refine dk_get (k := t1) hx hb hts iX4_become_4 hown hK (dk_aT0 ht1 hW) rfl 2 (by decide) (hts (.fieldLink RX4 49 "DogKings$Town" "friday" "I") (List.mem_of_getElem? (i := 3) rfl)) rfl dX4_become_18 ?_
  refine lv_topi (fun v49 ev49 => ?_)
  have xv49 : v49 = I0 t1 2 := ev49.trans ((by rw [eI48, dkU_n (by omega)] : I48 t1 2 = _).trans ((by rw [eI46, dkU_n (by omega)] : I46 t1 2 = _).trans rfl))
  refine dk_put (k := t0) hx hb hts iX4_become_4 tyX4 tyX4_ok nmX4 hown hK hW (dk_aT0 ht0 hW) hS rfl 2 (by decide) (hts (.fieldLink RX4 49 "DogKings$Town" "friday" "I") (List.mem_of_getElem? (i := 3) rfl)) rfl rfl (Nat.le_of_ble_eq_true rfl) (dk_eT2 ht0) dX4_become_21 (fun I50 H50 L50 eI50 hW hS => ?_)
  have eI50 : I50 = dkU I48 t0 2 v49 := eI50
  have hO := dkO_setT hO ht0 (c := 0) (by decide) eI50 (dkN_sub (dkN_top v49) rfl)
  have hF := dkF_set hF eI50 (dkIn_at (i := 0) rfl (Nat.le_refl _) (Nat.le_refl _) (by decide) (by decide))
  refine lv_aload_n hx hb dX4_become_24 rfl (lv_at hl 0 rfl) ?_
  refine lv_aload_n hx hb dX4_become_25 rfl (lv_at hl 1 rfl) ?_
  refine dk_get (k := t1) hx hb hts iX4_become_4 hown hK (dk_aT0 ht1 hW) rfl 3 (by decide) (hts (.fieldLink RX4 52 "DogKings$Town" "minute" "I") (List.mem_of_getElem? (i := 4) rfl)) rfl dX4_become_26 ?_
  refine lv_topi (fun v51 ev51 => ?_)
  have xv51 : v51 = I0 t1 3 := ev51.trans ((by rw [eI50, dkU_n (by omega)] : I50 t1 3 = _).trans ((by rw [eI48, dkU_n (by omega)] : I48 t1 3 = _).trans ((by rw [eI46, dkU_n (by omega)] : I46 t1 3 = _).trans rfl)))
  refine dk_put (k := t0) hx hb hts iX4_become_4 tyX4 tyX4_ok nmX4 hown hK hW (dk_aT0 ht0 hW) hS rfl 3 (by decide) (hts (.fieldLink RX4 52 "DogKings$Town" "minute" "I") (List.mem_of_getElem? (i := 4) rfl)) rfl rfl (Nat.le_of_ble_eq_true rfl) (dk_eT3 ht0) dX4_become_29 (fun I52 H52 L52 eI52 hW hS => ?_)
  have eI52 : I52 = dkU I50 t0 3 v51 := eI52
  have hO := dkO_setT hO ht0 (c := 0) (by decide) eI52 (dkN_sub (dkN_top v51) rfl)
  have hF := dkF_set hF eI52 (dkIn_at (i := 0) rfl (Nat.le_refl _) (Nat.le_refl _) (by decide) (by decide))
  refine lv_aload_n hx hb dX4_become_32 rfl (lv_at hl 0 rfl) ?_
  refine lv_aload_n hx hb dX4_become_33 rfl (lv_at hl 1 rfl) ?_
  refine dk_get (k := t1) hx hb hts iX4_become_4 hown hK (dk_aT0 ht1 hW) rfl 4 (by decide) (hts (.fieldLink RX4 55 "DogKings$Town" "people" "I") (List.mem_of_getElem? (i := 5) rfl)) rfl dX4_become_34 ?_
  refine lv_topi (fun v53 ev53 => ?_)
  have dv53 : dkN [(0, 5)] v53 := by rw [ev53]; exact (dkO_at hO ht1 (c := 0) (by decide) 4)
  have xv53 : v53 = I0 t1 4 := ev53.trans ((by rw [eI52, dkU_n (by omega)] : I52 t1 4 = _).trans ((by rw [eI50, dkU_n (by omega)] : I50 t1 4 = _).trans ((by rw [eI48, dkU_n (by omega)] : I48 t1 4 = _).trans ((by rw [eI46, dkU_n (by omega)] : I46 t1 4 = _).trans rfl))))
  refine dk_put (k := t0) hx hb hts iX4_become_4 tyX4 tyX4_ok nmX4 hown hK hW (dk_aT0 ht0 hW) hS rfl 4 (by decide) (hts (.fieldLink RX4 55 "DogKings$Town" "people" "I") (List.mem_of_getElem? (i := 5) rfl)) rfl rfl (Nat.le_of_ble_eq_true rfl) (dk_eT4 ht0) dX4_become_37 (fun I54 H54 L54 eI54 hW hS => ?_)
  have eI54 : I54 = dkU I52 t0 4 v53 := eI54
  have hO := dkO_setT hO ht0 (c := 0) (by decide) eI54 (dkN_sub dv53 rfl)
  have hF := dkF_set hF eI54 (dkIn_at (i := 0) rfl (Nat.le_refl _) (Nat.le_refl _) (by decide) (by decide))
  refine lv_iconst (v := 0) hx hb dX4_become_40 (by decide) ?_
  refine lv_istore_n (lv' := [(2, .int 0), (0, .ref (z + t0)), (1, .ref (z + t1))]) hx hb dX4_become_41 rfl hl (by decide) rfl (fun ls hl => ?_)
  exact C42 _ I54 _ _ ls 0 (Nat.lt_succ_self _) hW hS hF hO (dkN_sub (dkN_lit (x := 0) (0) rfl) rfl) ((by rw [eI54, dkU_n (show (t1 + 7) ≠ t0 from dkT_neT (c := 7) (d := 0) ht1 ht0 (by decide) (by decide) (by decide))] : I54 (t1 + 7) = _).trans ((by rw [eI52, dkU_n (show (t1 + 7) ≠ t0 from dkT_neT (c := 7) (d := 0) ht1 ht0 (by decide) (by decide) (by decide))] : I52 (t1 + 7) = _).trans ((by rw [eI50, dkU_n (show (t1 + 7) ≠ t0 from dkT_neT (c := 7) (d := 0) ht1 ht0 (by decide) (by decide) (by decide))] : I50 (t1 + 7) = _).trans ((by rw [eI48, dkU_n (show (t1 + 7) ≠ t0 from dkT_neT (c := 7) (d := 0) ht1 ht0 (by decide) (by decide) (by decide))] : I48 (t1 + 7) = _).trans ((by rw [eI46, dkU_n (show (t1 + 7) ≠ t0 from dkT_neT (c := 7) (d := 0) ht1 ht0 (by decide) (by decide) (by decide))] : I46 (t1 + 7) = _).trans rfl))))) ((by rw [eI54, dkU_sn (by decide)] : I54 t0 0 = _).trans ((by rw [eI52, dkU_sn (by decide)] : I52 t0 0 = _).trans ((by rw [eI50, dkU_sn (by decide)] : I50 t0 0 = _).trans ((by rw [eI48, dkU_sn (by decide)] : I48 t0 0 = _).trans (by rw [eI46, dkU_ss, xv45]))))) ((by rw [eI54, dkU_sn (by decide)] : I54 t0 11 = _).trans ((by rw [eI52, dkU_sn (by decide)] : I52 t0 11 = _).trans ((by rw [eI50, dkU_sn (by decide)] : I50 t0 11 = _).trans ((by rw [eI48, dkU_sn (by decide)] : I48 t0 11 = _).trans ((by rw [eI46, dkU_sn (by decide)] : I46 t0 11 = _).trans rfl))))) (by rw [eI54, dkU_ss, xv53]) ((by rw [eI54, dkU_n (by omega)] : I54 t1 11 = _).trans ((by rw [eI52, dkU_n (by omega)] : I52 t1 11 = _).trans ((by rw [eI50, dkU_n (by omega)] : I50 t1 11 = _).trans ((by rw [eI48, dkU_n (by omega)] : I48 t1 11 = _).trans ((by rw [eI46, dkU_n (by omega)] : I46 t1 11 = _).trans rfl))))) (lv_sub hl [1, 2, 0] rfl)
