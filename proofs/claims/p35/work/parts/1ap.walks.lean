set_option maxHeartbeats 4000000 in
set_option maxRecDepth 100000 in
theorem c_X5_isA_2 (l : Launch) (g : dkG) (z : Nat) (I0 : dkI) (p0 : Int32) (p1 : Int32) (dp1 : dkN [(0, 5)] p1)  (hO : dkOk I0) : Met l yX5_isA wsX5_isA (dkR 0) (dkPc g z [.int p0, .int p1] I0) (dkQi g z (fun r I1 => dkF [] I0 I1 ∧ dkOk I1 ∧ ((dkN [(0, 0)] r ∧ dkN [(1, 5)] p1 ∧ True) ∨ (dkN [(1, 1)] r ∧ True)))) 0 0 (dkA z) := by
  refine Met.ofW (cc := cX5_isA) (maxL := 2) (ret := (some .boolean)) (by decide) rfl ?_
  intro p e s m args below meth c s₁ B hml hv
  obtain ⟨ha, hW, hK, hT⟩ := hv
  have hx := B.exec
  have hb := B.bytes
  have hr := B.returns
  have hts := atoms_spec (ws := wsX5_isA) B.pre
  have hown : s.vm.findClass RX5 = some m.cls := findClass_of_methodNamed B.named
  have hlocks := B.notSynchronized
  have hS : va_S (dkA z) s.heap s.heap [] := va_S.rf
  have hF : dkF [] I0 I0 := dkF_rf _ _
  have hl := lv_entry ([.int p0, .int p1]) (n := 2) (Nat.le_of_ble_eq_true rfl)
  have hgo : entryFrame m args 2 = entryFrame m ([.int p0, .int p1] : List Value).toArray 2 := by rw [ha]
  rw [hgo, lg_entry_eq]
  generalize (lg_sl ([.int p0, .int p1]) ++ List.replicate (2 - (lg_sl ([.int p0, .int p1])).length) Slot.unset).toArray = ls at hl ⊢
  have hl : lv_has ls 2 [(0, .int p0), (1, .int p1)] := hl
  refine lv_iload_n hx hb dX5_isA_0 rfl (lv_at hl 1 rfl) ?_
  by_cases c1 : p1 = 0
  ·
    have qc1 : p1.toInt = 0 := by rw [c1]; rfl
    have d2 : dkN [(0, 0)] p1 := dkN_lit (0) qc1
    refine lv_tableIn (tgt := 36) hx hb dX5_isA_1 (by rw [qc1]; decide) (by rw [qc1]; decide) (by rw [qc1]; rfl) (by decide) ?_
    refine lv_iconst (v := 1) hx hb dX5_isA_36 (by decide) ?_
    exact W.zret (v := 1) (ty := .boolean) hx hb hr rfl (fun t ht hW9 => ⟨⟨1, I0, rfl, ⟨hF, hO, Or.inr (⟨dkN_sub (dkN_lit (x := 1) (1) rfl) rfl, trivial⟩)⟩, dkW_eq ht hW⟩, hS.F ht⟩) hS.2.2 dX5_isA_37
  ·
    have d3 : dkN [(1, 5)] p1 := dkN_ne1 (0) dp1 (dkN_lit (x := 0) (0) rfl) (dk_ne c1) rfl
    by_cases c4 : p1 = 1
    ·
      have qc4 : p1.toInt = 1 := by rw [c4]; rfl
      have d5 : dkN [(1, 1)] p1 := dkN_lit (1) qc4
      refine lv_tableIn (tgt := 38) hx hb dX5_isA_1 (by rw [qc4]; decide) (by rw [qc4]; decide) (by rw [qc4]; rfl) (by decide) ?_
      refine lv_iload_n hx hb dX5_isA_38 rfl (lv_at hl 0 rfl) ?_
      refine lv_iconst (v := 1) hx hb dX5_isA_39 (by decide) ?_
      refine lv_icmp_eq (tgt := 53) hx hb dX5_isA_40 (by decide) (fun c6 => ?_) (fun c6 => ?_)
      ·
        have d7 : dkN [(1, 1)] p0 := dkN_eq1 (dkN_top p0) (dkN_lit (x := 1) (1) rfl) (congrArg Int32.toInt c6) rfl
        refine lv_iconst (v := 1) hx hb dX5_isA_53 (by decide) ?_
        refine lv_goto (tgt := 58) hx hb dX5_isA_54 (by decide) ?_
        exact W.zret (v := 1) (ty := .boolean) hx hb hr rfl (fun t ht hW9 => ⟨⟨1, I0, rfl, ⟨hF, hO, Or.inr (⟨dkN_sub (dkN_lit (x := 1) (1) rfl) rfl, trivial⟩)⟩, dkW_eq ht hW⟩, hS.F ht⟩) hS.2.2 dX5_isA_58
      ·
        have d8 : dkN [(-2147483648, 0), (2, 2147483647)] p0 := dkN_ne1 (1) (dkN_top p0) (dkN_lit (x := 1) (1) rfl) (dk_ne c6) rfl
        refine lv_iload_n hx hb dX5_isA_43 rfl (lv_at hl 0 rfl) ?_
        refine lv_iconst (v := 2) hx hb dX5_isA_44 (by decide) ?_
        refine lv_icmp_eq (tgt := 53) hx hb dX5_isA_45 (by decide) (fun c9 => ?_) (fun c9 => ?_)
        ·
          have d10 : dkN [(2, 2)] p0 := dkN_eq1 d8 (dkN_lit (x := 2) (2) rfl) (congrArg Int32.toInt c9) rfl
          refine lv_iconst (v := 1) hx hb dX5_isA_53 (by decide) ?_
          refine lv_goto (tgt := 58) hx hb dX5_isA_54 (by decide) ?_
          exact W.zret (v := 1) (ty := .boolean) hx hb hr rfl (fun t ht hW9 => ⟨⟨1, I0, rfl, ⟨hF, hO, Or.inr (⟨dkN_sub (dkN_lit (x := 1) (1) rfl) rfl, trivial⟩)⟩, dkW_eq ht hW⟩, hS.F ht⟩) hS.2.2 dX5_isA_58
        ·
          have d11 : dkN [(-2147483648, 0), (3, 2147483647)] p0 := dkN_ne1 (2) d8 (dkN_lit (x := 2) (2) rfl) (dk_ne c9) rfl
          refine lv_iload_n hx hb dX5_isA_48 rfl (lv_at hl 0 rfl) ?_
          refine lv_iconst (v := 3) hx hb dX5_isA_49 (by decide) ?_
          refine lv_icmp_ne (tgt := 57) hx hb dX5_isA_50 (by decide) (fun c12 => ?_) (fun c12 => ?_)
          ·
            have d13 : dkN [(-2147483648, 0), (4, 2147483647)] p0 := dkN_ne1 (3) d11 (dkN_lit (x := 3) (3) rfl) (dk_ne c12) rfl
            refine lv_iconst (v := 0) hx hb dX5_isA_57 (by decide) ?_
            exact W.zret (v := 0) (ty := .boolean) hx hb hr rfl (fun t ht hW9 => ⟨⟨0, I0, rfl, ⟨hF, hO, Or.inl ⟨dkN_sub (dkN_lit (x := 0) (0) rfl) rfl, dkN_sub d5 rfl, trivial⟩⟩, dkW_eq ht hW⟩, hS.F ht⟩) hS.2.2 dX5_isA_58
          ·
            have d14 : dkN [(3, 3)] p0 := dkN_eq1 d11 (dkN_lit (x := 3) (3) rfl) (congrArg Int32.toInt c12) rfl
            refine lv_iconst (v := 1) hx hb dX5_isA_53 (by decide) ?_
            refine lv_goto (tgt := 58) hx hb dX5_isA_54 (by decide) ?_
            exact W.zret (v := 1) (ty := .boolean) hx hb hr rfl (fun t ht hW9 => ⟨⟨1, I0, rfl, ⟨hF, hO, Or.inr (⟨dkN_sub (dkN_lit (x := 1) (1) rfl) rfl, trivial⟩)⟩, dkW_eq ht hW⟩, hS.F ht⟩) hS.2.2 dX5_isA_58
    ·
      have d15 : dkN [(2, 5)] p1 := dkN_ne1 (1) d3 (dkN_lit (x := 1) (1) rfl) (dk_ne c4) rfl
      by_cases c16 : p1 = 2
      ·
        have qc16 : p1.toInt = 2 := by rw [c16]; rfl
        have d17 : dkN [(2, 2)] p1 := dkN_lit (2) qc16
        refine lv_tableIn (tgt := 75) hx hb dX5_isA_1 (by rw [qc16]; decide) (by rw [qc16]; decide) (by rw [qc16]; rfl) (by decide) ?_
        refine lv_iload_n hx hb dX5_isA_75 rfl (lv_at hl 0 rfl) ?_
        refine lv_iload_n hx hb dX5_isA_76 rfl (lv_at hl 1 rfl) ?_
        refine lv_icmp_ne (tgt := 84) hx hb dX5_isA_77 (by decide) (fun c18 => ?_) (fun c18 => ?_)
        ·
          have d19 : dkN [(-2147483648, 1), (3, 2147483647)] p0 := dkN_ne1 (2) (dkN_top p0) d17 (dk_ne c18) rfl
          refine lv_iconst (v := 0) hx hb dX5_isA_84 (by decide) ?_
          exact W.zret (v := 0) (ty := .boolean) hx hb hr rfl (fun t ht hW9 => ⟨⟨0, I0, rfl, ⟨hF, hO, Or.inl ⟨dkN_sub (dkN_lit (x := 0) (0) rfl) rfl, dkN_sub d17 rfl, trivial⟩⟩, dkW_eq ht hW⟩, hS.F ht⟩) hS.2.2 dX5_isA_85
        ·
          have d20 : dkN [(2, 2)] p0 := dkN_eq1 (dkN_top p0) d17 (congrArg Int32.toInt c18) rfl
          refine lv_iconst (v := 1) hx hb dX5_isA_80 (by decide) ?_
          refine lv_goto (tgt := 85) hx hb dX5_isA_81 (by decide) ?_
          exact W.zret (v := 1) (ty := .boolean) hx hb hr rfl (fun t ht hW9 => ⟨⟨1, I0, rfl, ⟨hF, hO, Or.inr (⟨dkN_sub (dkN_lit (x := 1) (1) rfl) rfl, trivial⟩)⟩, dkW_eq ht hW⟩, hS.F ht⟩) hS.2.2 dX5_isA_85
      ·
        have d21 : dkN [(3, 5)] p1 := dkN_ne1 (2) d15 (dkN_lit (x := 2) (2) rfl) (dk_ne c16) rfl
        by_cases c22 : p1 = 3
        ·
          have qc22 : p1.toInt = 3 := by rw [c22]; rfl
          have d23 : dkN [(3, 3)] p1 := dkN_lit (3) qc22
          refine lv_tableIn (tgt := 75) hx hb dX5_isA_1 (by rw [qc22]; decide) (by rw [qc22]; decide) (by rw [qc22]; rfl) (by decide) ?_
          refine lv_iload_n hx hb dX5_isA_75 rfl (lv_at hl 0 rfl) ?_
          refine lv_iload_n hx hb dX5_isA_76 rfl (lv_at hl 1 rfl) ?_
          refine lv_icmp_ne (tgt := 84) hx hb dX5_isA_77 (by decide) (fun c24 => ?_) (fun c24 => ?_)
          ·
            have d25 : dkN [(-2147483648, 2), (4, 2147483647)] p0 := dkN_ne1 (3) (dkN_top p0) d23 (dk_ne c24) rfl
            refine lv_iconst (v := 0) hx hb dX5_isA_84 (by decide) ?_
            exact W.zret (v := 0) (ty := .boolean) hx hb hr rfl (fun t ht hW9 => ⟨⟨0, I0, rfl, ⟨hF, hO, Or.inl ⟨dkN_sub (dkN_lit (x := 0) (0) rfl) rfl, dkN_sub d23 rfl, trivial⟩⟩, dkW_eq ht hW⟩, hS.F ht⟩) hS.2.2 dX5_isA_85
          ·
            have d26 : dkN [(3, 3)] p0 := dkN_eq1 (dkN_top p0) d23 (congrArg Int32.toInt c24) rfl
            refine lv_iconst (v := 1) hx hb dX5_isA_80 (by decide) ?_
            refine lv_goto (tgt := 85) hx hb dX5_isA_81 (by decide) ?_
            exact W.zret (v := 1) (ty := .boolean) hx hb hr rfl (fun t ht hW9 => ⟨⟨1, I0, rfl, ⟨hF, hO, Or.inr (⟨dkN_sub (dkN_lit (x := 1) (1) rfl) rfl, trivial⟩)⟩, dkW_eq ht hW⟩, hS.F ht⟩) hS.2.2 dX5_isA_85
        ·
          have d27 : dkN [(4, 5)] p1 := dkN_ne1 (3) d21 (dkN_lit (x := 3) (3) rfl) (dk_ne c22) rfl
          by_cases c28 : p1 = 4
          ·
            have qc28 : p1.toInt = 4 := by rw [c28]; rfl
            have d29 : dkN [(4, 4)] p1 := dkN_lit (4) qc28
            refine lv_tableIn (tgt := 59) hx hb dX5_isA_1 (by rw [qc28]; decide) (by rw [qc28]; decide) (by rw [qc28]; rfl) (by decide) ?_
            refine lv_iload_n hx hb dX5_isA_59 rfl (lv_at hl 0 rfl) ?_
            refine lv_iconst (v := 4) hx hb dX5_isA_60 (by decide) ?_
            refine lv_icmp_eq (tgt := 69) hx hb dX5_isA_61 (by decide) (fun c30 => ?_) (fun c30 => ?_)
            ·
              have d31 : dkN [(4, 4)] p0 := dkN_eq1 (dkN_top p0) (dkN_lit (x := 4) (4) rfl) (congrArg Int32.toInt c30) rfl
              refine lv_iconst (v := 1) hx hb dX5_isA_69 (by decide) ?_
              refine lv_goto (tgt := 74) hx hb dX5_isA_70 (by decide) ?_
              exact W.zret (v := 1) (ty := .boolean) hx hb hr rfl (fun t ht hW9 => ⟨⟨1, I0, rfl, ⟨hF, hO, Or.inr (⟨dkN_sub (dkN_lit (x := 1) (1) rfl) rfl, trivial⟩)⟩, dkW_eq ht hW⟩, hS.F ht⟩) hS.2.2 dX5_isA_74
            ·
              have d32 : dkN [(-2147483648, 3), (5, 2147483647)] p0 := dkN_ne1 (4) (dkN_top p0) (dkN_lit (x := 4) (4) rfl) (dk_ne c30) rfl
              refine lv_iload_n hx hb dX5_isA_64 rfl (lv_at hl 0 rfl) ?_
              refine lv_iconst (v := 5) hx hb dX5_isA_65 (by decide) ?_
              refine lv_icmp_ne (tgt := 73) hx hb dX5_isA_66 (by decide) (fun c33 => ?_) (fun c33 => ?_)
              ·
                have d34 : dkN [(-2147483648, 3), (6, 2147483647)] p0 := dkN_ne1 (5) d32 (dkN_lit (x := 5) (5) rfl) (dk_ne c33) rfl
                refine lv_iconst (v := 0) hx hb dX5_isA_73 (by decide) ?_
                exact W.zret (v := 0) (ty := .boolean) hx hb hr rfl (fun t ht hW9 => ⟨⟨0, I0, rfl, ⟨hF, hO, Or.inl ⟨dkN_sub (dkN_lit (x := 0) (0) rfl) rfl, dkN_sub d29 rfl, trivial⟩⟩, dkW_eq ht hW⟩, hS.F ht⟩) hS.2.2 dX5_isA_74
              ·
                have d35 : dkN [(5, 5)] p0 := dkN_eq1 d32 (dkN_lit (x := 5) (5) rfl) (congrArg Int32.toInt c33) rfl
                refine lv_iconst (v := 1) hx hb dX5_isA_69 (by decide) ?_
                refine lv_goto (tgt := 74) hx hb dX5_isA_70 (by decide) ?_
                exact W.zret (v := 1) (ty := .boolean) hx hb hr rfl (fun t ht hW9 => ⟨⟨1, I0, rfl, ⟨hF, hO, Or.inr (⟨dkN_sub (dkN_lit (x := 1) (1) rfl) rfl, trivial⟩)⟩, dkW_eq ht hW⟩, hS.F ht⟩) hS.2.2 dX5_isA_74
          ·
            have d36 : dkN [(5, 5)] p1 := dkN_ne1 (4) d27 (dkN_lit (x := 4) (4) rfl) (dk_ne c28) rfl
            refine lv_tableOut (tgt := 75) hx hb dX5_isA_1 (dkN_out d36 rfl) (by decide) ?_
            refine lv_iload_n hx hb dX5_isA_75 rfl (lv_at hl 0 rfl) ?_
            refine lv_iload_n hx hb dX5_isA_76 rfl (lv_at hl 1 rfl) ?_
            refine lv_icmp_ne (tgt := 84) hx hb dX5_isA_77 (by decide) (fun c37 => ?_) (fun c37 => ?_)
            ·
              have d38 : dkN [(-2147483648, 4), (6, 2147483647)] p0 := dkN_ne1 (5) (dkN_top p0) d36 (dk_ne c37) rfl
              refine lv_iconst (v := 0) hx hb dX5_isA_84 (by decide) ?_
              exact W.zret (v := 0) (ty := .boolean) hx hb hr rfl (fun t ht hW9 => ⟨⟨0, I0, rfl, ⟨hF, hO, Or.inl ⟨dkN_sub (dkN_lit (x := 0) (0) rfl) rfl, dkN_sub d36 rfl, trivial⟩⟩, dkW_eq ht hW⟩, hS.F ht⟩) hS.2.2 dX5_isA_85
            ·
              have d39 : dkN [(5, 5)] p0 := dkN_eq1 (dkN_top p0) d36 (congrArg Int32.toInt c37) rfl
              refine lv_iconst (v := 1) hx hb dX5_isA_80 (by decide) ?_
              refine lv_goto (tgt := 85) hx hb dX5_isA_81 (by decide) ?_
              exact W.zret (v := 1) (ty := .boolean) hx hb hr rfl (fun t ht hW9 => ⟨⟨1, I0, rfl, ⟨hF, hO, Or.inr (⟨dkN_sub (dkN_lit (x := 1) (1) rfl) rfl, trivial⟩)⟩, dkW_eq ht hW⟩, hS.F ht⟩) hS.2.2 dX5_isA_85
set_option maxHeartbeats 4000000 in
set_option maxRecDepth 100000 in
theorem c_X5_found_4 (l : Launch) (g : dkG) (z : Nat) (I0 : dkI) (p0 : Int32) (dp0 : dkN [(3, 3)] p0)  (hO : dkOk I0) : Met l yX5_found wsX5_found (dkR 0) (dkPc g z [.ref (z + 0), .int p0] I0) (dkQi g z (fun r I1 => dkF [(0, 0, 3, 3)] I0 I1 ∧ dkOk I1 ∧ ((dkN [(-1000013, -1000013)] r ∧ dkN [(3, 3)] (I1 0 3) ∧ True)))) 0 0 (dkA z) := by
  refine Met.ofW (cc := cX5_found) (maxL := 2) (ret := (some .int)) (by decide) rfl ?_
  intro p e s m args below meth c s₁ B hml hv
  obtain ⟨ha, hW, hK, hT⟩ := hv
  have hx := B.exec
  have hb := B.bytes
  have hr := B.returns
  have hts := atoms_spec (ws := wsX5_found) B.pre
  have hown : s.vm.findClass RX5 = some m.cls := findClass_of_methodNamed B.named
  have hlocks := B.notSynchronized
  have hS : va_S (dkA z) s.heap s.heap [] := va_S.rf
  have hF : dkF [(0, 0, 3, 3)] I0 I0 := dkF_rf _ _
  have hl := lv_entry ([.ref (z + 0), .int p0]) (n := 2) (Nat.le_of_ble_eq_true rfl)
  have hgo : entryFrame m args 2 = entryFrame m ([.ref (z + 0), .int p0] : List Value).toArray 2 := by rw [ha]
  rw [hgo, lg_entry_eq]
  generalize (lg_sl ([.ref (z + 0), .int p0]) ++ List.replicate (2 - (lg_sl ([.ref (z + 0), .int p0])).length) Slot.unset).toArray = ls at hl ⊢
  have hl : lv_has ls 2 [(0, .ref (z + 0)), (1, .int p0)] := hl
  refine lv_aload_n hx hb dX5_found_0 rfl (lv_at hl 0 rfl) ?_
  refine lv_iload_n hx hb dX5_found_1 rfl (lv_at hl 1 rfl) ?_
  refine dk_put (k := 0) hx hb hts iX5_found_5 tyX5 tyX5_ok nmX5 hown hK hW (dk_at0 hW) hS rfl 3 (by decide) (hts (.fieldLink RX5 292 "DogKings" "finding" "I") (List.mem_of_getElem? (i := 1) rfl)) rfl rfl (Nat.le_of_ble_eq_true rfl) rfl dX5_found_2 (fun I1 H1 L1 eI1 hW hS => ?_)
  have eI1 : I1 = dkU I0 0 3 p0 := eI1
  have hO := dkO_set hO eI1 (dkN_sub dp0 rfl)
  have hF := dkF_set hF eI1 rfl
  refine lv_ldcw (v := (-1000010)) hx hb hown (hts (.constant RX5 295 (-1000010)) (List.mem_of_getElem? (i := 2) rfl)) dX5_found_5 ?_
  refine lv_iload_n hx hb dX5_found_8 rfl (lv_at hl 1 rfl) ?_
  refine lv_isub hx hb dX5_found_9 ?_
  refine lv_topi (fun v2 ev2 => ?_)
  have dv2 : dkN [(-1000013, -1000013)] v2 := by rw [ev2]; exact dkN_subt (dkN_lit (x := (-1000010)) (-1000010) rfl) dp0 rfl
  exact W.iret (v := v2) hx hb hr (fun t ht hW9 => ⟨⟨v2, I1, rfl, ⟨hF, hO, ⟨dkN_sub dv2 rfl, (show dkN [(3, 3)] (I1 0 3) from dkN_sub (by rw [eI1, dkU_ss]; exact dp0) rfl), trivial⟩⟩, dkW_eq ht hW⟩, hS.F ht⟩) hS.2.2 dX5_found_10
set_option maxHeartbeats 4000000 in
set_option maxRecDepth 100000 in
theorem c_X5_as_0 (l : Launch) (g : dkG) (z : Nat) (I0 : dkI) (p0 : Int32) (p1 : Int32)  (hO : dkOk I0) : Met l yX5_as wsX5_as (dkR 1) (dkPc g z [.ref (z + 0), .int p0, .int p1] I0) (dkQi g z (fun r I1 => dkF [(0, 0, 3, 3)] I0 I1 ∧ dkOk I1 ∧ ((dkN [(-1000013, -1000013)] r ∧ dkN [(0, 5)] p0 ∧ dkN [(1, 5)] p1 ∧ dkN [(3, 3)] (I1 0 3) ∧ dkN [(1, 6)] (I1 25 11) ∧ True) ∨ (dkN [(-1000001, -1000001)] r ∧ True) ∨ (dkN [(0, 5)] r ∧ dkN [(0, 5)] p0 ∧ dkN [(0, 5)] p1 ∧ dkN [(0, 0)] (I1 0 3) ∧ dkN [(1, 6)] (I1 25 11) ∧ True)))) 0 0 (dkA z) := by
  refine Met.ofW (cc := cX5_as) (maxL := 3) (ret := (some .int)) (by decide) rfl ?_
  intro p e s m args below meth c s₁ B hml hv
  obtain ⟨ha, hW, hK, hT⟩ := hv
  have hx := B.exec
  have hb := B.bytes
  have hr := B.returns
  have hts := atoms_spec (ws := wsX5_as) B.pre
  have hown : s.vm.findClass RX5 = some m.cls := findClass_of_methodNamed B.named
  have hlocks := B.notSynchronized
  have hS : va_S (dkA z) s.heap s.heap [] := va_S.rf
  have hF : dkF [(0, 0, 3, 3)] I0 I0 := dkF_rf _ _
  have hl := lv_entry ([.ref (z + 0), .int p0, .int p1]) (n := 3) (Nat.le_of_ble_eq_true rfl)
  have hgo : entryFrame m args 3 = entryFrame m ([.ref (z + 0), .int p0, .int p1] : List Value).toArray 3 := by rw [ha]
  rw [hgo, lg_entry_eq]
  generalize (lg_sl ([.ref (z + 0), .int p0, .int p1]) ++ List.replicate (3 - (lg_sl ([.ref (z + 0), .int p0, .int p1])).length) Slot.unset).toArray = ls at hl ⊢
  have hl : lv_has ls 3 [(0, .ref (z + 0)), (1, .int p0), (2, .int p1)] := hl
  refine lv_aload_n hx hb dX5_as_0 rfl (lv_at hl 0 rfl) ?_
  refine lv_iload_n hx hb dX5_as_1 rfl (lv_at hl 1 rfl) ?_
  refine dk_Vi (As := [.int p0]) (rest := []) ⟨hx, hb, hml, hown, hts⟩ (c_X5_isDog_0 l g z I0 p0 hO) (cwV 1 hts gX5_as_X5_isDog rfl rfl rfl (by decide +kernel) ⟨Nat.le_of_ble_eq_true rfl, Nat.le_of_ble_eq_true rfl⟩) (dk_at0 hW) rfl hK hT hW hS rfl hl.1 rfl (Nat.le_of_ble_eq_true rfl) dX5_as_2 ⟨Nat.zero_le _, Nat.zero_le _⟩ (fun v1 I1 H1 L1 hp1 hW hS => ?_)
  obtain ⟨hF1, hO, hc1⟩ := hp1
  have hF := dkF_call hF hF1 rfl
  rcases hc1 with ⟨dv1, -⟩ | hc1
  ·
    refine lv_if_eq (tgt := 16) hx hb dX5_as_5 (by decide) (fun c2 => ?_) (fun c2 => ?_)
    ·
      refine lv_ldc (v := (-1000001)) hx hb hown (hts (.constant RX5 70 (-1000001)) (List.mem_of_getElem? (i := 1) rfl)) dX5_as_16 ?_
      exact W.iret (v := (-1000001)) hx hb hr (fun t ht hW9 => ⟨⟨(-1000001), I1, rfl, ⟨hF, hO, Or.inr (Or.inl ⟨dkN_sub (dkN_lit (x := (-1000001)) (-1000001) rfl) rfl, trivial⟩)⟩, dkW_eq ht hW⟩, hS.F ht⟩) hS.2.2 dX5_as_18
    ·
      exact (dkN_nil (show dkN [] v1 from dkN_ne1 (0) dv1 (dkN_lit (x := 0) (0) rfl) (dk_ne c2) rfl)).elim
  ·
    obtain ⟨dv1, a1_0, f1_25_11, -⟩ := hc1
    have d3 : dkN [(0, 5)] p0 := dkN_eq1 (dkN_top p0) a1_0 rfl rfl
    refine lv_if_eq (tgt := 16) hx hb dX5_as_5 (by decide) (fun c4 => ?_) (fun c4 => ?_)
    ·
      exact (dkN_nil (show dkN [] v1 from dkN_eq1 dv1 (dkN_lit (x := 0) (0) rfl) (congrArg Int32.toInt c4) rfl)).elim
    ·
      refine lv_iload_n hx hb dX5_as_8 rfl (lv_at hl 2 rfl) ?_
      refine lv_iconst (v := 5) hx hb dX5_as_9 (by decide) ?_
      refine dk_Si (As := [.int p1, .int 5]) (rest := []) ⟨hx, hb, hml, hown, hts⟩ (c_X5_isUpTo_7 l g z I1 p1 5 (dkN_lit (x := 5) (5) rfl) hO) (va_cwS 2 hts gX5_as_X5_isUpTo rfl rfl rfl (by decide +kernel) ⟨Nat.le_of_ble_eq_true rfl, Nat.le_of_ble_eq_true rfl⟩) hK hT hW hS rfl hl.1 rfl (Nat.le_of_ble_eq_true rfl) dX5_as_10 ⟨Nat.zero_le _, Nat.zero_le _⟩ (fun v5 I5 H5 L5 hp5 hW hS => ?_)
      obtain ⟨hF5, hO, hc5⟩ := hp5
      have hF := dkF_call hF hF5 rfl
      rcases hc5 with ⟨dv5, a5_0, -⟩ | hc5
      ·
        have d6 : dkN [(-2147483648, -1), (6, 2147483647)] p1 := dkN_eq1 (dkN_top p1) a5_0 rfl rfl
        refine lv_if_ne (tgt := 19) hx hb dX5_as_13 (by decide) (fun c7 => ?_) (fun c7 => ?_)
        ·
          exact (dkN_nil (show dkN [] v5 from dkN_ne1 (0) dv5 (dkN_lit (x := 0) (0) rfl) (dk_ne c7) rfl)).elim
        ·
          refine lv_ldc (v := (-1000001)) hx hb hown (hts (.constant RX5 70 (-1000001)) (List.mem_of_getElem? (i := 1) rfl)) dX5_as_16 ?_
          exact W.iret (v := (-1000001)) hx hb hr (fun t ht hW9 => ⟨⟨(-1000001), I5, rfl, ⟨hF, hO, Or.inr (Or.inl ⟨dkN_sub (dkN_lit (x := (-1000001)) (-1000001) rfl) rfl, trivial⟩)⟩, dkW_eq ht hW⟩, hS.F ht⟩) hS.2.2 dX5_as_18
      ·
        obtain ⟨dv5, a5_0, -⟩ := hc5
        have d8 : dkN [(0, 5)] p1 := dkN_eq1 (dkN_top p1) a5_0 rfl rfl
        refine lv_if_ne (tgt := 19) hx hb dX5_as_13 (by decide) (fun c9 => ?_) (fun c9 => ?_)
        ·
          refine lv_aload_n hx hb dX5_as_19 rfl (lv_at hl 0 rfl) ?_
          refine dk_get (k := 0) hx hb hts iX5_as_5 hown hK (dk_at0 hW) rfl 5 (by decide) (hts (.fieldLink RX5 31 "DogKings" "now" "LDogKings$Town;") (List.mem_of_getElem? (i := 2) rfl)) rfl dX5_as_20 ?_
          refine dk_get (k := 25) hx hb hts iX5_as_4 hown hK (dk_at25 hW) rfl 12 (by decide) (hts (.fieldLink RX5 259 "DogKings$Town" "sort" "[I") (List.mem_of_getElem? (i := 3) rfl)) rfl dX5_as_23 ?_
          refine lv_iload_n hx hb dX5_as_26 rfl (lv_at hl 1 rfl) ?_
          refine dk_ild (k := 32) hx hb hK (dk_at32 hW) (dkN_in (n := 6) d3 rfl) dX5_as_27 ?_
          refine lv_topi (fun v10 ev10 => ?_)
          refine lv_iload_n hx hb dX5_as_28 rfl (lv_at hl 2 rfl) ?_
          refine dk_Si (As := [.int v10, .int p1]) (rest := []) ⟨hx, hb, hml, hown, hts⟩ (c_X5_isA_2 l g z I5 v10 p1 d8 hO) (va_cwS 2 hts gX5_as_X5_isA rfl rfl rfl (by decide +kernel) ⟨Nat.le_of_ble_eq_true rfl, Nat.le_of_ble_eq_true rfl⟩) hK hT hW hS rfl hl.1 rfl (Nat.le_of_ble_eq_true rfl) dX5_as_29 ⟨Nat.zero_le _, Nat.zero_le _⟩ (fun v11 I11 H11 L11 hp11 hW hS => ?_)
          obtain ⟨hF11, hO, hc11⟩ := hp11
          have hF := dkF_call hF hF11 rfl
          rcases hc11 with ⟨dv11, a11_1, -⟩ | hc11
          ·
            have d12 : dkN [(1, 5)] p1 := dkN_eq1 d8 a11_1 rfl rfl
            refine lv_if_eq (tgt := 43) hx hb dX5_as_32 (by decide) (fun c13 => ?_) (fun c13 => ?_)
            ·
              refine lv_aload_n hx hb dX5_as_43 rfl (lv_at hl 0 rfl) ?_
              refine lv_iconst (v := 3) hx hb dX5_as_44 (by decide) ?_
              refine dk_Vi (As := [.int 3]) (rest := []) ⟨hx, hb, hml, hown, hts⟩ (c_X5_found_4 l g z I11 3 (dkN_lit (x := 3) (3) rfl) hO) (cwV 1 hts gX5_as_X5_found rfl rfl rfl (by decide +kernel) ⟨Nat.le_of_ble_eq_true rfl, Nat.le_of_ble_eq_true rfl⟩) (dk_at0 hW) rfl hK hT hW hS rfl hl.1 rfl (Nat.le_of_ble_eq_true rfl) dX5_as_45 ⟨Nat.zero_le _, Nat.zero_le _⟩ (fun v14 I14 H14 L14 hp14 hW hS => ?_)
              obtain ⟨hF14, hO, hc14⟩ := hp14
              have hF := dkF_call hF hF14 rfl
              obtain ⟨dv14, f14_0_3, -⟩ := hc14
              exact W.iret (v := v14) hx hb hr (fun t ht hW9 => ⟨⟨v14, I14, rfl, ⟨hF, hO, Or.inl ⟨dkN_sub dv14 rfl, dkN_sub d3 rfl, dkN_sub d12 rfl, (show dkN [(3, 3)] (I14 0 3) from dkN_sub f14_0_3 rfl), (show dkN [(1, 6)] (I14 25 11) from dkN_sub (by rw [hF14 25 11 rfl]; exact (by rw [hF11 25 11 rfl]; exact (by rw [hF5 25 11 rfl]; exact f1_25_11))) rfl), trivial⟩⟩, dkW_eq ht hW⟩, hS.F ht⟩) hS.2.2 dX5_as_48
            ·
              exact (dkN_nil (show dkN [] v11 from dkN_ne1 (0) dv11 (dkN_lit (x := 0) (0) rfl) (dk_ne c13) rfl)).elim
          ·
            obtain ⟨dv11, -⟩ := hc11
            refine lv_if_eq (tgt := 43) hx hb dX5_as_32 (by decide) (fun c15 => ?_) (fun c15 => ?_)
            ·
              exact (dkN_nil (show dkN [] v11 from dkN_eq1 dv11 (dkN_lit (x := 0) (0) rfl) (congrArg Int32.toInt c15) rfl)).elim
            ·
              refine lv_aload_n hx hb dX5_as_35 rfl (lv_at hl 0 rfl) ?_
              refine lv_iload_n hx hb dX5_as_36 rfl (lv_at hl 1 rfl) ?_
              refine dk_Vi (As := [.int p0]) (rest := []) ⟨hx, hb, hml, hown, hts⟩ (c_X5_nothingFound_0 l g z I11 p0 hO) (cwV 1 hts gX5_as_X5_nothingFound rfl rfl rfl (by decide +kernel) ⟨Nat.le_of_ble_eq_true rfl, Nat.le_of_ble_eq_true rfl⟩) (dk_at0 hW) rfl hK hT hW hS rfl hl.1 rfl (Nat.le_of_ble_eq_true rfl) dX5_as_37 ⟨Nat.zero_le _, Nat.zero_le _⟩ (fun v16 I16 H16 L16 hp16 hW hS => ?_)
              obtain ⟨hF16, hO, ev16, hc16⟩ := hp16
              have hF := dkF_call hF hF16 rfl
              obtain ⟨_, f16_0_3, -⟩ := hc16
              rw [ev16]
              refine lv_goto (tgt := 48) hx hb dX5_as_40 (by decide) ?_
              exact W.iret (v := p0) hx hb hr (fun t ht hW9 => ⟨⟨p0, I16, rfl, ⟨hF, hO, Or.inr (Or.inr (⟨dkN_sub d3 rfl, dkN_sub d3 rfl, dkN_sub d8 rfl, (show dkN [(0, 0)] (I16 0 3) from dkN_sub f16_0_3 rfl), (show dkN [(1, 6)] (I16 25 11) from dkN_sub (by rw [hF16 25 11 rfl]; exact (by rw [hF11 25 11 rfl]; exact (by rw [hF5 25 11 rfl]; exact f1_25_11))) rfl), trivial⟩))⟩, dkW_eq ht hW⟩, hS.F ht⟩) hS.2.2 dX5_as_48
        ·
          exact (dkN_nil (show dkN [] v5 from dkN_eq1 dv5 (dkN_lit (x := 0) (0) rfl) (congrArg Int32.toInt c9) rfl)).elim
set_option maxHeartbeats 4000000 in
set_option maxRecDepth 100000 in
theorem c_X6_in_20 (l : Launch) (g : dkG) (z : Nat) (I0 : dkI) (p0 : Int32) (p1 : Int32) (p2 : Int32) (dp1 : dkN [(0, 0)] p1) (dp2 : dkN [(5, 5)] p2)  (hO : dkOk I0) : Met l yX6_in wsX6_in (dkR 0) (dkPc g z [.int p0, .int p1, .int p2] I0) (dkQi g z (fun r I1 => dkF [] I0 I1 ∧ dkOk I1 ∧ ((dkN [(0, 0)] r ∧ dkN [(-2147483648, -1), (6, 2147483647)] p0 ∧ True) ∨ (dkN [(1, 1)] r ∧ dkN [(0, 5)] p0 ∧ True)))) 0 0 (dkA z) := by
  refine Met.ofW (cc := cX6_in) (maxL := 3) (ret := (some .boolean)) (by decide) rfl ?_
  intro p e s m args below meth c s₁ B hml hv
  obtain ⟨ha, hW, hK, hT⟩ := hv
  have hx := B.exec
  have hb := B.bytes
  have hr := B.returns
  have hts := atoms_spec (ws := wsX6_in) B.pre
  have hown : s.vm.findClass RX6 = some m.cls := findClass_of_methodNamed B.named
  have hlocks := B.notSynchronized
  have hS : va_S (dkA z) s.heap s.heap [] := va_S.rf
  have hF : dkF [] I0 I0 := dkF_rf _ _
  have hl := lv_entry ([.int p0, .int p1, .int p2]) (n := 3) (Nat.le_of_ble_eq_true rfl)
  have hgo : entryFrame m args 3 = entryFrame m ([.int p0, .int p1, .int p2] : List Value).toArray 3 := by rw [ha]
  rw [hgo, lg_entry_eq]
  generalize (lg_sl ([.int p0, .int p1, .int p2]) ++ List.replicate (3 - (lg_sl ([.int p0, .int p1, .int p2])).length) Slot.unset).toArray = ls at hl ⊢
  have hl : lv_has ls 3 [(0, .int p0), (1, .int p1), (2, .int p2)] := hl
  refine lv_iload_n hx hb dX6_in_0 rfl (lv_at hl 0 rfl) ?_
  refine lv_iload_n hx hb dX6_in_1 rfl (lv_at hl 1 rfl) ?_
  refine lv_icmp_lt (tgt := 14) hx hb dX6_in_2 (by decide) (fun c1 => ?_) (fun c1 => ?_)
  ·
    have d2 : dkN [(-2147483648, -1)] p0 := dkN_le1 1 (dkN_top p0) dp1 (dkc_lt c1) rfl
    refine lv_iconst (v := 0) hx hb dX6_in_14 (by decide) ?_
    exact W.zret (v := 0) (ty := .boolean) hx hb hr rfl (fun t ht hW9 => ⟨⟨0, I0, rfl, ⟨hF, hO, Or.inl ⟨dkN_sub (dkN_lit (x := 0) (0) rfl) rfl, dkN_sub d2 rfl, trivial⟩⟩, dkW_eq ht hW⟩, hS.F ht⟩) hS.2.2 dX6_in_15
  ·
    have d3 : dkN [(0, 2147483647)] p0 := dkN_le2 0 dp1 (dkN_top p0) (dkc_nlt c1) rfl
    refine lv_iload_n hx hb dX6_in_5 rfl (lv_at hl 0 rfl) ?_
    refine lv_iload_n hx hb dX6_in_6 rfl (lv_at hl 2 rfl) ?_
    refine lv_icmp_gt (tgt := 14) hx hb dX6_in_7 (by decide) (fun c4 => ?_) (fun c4 => ?_)
    ·
      have d5 : dkN [(6, 2147483647)] p0 := dkN_le2 1 dp2 d3 (dkc_lt c4) rfl
      refine lv_iconst (v := 0) hx hb dX6_in_14 (by decide) ?_
      exact W.zret (v := 0) (ty := .boolean) hx hb hr rfl (fun t ht hW9 => ⟨⟨0, I0, rfl, ⟨hF, hO, Or.inl ⟨dkN_sub (dkN_lit (x := 0) (0) rfl) rfl, dkN_sub d5 rfl, trivial⟩⟩, dkW_eq ht hW⟩, hS.F ht⟩) hS.2.2 dX6_in_15
    ·
      have d6 : dkN [(0, 5)] p0 := dkN_le1 0 d3 dp2 (dkc_nlt c4) rfl
      refine lv_iconst (v := 1) hx hb dX6_in_10 (by decide) ?_
      refine lv_goto (tgt := 15) hx hb dX6_in_11 (by decide) ?_
      exact W.zret (v := 1) (ty := .boolean) hx hb hr rfl (fun t ht hW9 => ⟨⟨1, I0, rfl, ⟨hF, hO, Or.inr (⟨dkN_sub (dkN_lit (x := 1) (1) rfl) rfl, dkN_sub d6 rfl, trivial⟩)⟩, dkW_eq ht hW⟩, hS.F ht⟩) hS.2.2 dX6_in_15
set_option maxHeartbeats 4000000 in
set_option maxRecDepth 100000 in
theorem c_X6_found_4 (l : Launch) (g : dkG) (z : Nat) (I0 : dkI) (p0 : Int32) (dp0 : dkN [(3, 3)] p0)  (hO : dkOk I0) : Met l yX6_found wsX6_found (dkR 0) (dkPc g z [.ref (z + 340), .int p0] I0) (dkQi g z (fun r I1 => dkF [(340, 340, 4, 4)] I0 I1 ∧ dkOk I1 ∧ ((dkN [(-1000013, -1000013)] r ∧ dkN [(3, 3)] (I1 340 4) ∧ True)))) 0 0 (dkA z) := by
  refine Met.ofW (cc := cX6_found) (maxL := 2) (ret := (some .int)) (by decide) rfl ?_
  intro p e s m args below meth c s₁ B hml hv
  obtain ⟨ha, hW, hK, hT⟩ := hv
  have hx := B.exec
  have hb := B.bytes
  have hr := B.returns
  have hts := atoms_spec (ws := wsX6_found) B.pre
  have hown : s.vm.findClass RX6 = some m.cls := findClass_of_methodNamed B.named
  have hlocks := B.notSynchronized
  have hS : va_S (dkA z) s.heap s.heap [] := va_S.rf
  have hF : dkF [(340, 340, 4, 4)] I0 I0 := dkF_rf _ _
  have hl := lv_entry ([.ref (z + 340), .int p0]) (n := 2) (Nat.le_of_ble_eq_true rfl)
  have hgo : entryFrame m args 2 = entryFrame m ([.ref (z + 340), .int p0] : List Value).toArray 2 := by rw [ha]
  rw [hgo, lg_entry_eq]
  generalize (lg_sl ([.ref (z + 340), .int p0]) ++ List.replicate (2 - (lg_sl ([.ref (z + 340), .int p0])).length) Slot.unset).toArray = ls at hl ⊢
  have hl : lv_has ls 2 [(0, .ref (z + 340)), (1, .int p0)] := hl
  refine lv_aload_n hx hb dX6_found_0 rfl (lv_at hl 0 rfl) ?_
  refine lv_iload_n hx hb dX6_found_1 rfl (lv_at hl 1 rfl) ?_
  refine dk_put (k := 340) hx hb hts iX6_found_6 tyX6 tyX6_ok nmX6 hown hK hW (dk_at340 hW) hS rfl 4 (by decide) (hts (.fieldLink RX6 51 "DogKingsModel" "status" "I") (List.mem_of_getElem? (i := 1) rfl)) rfl rfl (Nat.le_of_ble_eq_true rfl) rfl dX6_found_2 (fun I1 H1 L1 eI1 hW hS => ?_)
  have eI1 : I1 = dkU I0 340 4 p0 := eI1
  have hO := dkO_set hO eI1 (dkN_sub dp0 rfl)
  have hF := dkF_set hF eI1 rfl
  refine lv_ldc (v := (-1000010)) hx hb hown (hts (.constant RX6 55 (-1000010)) (List.mem_of_getElem? (i := 2) rfl)) dX6_found_5 ?_
  refine lv_iload_n hx hb dX6_found_7 rfl (lv_at hl 1 rfl) ?_
  refine lv_isub hx hb dX6_found_8 ?_
  refine lv_topi (fun v2 ev2 => ?_)
  have dv2 : dkN [(-1000013, -1000013)] v2 := by rw [ev2]; exact dkN_subt (dkN_lit (x := (-1000010)) (-1000010) rfl) dp0 rfl
  exact W.iret (v := v2) hx hb hr (fun t ht hW9 => ⟨⟨v2, I1, rfl, ⟨hF, hO, ⟨dkN_sub dv2 rfl, (show dkN [(3, 3)] (I1 340 4) from dkN_sub (by rw [eI1, dkU_ss]; exact dp0) rfl), trivial⟩⟩, dkW_eq ht hW⟩, hS.F ht⟩) hS.2.2 dX6_found_9
set_option maxHeartbeats 4000000 in
set_option maxRecDepth 100000 in
theorem c_X6_as_0 (l : Launch) (g : dkG) (z : Nat) (I0 : dkI) (p0 : Int32) (p1 : Int32)  (hO : dkOk I0) : Met l yX6_as wsX6_as (dkR 2) (dkPc g z [.ref (z + 340), .int p0, .int p1] I0) (dkQi g z (fun r I1 => dkF [(340, 340, 4, 4)] I0 I1 ∧ dkOk I1 ∧ ((dkN [(-1000013, -1000013)] r ∧ dkN [(0, 5)] p0 ∧ dkN [(0, 5)] p1 ∧ dkN [(3, 3)] (I1 340 4) ∧ True) ∨ (dkN [(-1000001, -1000001)] r ∧ True) ∨ (dkN [(0, 5)] r ∧ dkN [(0, 5)] p0 ∧ dkN [(0, 5)] p1 ∧ dkN [(0, 0)] (I1 340 4) ∧ True)))) 0 0 (dkA z) := by
  refine Met.ofW (cc := cX6_as) (maxL := 5) (ret := (some .int)) (by decide) rfl ?_
  intro p e s m args below meth c s₁ B hml hv
  obtain ⟨ha, hW, hK, hT⟩ := hv
  have hx := B.exec
  have hb := B.bytes
  have hr := B.returns
  have hts := atoms_spec (ws := wsX6_as) B.pre
  have hown : s.vm.findClass RX6 = some m.cls := findClass_of_methodNamed B.named
  have hlocks := B.notSynchronized
  have hS : va_S (dkA z) s.heap s.heap [] := va_S.rf
  have hF : dkF [(340, 340, 4, 4)] I0 I0 := dkF_rf _ _
  have hl := lv_entry ([.ref (z + 340), .int p0, .int p1]) (n := 5) (Nat.le_of_ble_eq_true rfl)
  have hgo : entryFrame m args 5 = entryFrame m ([.ref (z + 340), .int p0, .int p1] : List Value).toArray 5 := by rw [ha]
  rw [hgo, lg_entry_eq]
  generalize (lg_sl ([.ref (z + 340), .int p0, .int p1]) ++ List.replicate (5 - (lg_sl ([.ref (z + 340), .int p0, .int p1])).length) Slot.unset).toArray = ls at hl ⊢
  have hl : lv_has ls 5 [(0, .ref (z + 340)), (1, .int p0), (2, .int p1)] := hl
  have C60 : ∀ (I : dkI) (H : Heap) (locs : List Loc) (ls : Array Slot) (x60_3 : Int32) (x60_s0 : Int32), dkW g z I H → va_S (dkA z) s.heap H locs → dkF [(340, 340, 4, 4)] I0 I → dkOk I → dkN [(0, 1)] x60_s0 → dkN [(0, 5)] p0 → dkN [(0, 5)] p1 → lv_has ls 5 [(0, .ref (z + 340)), (1, .int p0), (2, .int p1), (3, .int x60_3)] → W p l e (headSpec wsX6_as (dkR 2)).room s m args below meth c H locs 0 0 (MQ below (dkQi g z (fun r I1 => dkF [(340, 340, 4, 4)] I0 I1 ∧ dkOk I1 ∧ ((dkN [(-1000013, -1000013)] r ∧ dkN [(0, 5)] p0 ∧ dkN [(0, 5)] p1 ∧ dkN [(3, 3)] (I1 340 4) ∧ True) ∨ (dkN [(-1000001, -1000001)] r ∧ True) ∨ (dkN [(0, 5)] r ∧ dkN [(0, 5)] p0 ∧ dkN [(0, 5)] p1 ∧ dkN [(0, 0)] (I1 340 4) ∧ True)))) args s 0 0 (dkA z)) (F0 m 60 ls [.int x60_s0]) := by
    intro I60_ H locs ls x60_3 x60_s0 hW hS hF_60 hO k60_1 r60_0 r60_1 hl
    have hF := hF_60
    refine lv_istore (lv' := [(4, .int x60_s0), (0, .ref (z + 340)), (1, .int p0), (2, .int p1), (3, .int x60_3)]) hx hb dX6_as_60 hl (by decide) rfl (fun ls hl => ?_)
    refine lv_iload hx hb dX6_as_62 (lv_at hl 0 rfl) ?_
    refine lv_if_eq (tgt := 75) hx hb dX6_as_64 (by decide) (fun c1 => ?_) (fun c1 => ?_)
    ·
      have d2 : dkN [(0, 0)] x60_s0 := dkN_eq1 k60_1 (dkN_lit (x := 0) (0) rfl) (congrArg Int32.toInt c1) rfl
      refine lv_aload_n hx hb dX6_as_75 rfl (lv_at hl 1 rfl) ?_
      refine lv_iconst (v := 3) hx hb dX6_as_76 (by decide) ?_
      refine dk_Vi (As := [.int 3]) (rest := []) ⟨hx, hb, hml, hown, hts⟩ (c_X6_found_4 l g z I60_ 3 (dkN_lit (x := 3) (3) rfl) hO) (cwV 1 hts gX6_as_X6_found rfl rfl rfl (by decide +kernel) ⟨Nat.le_of_ble_eq_true rfl, Nat.le_of_ble_eq_true rfl⟩) (dk_at340 hW) rfl hK hT hW hS rfl hl.1 rfl (Nat.le_of_ble_eq_true rfl) dX6_as_77 ⟨Nat.zero_le _, Nat.zero_le _⟩ (fun v3 I3 H3 L3 hp3 hW hS => ?_)
      obtain ⟨hF3, hO, hc3⟩ := hp3
      have hF := dkF_call hF hF3 rfl
      obtain ⟨dv3, f3_340_4, -⟩ := hc3
      exact W.iret (v := v3) hx hb hr (fun t ht hW9 => ⟨⟨v3, I3, rfl, ⟨hF, hO, Or.inl ⟨dkN_sub dv3 rfl, dkN_sub r60_0 rfl, dkN_sub r60_1 rfl, (show dkN [(3, 3)] (I3 340 4) from dkN_sub f3_340_4 rfl), trivial⟩⟩, dkW_eq ht hW⟩, hS.F ht⟩) hS.2.2 dX6_as_80
    ·
      have d4 : dkN [(1, 1)] x60_s0 := dkN_ne1 (0) k60_1 (dkN_lit (x := 0) (0) rfl) (dk_ne c1) rfl
      refine lv_aload_n hx hb dX6_as_67 rfl (lv_at hl 1 rfl) ?_
      refine lv_iload_n hx hb dX6_as_68 rfl (lv_at hl 2 rfl) ?_
      refine dk_Vi (As := [.int p0]) (rest := []) ⟨hx, hb, hml, hown, hts⟩ (c_X6_well_0 l g z I60_ p0 hO) (cwV 1 hts gX6_as_X6_well rfl rfl rfl (by decide +kernel) ⟨Nat.le_of_ble_eq_true rfl, Nat.le_of_ble_eq_true rfl⟩) (dk_at340 hW) rfl hK hT hW hS rfl hl.1 rfl (Nat.le_of_ble_eq_true rfl) dX6_as_69 ⟨Nat.zero_le _, Nat.zero_le _⟩ (fun v5 I5 H5 L5 hp5 hW hS => ?_)
      obtain ⟨hF5, hO, ev5, hc5⟩ := hp5
      have hF := dkF_call hF hF5 rfl
      obtain ⟨_, f5_340_4, -⟩ := hc5
      rw [ev5]
      refine lv_goto (tgt := 80) hx hb dX6_as_72 (by decide) ?_
      exact W.iret (v := p0) hx hb hr (fun t ht hW9 => ⟨⟨p0, I5, rfl, ⟨hF, hO, Or.inr (Or.inr (⟨dkN_sub r60_0 rfl, dkN_sub r60_0 rfl, dkN_sub r60_1 rfl, (show dkN [(0, 0)] (I5 340 4) from dkN_sub f5_340_4 rfl), trivial⟩))⟩, dkW_eq ht hW⟩, hS.F ht⟩) hS.2.2 dX6_as_80
  have C55 : ∀ (I : dkI) (H : Heap) (locs : List Loc) (ls : Array Slot) (x55_3 : Int32), dkW g z I H → va_S (dkA z) s.heap H locs → dkF [(340, 340, 4, 4)] I0 I → dkOk I → dkN [(0, 5)] p0 → dkN [(0, 5)] p1 → lv_has ls 5 [(0, .ref (z + 340)), (1, .int p0), (2, .int p1), (3, .int x55_3)] → W p l e (headSpec wsX6_as (dkR 2)).room s m args below meth c H locs 0 0 (MQ below (dkQi g z (fun r I1 => dkF [(340, 340, 4, 4)] I0 I1 ∧ dkOk I1 ∧ ((dkN [(-1000013, -1000013)] r ∧ dkN [(0, 5)] p0 ∧ dkN [(0, 5)] p1 ∧ dkN [(3, 3)] (I1 340 4) ∧ True) ∨ (dkN [(-1000001, -1000001)] r ∧ True) ∨ (dkN [(0, 5)] r ∧ dkN [(0, 5)] p0 ∧ dkN [(0, 5)] p1 ∧ dkN [(0, 0)] (I1 340 4) ∧ True)))) args s 0 0 (dkA z)) (F0 m 55 ls []) := by
    intro I55_ H locs ls x55_3 hW hS hF_55 hO r55_0 r55_1 hl
    have hF := hF_55
    refine lv_iconst (v := 1) hx hb dX6_as_55 (by decide) ?_
    refine lv_goto (tgt := 60) hx hb dX6_as_56 (by decide) ?_
    exact C60 I55_ _ _ ls x55_3 1 hW hS hF hO (dkN_sub (dkN_lit (x := 1) (1) rfl) rfl) (dkN_sub r55_0 rfl) (dkN_sub r55_1 rfl) (lv_sub hl [0, 1, 2, 3] rfl)
  have C59 : ∀ (I : dkI) (H : Heap) (locs : List Loc) (ls : Array Slot) (x59_3 : Int32), dkW g z I H → va_S (dkA z) s.heap H locs → dkF [(340, 340, 4, 4)] I0 I → dkOk I → dkN [(0, 5)] p0 → dkN [(1, 5)] p1 → lv_has ls 5 [(0, .ref (z + 340)), (1, .int p0), (2, .int p1), (3, .int x59_3)] → W p l e (headSpec wsX6_as (dkR 2)).room s m args below meth c H locs 0 0 (MQ below (dkQi g z (fun r I1 => dkF [(340, 340, 4, 4)] I0 I1 ∧ dkOk I1 ∧ ((dkN [(-1000013, -1000013)] r ∧ dkN [(0, 5)] p0 ∧ dkN [(0, 5)] p1 ∧ dkN [(3, 3)] (I1 340 4) ∧ True) ∨ (dkN [(-1000001, -1000001)] r ∧ True) ∨ (dkN [(0, 5)] r ∧ dkN [(0, 5)] p0 ∧ dkN [(0, 5)] p1 ∧ dkN [(0, 0)] (I1 340 4) ∧ True)))) args s 0 0 (dkA z)) (F0 m 59 ls []) := by
    intro I59_ H locs ls x59_3 hW hS hF_59 hO r59_0 r59_1 hl
    have hF := hF_59
    refine lv_iconst (v := 0) hx hb dX6_as_59 (by decide) ?_
    exact C60 I59_ _ _ ls x59_3 0 hW hS hF hO (dkN_sub (dkN_lit (x := 0) (0) rfl) rfl) (dkN_sub r59_0 rfl) (dkN_sub r59_1 rfl) (lv_sub hl [0, 1, 2, 3] rfl)
  have C45 : ∀ (I : dkI) (H : Heap) (locs : List Loc) (ls : Array Slot) (x45_3 : Int32), dkW g z I H → va_S (dkA z) s.heap H locs → dkF [(340, 340, 4, 4)] I0 I → dkOk I → dkN [(0, 5)] p0 → dkN [(1, 5)] p1 → lv_has ls 5 [(0, .ref (z + 340)), (1, .int p0), (2, .int p1), (3, .int x45_3)] → W p l e (headSpec wsX6_as (dkR 2)).room s m args below meth c H locs 0 0 (MQ below (dkQi g z (fun r I1 => dkF [(340, 340, 4, 4)] I0 I1 ∧ dkOk I1 ∧ ((dkN [(-1000013, -1000013)] r ∧ dkN [(0, 5)] p0 ∧ dkN [(0, 5)] p1 ∧ dkN [(3, 3)] (I1 340 4) ∧ True) ∨ (dkN [(-1000001, -1000001)] r ∧ True) ∨ (dkN [(0, 5)] r ∧ dkN [(0, 5)] p0 ∧ dkN [(0, 5)] p1 ∧ dkN [(0, 0)] (I1 340 4) ∧ True)))) args s 0 0 (dkA z)) (F0 m 45 ls []) := by
    intro I45_ H locs ls x45_3 hW hS hF_45 hO r45_0 r45_1 hl
    have hF := hF_45
    refine lv_iload_n hx hb dX6_as_45 rfl (lv_at hl 2 rfl) ?_
    refine lv_iconst (v := 4) hx hb dX6_as_46 (by decide) ?_
    refine lv_icmp_ne (tgt := 59) hx hb dX6_as_47 (by decide) (fun c6 => ?_) (fun c6 => ?_)
    ·
      have d7 : dkN [(1, 3), (5, 5)] p1 := dkN_ne1 (4) r45_1 (dkN_lit (x := 4) (4) rfl) (dk_ne c6) rfl
      exact C59 I45_ _ _ ls x45_3 hW hS hF hO (dkN_sub r45_0 rfl) (dkN_sub d7 rfl) (lv_sub hl [0, 1, 2, 3] rfl)
    ·
      have d8 : dkN [(4, 4)] p1 := dkN_eq1 r45_1 (dkN_lit (x := 4) (4) rfl) (congrArg Int32.toInt c6) rfl
      refine lv_iload_n hx hb dX6_as_50 rfl (lv_at hl 3 rfl) ?_
      refine lv_iconst (v := 5) hx hb dX6_as_51 (by decide) ?_
      refine lv_icmp_ne (tgt := 59) hx hb dX6_as_52 (by decide) (fun c9 => ?_) (fun c9 => ?_)
      ·
        have d10 : dkN [(-2147483648, 4), (6, 2147483647)] x45_3 := dkN_ne1 (5) (dkN_top x45_3) (dkN_lit (x := 5) (5) rfl) (dk_ne c9) rfl
        exact C59 I45_ _ _ ls x45_3 hW hS hF hO (dkN_sub r45_0 rfl) (dkN_sub d8 rfl) (lv_sub hl [0, 1, 2, 3] rfl)
      ·
        have d11 : dkN [(5, 5)] x45_3 := dkN_eq1 (dkN_top x45_3) (dkN_lit (x := 5) (5) rfl) (congrArg Int32.toInt c9) rfl
        exact C55 I45_ _ _ ls x45_3 hW hS hF hO (dkN_sub r45_0 rfl) (dkN_sub d8 rfl) (lv_sub hl [0, 1, 2, 3] rfl)
  refine lv_aload_n hx hb dX6_as_0 rfl (lv_at hl 0 rfl) ?_
  refine lv_iload_n hx hb dX6_as_1 rfl (lv_at hl 1 rfl) ?_
  refine dk_Vi (As := [.int p0]) (rest := []) ⟨hx, hb, hml, hown, hts⟩ (c_X6_isDog_0 l g z I0 p0 hO) (cwV 1 hts gX6_as_X6_isDog rfl rfl rfl (by decide +kernel) ⟨Nat.le_of_ble_eq_true rfl, Nat.le_of_ble_eq_true rfl⟩) (dk_at340 hW) rfl hK hT hW hS rfl hl.1 rfl (Nat.le_of_ble_eq_true rfl) dX6_as_2 ⟨Nat.zero_le _, Nat.zero_le _⟩ (fun v12 I12 H12 L12 hp12 hW hS => ?_)
  obtain ⟨hF12, hO, hc12⟩ := hp12
  have hF := dkF_call hF hF12 rfl
  rcases hc12 with ⟨dv12, -⟩ | hc12
  ·
    refine lv_if_eq (tgt := 17) hx hb dX6_as_5 (by decide) (fun c13 => ?_) (fun c13 => ?_)
    ·
      refine lv_ldc (v := (-1000001)) hx hb hown (hts (.constant RX6 64 (-1000001)) (List.mem_of_getElem? (i := 1) rfl)) dX6_as_17 ?_
      exact W.iret (v := (-1000001)) hx hb hr (fun t ht hW9 => ⟨⟨(-1000001), I12, rfl, ⟨hF, hO, Or.inr (Or.inl ⟨dkN_sub (dkN_lit (x := (-1000001)) (-1000001) rfl) rfl, trivial⟩)⟩, dkW_eq ht hW⟩, hS.F ht⟩) hS.2.2 dX6_as_19
    ·
      exact (dkN_nil (show dkN [] v12 from dkN_ne1 (0) dv12 (dkN_lit (x := 0) (0) rfl) (dk_ne c13) rfl)).elim
  ·
    obtain ⟨dv12, a12_0, -⟩ := hc12
    have d14 : dkN [(0, 5)] p0 := dkN_eq1 (dkN_top p0) a12_0 rfl rfl
    refine lv_if_eq (tgt := 17) hx hb dX6_as_5 (by decide) (fun c15 => ?_) (fun c15 => ?_)
    ·
      exact (dkN_nil (show dkN [] v12 from dkN_eq1 dv12 (dkN_lit (x := 0) (0) rfl) (congrArg Int32.toInt c15) rfl)).elim
    ·
      refine lv_iload_n hx hb dX6_as_8 rfl (lv_at hl 2 rfl) ?_
      refine lv_iconst (v := 0) hx hb dX6_as_9 (by decide) ?_
      refine lv_iconst (v := 5) hx hb dX6_as_10 (by decide) ?_
      refine dk_Si (As := [.int p1, .int 0, .int 5]) (rest := []) ⟨hx, hb, hml, hown, hts⟩ (c_X6_in_20 l g z I12 p1 0 5 (dkN_lit (x := 0) (0) rfl) (dkN_lit (x := 5) (5) rfl) hO) (va_cwS 3 hts gX6_as_X6_in rfl rfl rfl (by decide +kernel) ⟨Nat.le_of_ble_eq_true rfl, Nat.le_of_ble_eq_true rfl⟩) hK hT hW hS rfl hl.1 rfl (Nat.le_of_ble_eq_true rfl) dX6_as_11 ⟨Nat.zero_le _, Nat.zero_le _⟩ (fun v16 I16 H16 L16 hp16 hW hS => ?_)
      obtain ⟨hF16, hO, hc16⟩ := hp16
      have hF := dkF_call hF hF16 rfl
      rcases hc16 with ⟨dv16, a16_0, -⟩ | hc16
      ·
        have d17 : dkN [(-2147483648, -1), (6, 2147483647)] p1 := dkN_eq1 (dkN_top p1) a16_0 rfl rfl
        refine lv_if_ne (tgt := 20) hx hb dX6_as_14 (by decide) (fun c18 => ?_) (fun c18 => ?_)
        ·
          exact (dkN_nil (show dkN [] v16 from dkN_ne1 (0) dv16 (dkN_lit (x := 0) (0) rfl) (dk_ne c18) rfl)).elim
        ·
          refine lv_ldc (v := (-1000001)) hx hb hown (hts (.constant RX6 64 (-1000001)) (List.mem_of_getElem? (i := 1) rfl)) dX6_as_17 ?_
          exact W.iret (v := (-1000001)) hx hb hr (fun t ht hW9 => ⟨⟨(-1000001), I16, rfl, ⟨hF, hO, Or.inr (Or.inl ⟨dkN_sub (dkN_lit (x := (-1000001)) (-1000001) rfl) rfl, trivial⟩)⟩, dkW_eq ht hW⟩, hS.F ht⟩) hS.2.2 dX6_as_19
      ·
        obtain ⟨dv16, a16_0, -⟩ := hc16
        have d19 : dkN [(0, 5)] p1 := dkN_eq1 (dkN_top p1) a16_0 rfl rfl
        refine lv_if_ne (tgt := 20) hx hb dX6_as_14 (by decide) (fun c20 => ?_) (fun c20 => ?_)
        ·
          refine lv_aload_n hx hb dX6_as_20 rfl (lv_at hl 0 rfl) ?_
          refine lv_iload_n hx hb dX6_as_21 rfl (lv_at hl 1 rfl) ?_
          refine dk_Vi (As := [.int p0]) (rest := []) ⟨hx, hb, hml, hown, hts⟩ (c_X6_kindIn_0 l g z I16 p0 d14 hO) (cwV 1 hts gX6_as_X6_kindIn rfl rfl rfl (by decide +kernel) ⟨Nat.le_of_ble_eq_true rfl, Nat.le_of_ble_eq_true rfl⟩) (dk_at340 hW) rfl hK hT hW hS rfl hl.1 rfl (Nat.le_of_ble_eq_true rfl) dX6_as_22 ⟨Nat.zero_le _, Nat.zero_le _⟩ (fun v21 I21 H21 L21 hp21 hW hS => ?_)
          obtain ⟨hF21, hO, hc21⟩ := hp21
          have hF := dkF_call hF hF21 rfl
          obtain ⟨_, -⟩ := hc21
          refine lv_istore_n (lv' := [(3, .int v21), (0, .ref (z + 340)), (1, .int p0), (2, .int p1)]) hx hb dX6_as_25 rfl hl (by decide) rfl (fun ls hl => ?_)
          refine lv_iload_n hx hb dX6_as_26 rfl (lv_at hl 3 rfl) ?_
          refine lv_if_eq (tgt := 55) hx hb dX6_as_27 (by decide) (fun c22 => ?_) (fun c22 => ?_)
          ·
            have d23 : dkN [(0, 0)] p1 := dkN_eq1 d19 (dkN_lit (x := 0) (0) rfl) (congrArg Int32.toInt c22) rfl
            exact C55 I21 _ _ ls v21 hW hS hF hO (dkN_sub d14 rfl) (dkN_sub d23 rfl) (lv_sub hl [1, 2, 3, 0] rfl)
          ·
            have d24 : dkN [(1, 5)] p1 := dkN_ne1 (0) d19 (dkN_lit (x := 0) (0) rfl) (dk_ne c22) rfl
            refine lv_iload_n hx hb dX6_as_30 rfl (lv_at hl 3 rfl) ?_
            refine lv_iload_n hx hb dX6_as_31 rfl (lv_at hl 0 rfl) ?_
            refine lv_icmp_eq (tgt := 55) hx hb dX6_as_32 (by decide) (fun c25 => ?_) (fun c25 => ?_)
            ·
              have d26 : dkN [(1, 5)] v21 := dkN_eq1 (dkN_top v21) d24 (congrArg Int32.toInt c25).symm rfl
              exact C55 I21 _ _ ls v21 hW hS hF hO (dkN_sub d14 rfl) (dkN_sub d24 rfl) (lv_sub hl [1, 2, 3, 0] rfl)
            ·
              refine lv_iload_n hx hb dX6_as_35 rfl (lv_at hl 3 rfl) ?_
              refine lv_iconst (v := 1) hx hb dX6_as_36 (by decide) ?_
              refine lv_icmp_ne (tgt := 45) hx hb dX6_as_37 (by decide) (fun c27 => ?_) (fun c27 => ?_)
              ·
                have d28 : dkN [(2, 5)] p1 := dkN_ne1 (1) d24 (dkN_lit (x := 1) (1) rfl) (dk_ne c27) rfl
                exact C45 I21 _ _ ls v21 hW hS hF hO (dkN_sub d14 rfl) (dkN_sub d28 rfl) (lv_sub hl [1, 2, 3, 0] rfl)
              ·
                have d29 : dkN [(1, 1)] p1 := dkN_eq1 d24 (dkN_lit (x := 1) (1) rfl) (congrArg Int32.toInt c27) rfl
                refine lv_iload_n hx hb dX6_as_40 rfl (lv_at hl 0 rfl) ?_
                refine lv_iconst (v := 4) hx hb dX6_as_41 (by decide) ?_
                refine lv_icmp_lt (tgt := 55) hx hb dX6_as_42 (by decide) (fun c30 => ?_) (fun c30 => ?_)
                ·
                  have d31 : dkN [(-2147483648, 3)] v21 := dkN_le1 1 (dkN_top v21) (dkN_lit (x := 4) (4) rfl) (dkc_lt c30) rfl
                  exact C55 I21 _ _ ls v21 hW hS hF hO (dkN_sub d14 rfl) (dkN_sub d29 rfl) (lv_sub hl [1, 2, 3, 0] rfl)
                ·
                  have d32 : dkN [(4, 2147483647)] v21 := dkN_le2 0 (dkN_lit (x := 4) (4) rfl) (dkN_top v21) (dkc_nlt c30) rfl
                  exact C45 I21 _ _ ls v21 hW hS hF hO (dkN_sub d14 rfl) (dkN_sub d29 rfl) (lv_sub hl [1, 2, 3, 0] rfl)
        ·
          exact (dkN_nil (show dkN [] v16 from dkN_eq1 dv16 (dkN_lit (x := 0) (0) rfl) (congrArg Int32.toInt c20) rfl)).elim
set_option maxHeartbeats 4000000 in
set_option maxRecDepth 100000 in
theorem c_X5_rowsThatStand_0 (l : Launch) (g : dkG) (z : Nat) (I0 : dkI)  (hO : dkOk I0) : Met l yX5_rowsThatStand wsX5_rowsThatStand (dkR 1) (dkPc g z [.ref (z + 0)] I0) (dkQi g z (fun r I1 => dkF [] I0 I1 ∧ dkOk I1 ∧ ((True ∧ True)))) 0 0 (dkA z) := by
  refine Met.ofW (cc := cX5_rowsThatStand) (maxL := 3) (ret := (some .int)) (by decide) rfl ?_
  intro p e s m args below meth c s₁ B hml hv
  obtain ⟨ha, hW, hK, hT⟩ := hv
  have hx := B.exec
  have hb := B.bytes
  have hr := B.returns
  have hts := atoms_spec (ws := wsX5_rowsThatStand) B.pre
  have hown : s.vm.findClass RX5 = some m.cls := findClass_of_methodNamed B.named
  have hlocks := B.notSynchronized
  have hS : va_S (dkA z) s.heap s.heap [] := va_S.rf
  have hF : dkF [] I0 I0 := dkF_rf _ _
  have hl := lv_entry ([.ref (z + 0)]) (n := 3) (Nat.le_of_ble_eq_true rfl)
  have hgo : entryFrame m args 3 = entryFrame m ([.ref (z + 0)] : List Value).toArray 3 := by rw [ha]
  rw [hgo, lg_entry_eq]
  generalize (lg_sl ([.ref (z + 0)]) ++ List.replicate (3 - (lg_sl ([.ref (z + 0)])).length) Slot.unset).toArray = ls at hl ⊢
  have hl : lv_has ls 3 [(0, .ref (z + 0))] := hl
  have C4 : ∀ (n : Nat), ∀ (I : dkI) (H : Heap) (locs : List Loc) (ls : Array Slot) (x4_1 : Int32) (x4_2 : Int32), (8 - x4_2.toInt).toNat < n → dkW g z I H → va_S (dkA z) s.heap H locs → dkF [] I0 I → dkOk I → dkN [(0, 8)] x4_2 → lv_has ls 3 [(0, .ref (z + 0)), (1, .int x4_1), (2, .int x4_2)] → W p l e (headSpec wsX5_rowsThatStand (dkR 1)).room s m args below meth c H locs 0 0 (MQ below (dkQi g z (fun r I1 => dkF [] I0 I1 ∧ dkOk I1 ∧ ((True ∧ True)))) args s 0 0 (dkA z)) (F0 m 4 ls []) := by
    intro n
    induction n with
    | zero => intro I H locs ls x4_1 x4_2 hn; exact absurd hn (Nat.not_lt_zero _)
    | succ n ih4 =>
      intro I4_ H locs ls x4_1 x4_2 hn4 hW hS hF_4 hO k4_1 hl
      have hF := hF_4
      have C21 : ∀ (I : dkI) (H : Heap) (locs : List Loc) (ls : Array Slot) (x21_1 : Int32), dkW g z I H → va_S (dkA z) s.heap H locs → dkF [] I0 I → dkOk I → dkN [(0, 7)] x4_2 → lv_has ls 3 [(0, .ref (z + 0)), (1, .int x21_1), (2, .int x4_2)] → W p l e (headSpec wsX5_rowsThatStand (dkR 1)).room s m args below meth c H locs 0 0 (MQ below (dkQi g z (fun r I1 => dkF [] I0 I1 ∧ dkOk I1 ∧ ((True ∧ True)))) args s 0 0 (dkA z)) (F0 m 21 ls []) := by
        intro I21_ H locs ls x21_1 hW hS hF_21 hO r21_0 hl
        have hF := hF_21
        obtain ⟨v1, ev1⟩ : ∃ y : Int32, y = x4_2 + 1 := ⟨_, rfl⟩
        have dv1 : dkN [(1, 8)] v1 := by rw [ev1]; exact dkN_add r21_0 (dkN_lit (x := 1) (1) rfl) rfl
        refine lv_iinc (v := v1) (lv' := [(2, .int v1), (0, .ref (z + 0)), (1, .int x21_1)]) hx hb dX5_rowsThatStand_21 hl (k := 2) rfl (by rw [ev1]; rfl) (by decide) rfl (fun ls hl => ?_)
        refine lv_goto (tgt := 4) hx hb dX5_rowsThatStand_24 (by decide) ?_
        exact ih4 I21_ _ _ ls x21_1 v1 (dk_near hn4 (by rw [ev1]; exact dk_inc r21_0 rfl) (dkN_lt r21_0 rfl)) hW hS hF hO (dkN_sub dv1 rfl) (lv_sub hl [1, 2, 0] rfl)
      refine lv_iload_n hx hb dX5_rowsThatStand_4 rfl (lv_at hl 2 rfl) ?_
      refine lv_bipush (v := 8) hx hb dX5_rowsThatStand_5 (by decide) ?_
      refine lv_icmp_ge (tgt := 27) hx hb dX5_rowsThatStand_7 (by decide) (fun c2 => ?_) (fun c2 => ?_)
      ·
        have d3 : dkN [(8, 8)] x4_2 := dkN_le2 0 (dkN_lit (x := 8) (8) rfl) k4_1 (dkc_le c2) rfl
        refine lv_iload_n hx hb dX5_rowsThatStand_27 rfl (lv_at hl 1 rfl) ?_
        exact W.iret (v := x4_1) hx hb hr (fun t ht hW9 => ⟨⟨x4_1, I4_, rfl, ⟨hF, hO, ⟨trivial, trivial⟩⟩, dkW_eq ht hW⟩, hS.F ht⟩) hS.2.2 dX5_rowsThatStand_28
      ·
        have d4 : dkN [(0, 7)] x4_2 := dkN_le1 1 k4_1 (dkN_lit (x := 8) (8) rfl) (dkc_nle c2) rfl
        refine lv_aload_n hx hb dX5_rowsThatStand_10 rfl (lv_at hl 0 rfl) ?_
        refine lv_iload_n hx hb dX5_rowsThatStand_11 rfl (lv_at hl 2 rfl) ?_
        refine dk_Vi (As := [.int x4_2]) (rest := []) ⟨hx, hb, hml, hown, hts⟩ (c_X5_isMissing_0 l g z I4_ x4_2 d4 hO) (cwV 1 hts gX5_rowsThatStand_X5_isMissing rfl rfl rfl (by decide +kernel) ⟨Nat.le_of_ble_eq_true rfl, Nat.le_of_ble_eq_true rfl⟩) (dk_at0 hW) rfl hK hT hW hS rfl hl.1 rfl (Nat.le_of_ble_eq_true rfl) dX5_rowsThatStand_12 ⟨Nat.zero_le _, Nat.zero_le _⟩ (fun v5 I5 H5 L5 hp5 hW hS => ?_)
        obtain ⟨hF5, hO, hc5⟩ := hp5
        have hF := dkF_call hF hF5 rfl
        obtain ⟨dv5, -⟩ := hc5
        refine lv_if_ne (tgt := 21) hx hb dX5_rowsThatStand_15 (by decide) (fun c6 => ?_) (fun c6 => ?_)
        ·
          have d7 : dkN [(1, 1)] v5 := dkN_ne1 (0) dv5 (dkN_lit (x := 0) (0) rfl) (dk_ne c6) rfl
          exact C21 I5 _ _ ls x4_1 hW hS hF hO (dkN_sub d4 rfl) (lv_sub hl [0, 1, 2] rfl)
        ·
          have d8 : dkN [(0, 0)] v5 := dkN_eq1 dv5 (dkN_lit (x := 0) (0) rfl) (congrArg Int32.toInt c6) rfl
          obtain ⟨v9, ev9⟩ : ∃ y : Int32, y = x4_1 + 1 := ⟨_, rfl⟩
          refine lv_iinc (v := v9) (lv' := [(1, .int v9), (0, .ref (z + 0)), (2, .int x4_2)]) hx hb dX5_rowsThatStand_18 hl (k := 1) rfl (by rw [ev9]; rfl) (by decide) rfl (fun ls hl => ?_)
          exact C21 I5 _ _ ls v9 hW hS hF hO (dkN_sub d4 rfl) (lv_sub hl [1, 0, 2] rfl)
  refine lv_iconst (v := 0) hx hb dX5_rowsThatStand_0 (by decide) ?_
  refine lv_istore_n (lv' := [(1, .int 0), (0, .ref (z + 0))]) hx hb dX5_rowsThatStand_1 rfl hl (by decide) rfl (fun ls hl => ?_)
  refine lv_iconst (v := 0) hx hb dX5_rowsThatStand_2 (by decide) ?_
  refine lv_istore_n (lv' := [(2, .int 0), (1, .int 0), (0, .ref (z + 0))]) hx hb dX5_rowsThatStand_3 rfl hl (by decide) rfl (fun ls hl => ?_)
  exact C4 _ I0 _ _ ls 0 0 (Nat.lt_succ_self _) hW hS hF hO (dkN_sub (dkN_lit (x := 0) (0) rfl) rfl) (lv_sub hl [2, 1, 0] rfl)
set_option maxHeartbeats 4000000 in
set_option maxRecDepth 100000 in
theorem c_X4_allReigns_0 (l : Launch) (g : dkG) (z : Nat) (I0 : dkI) (t0 : Nat) (ht0 : dkT t0)  (hO : dkOk I0) : Met l yX4_allReigns wsX4_allReigns (dkR 0) (dkPc g z [.ref (z + t0)] I0) (dkQi g z (fun r I1 => dkF [] I0 I1 ∧ dkOk I1 ∧ ((True ∧ True)))) 0 0 (dkA z) := by
  refine Met.ofW (cc := cX4_allReigns) (maxL := 3) (ret := (some .int)) (by decide) rfl ?_
  intro p e s m args below meth c s₁ B hml hv
  obtain ⟨ha, hW, hK, hT⟩ := hv
  have hx := B.exec
  have hb := B.bytes
  have hr := B.returns
  have hts := atoms_spec (ws := wsX4_allReigns) B.pre
  have hown : s.vm.findClass RX4 = some m.cls := findClass_of_methodNamed B.named
  have hlocks := B.notSynchronized
  have hS : va_S (dkA z) s.heap s.heap [] := va_S.rf
  have hF : dkF [] I0 I0 := dkF_rf _ _
  have hl := lv_entry ([.ref (z + t0)]) (n := 3) (Nat.le_of_ble_eq_true rfl)
  have hgo : entryFrame m args 3 = entryFrame m ([.ref (z + t0)] : List Value).toArray 3 := by rw [ha]
  rw [hgo, lg_entry_eq]
  generalize (lg_sl ([.ref (z + t0)]) ++ List.replicate (3 - (lg_sl ([.ref (z + t0)])).length) Slot.unset).toArray = ls at hl ⊢
  have hl : lv_has ls 3 [(0, .ref (z + t0))] := hl
  have C4 : ∀ (n : Nat), ∀ (I : dkI) (H : Heap) (locs : List Loc) (ls : Array Slot) (x4_1 : Int32) (x4_2 : Int32), (5 - x4_2.toInt).toNat < n → dkW g z I H → va_S (dkA z) s.heap H locs → dkF [] I0 I → dkOk I → dkN [(0, 5)] x4_2 → lv_has ls 3 [(0, .ref (z + t0)), (1, .int x4_1), (2, .int x4_2)] → W p l e (headSpec wsX4_allReigns (dkR 0)).room s m args below meth c H locs 0 0 (MQ below (dkQi g z (fun r I1 => dkF [] I0 I1 ∧ dkOk I1 ∧ ((True ∧ True)))) args s 0 0 (dkA z)) (F0 m 4 ls []) := by
    intro n
    induction n with
    | zero => intro I H locs ls x4_1 x4_2 hn; exact absurd hn (Nat.not_lt_zero _)
    | succ n ih4 =>
      intro I4_ H locs ls x4_1 x4_2 hn4 hW hS hF_4 hO k4_1 hl
      have hF := hF_4
      refine lv_iload_n hx hb dX4_allReigns_4 rfl (lv_at hl 2 rfl) ?_
      refine lv_aload_n hx hb dX4_allReigns_5 rfl (lv_at hl 0 rfl) ?_
      refine dk_get (k := t0) hx hb hts iX4_allReigns_4 hown hK (dk_aT0 ht0 hW) rfl 4 (by decide) (hts (.fieldLink RX4 55 "DogKings$Town" "people" "I") (List.mem_of_getElem? (i := 1) rfl)) rfl dX4_allReigns_6 ?_
      refine lv_topi (fun v1 ev1 => ?_)
      have dv1 : dkN [(0, 5)] v1 := by rw [ev1]; exact (dkO_at hO ht0 (c := 0) (by decide) 4)
      refine lv_icmp_ge (tgt := 27) hx hb dX4_allReigns_9 (by decide) (fun c2 => ?_) (fun c2 => ?_)
      ·
        refine lv_iload_n hx hb dX4_allReigns_27 rfl (lv_at hl 1 rfl) ?_
        exact W.iret (v := x4_1) hx hb hr (fun t ht hW9 => ⟨⟨x4_1, I4_, rfl, ⟨hF, hO, ⟨trivial, trivial⟩⟩, dkW_eq ht hW⟩, hS.F ht⟩) hS.2.2 dX4_allReigns_28
      ·
        have d3 : dkN [(1, 5)] v1 := dkN_le2 1 k4_1 dv1 (dkc_nle c2) rfl
        have f4 : dkN [(1, 5)] (I4_ t0 4) := by rw [← ev1]; exact d3
        have d5 : dkN [(0, 4)] x4_2 := dkN_le1 1 k4_1 dv1 (dkc_nle c2) rfl
        refine lv_iload_n hx hb dX4_allReigns_12 rfl (lv_at hl 1 rfl) ?_
        refine lv_aload_n hx hb dX4_allReigns_13 rfl (lv_at hl 0 rfl) ?_
        refine dk_get (k := t0) hx hb hts iX4_allReigns_4 hown hK (dk_aT0 ht0 hW) rfl 10 (by decide) (hts (.fieldLink RX4 27 "DogKings$Town" "reigns" "[I") (List.mem_of_getElem? (i := 2) rfl)) rfl dX4_allReigns_14 ?_
        refine lv_iload_n hx hb dX4_allReigns_17 rfl (lv_at hl 2 rfl) ?_
        refine dk_ild (k := (t0 + 6)) hx hb hK (dk_aT6 ht0 hW) (dkN_in (n := 5) d5 rfl) dX4_allReigns_18 ?_
        refine lv_topi (fun v6 ev6 => ?_)
        refine lv_iadd hx hb dX4_allReigns_19 ?_
        refine lv_topi (fun v7 ev7 => ?_)
        refine lv_istore_n (lv' := [(1, .int v7), (0, .ref (z + t0)), (2, .int x4_2)]) hx hb dX4_allReigns_20 rfl hl (by decide) rfl (fun ls hl => ?_)
        obtain ⟨v8, ev8⟩ : ∃ y : Int32, y = x4_2 + 1 := ⟨_, rfl⟩
        have dv8 : dkN [(1, 5)] v8 := by rw [ev8]; exact dkN_add d5 (dkN_lit (x := 1) (1) rfl) rfl
        refine lv_iinc (v := v8) (lv' := [(2, .int v8), (1, .int v7), (0, .ref (z + t0))]) hx hb dX4_allReigns_21 hl (k := 2) rfl (by rw [ev8]; rfl) (by decide) rfl (fun ls hl => ?_)
        refine lv_goto (tgt := 4) hx hb dX4_allReigns_24 (by decide) ?_
        exact ih4 I4_ _ _ ls v7 v8 (dk_near hn4 (by rw [ev8]; exact dk_inc d5 rfl) (dkN_lt d5 rfl)) hW hS hF hO (dkN_sub dv8 rfl) (lv_sub hl [2, 1, 0] rfl)
  refine lv_iconst (v := 0) hx hb dX4_allReigns_0 (by decide) ?_
  refine lv_istore_n (lv' := [(1, .int 0), (0, .ref (z + t0))]) hx hb dX4_allReigns_1 rfl hl (by decide) rfl (fun ls hl => ?_)
  refine lv_iconst (v := 0) hx hb dX4_allReigns_2 (by decide) ?_
  refine lv_istore_n (lv' := [(2, .int 0), (1, .int 0), (0, .ref (z + t0))]) hx hb dX4_allReigns_3 rfl hl (by decide) rfl (fun ls hl => ?_)
  exact C4 _ I0 _ _ ls 0 0 (Nat.lt_succ_self _) hW hS hF hO (dkN_sub (dkN_lit (x := 0) (0) rfl) rfl) (lv_sub hl [2, 1, 0] rfl)
set_option maxHeartbeats 4000000 in
set_option maxRecDepth 100000 in
theorem c_X5_count_0 (l : Launch) (g : dkG) (z : Nat) (I0 : dkI) (p0 : Int32)  (hO : dkOk I0) : Met l yX5_count wsX5_count (dkR 2) (dkPc g z [.ref (z + 0), .int p0] I0) (dkQi g z (fun r I1 => dkF [] I0 I1 ∧ dkOk I1 ∧ ((True ∧ True)))) 0 0 (dkA z) := by
  refine Met.ofW (cc := cX5_count) (maxL := 2) (ret := (some .int)) (by decide) rfl ?_
  intro p e s m args below meth c s₁ B hml hv
  obtain ⟨ha, hW, hK, hT⟩ := hv
  have hx := B.exec
  have hb := B.bytes
  have hr := B.returns
  have hts := atoms_spec (ws := wsX5_count) B.pre
  have hown : s.vm.findClass RX5 = some m.cls := findClass_of_methodNamed B.named
  have hlocks := B.notSynchronized
  have hS : va_S (dkA z) s.heap s.heap [] := va_S.rf
  have hF : dkF [] I0 I0 := dkF_rf _ _
  have hl := lv_entry ([.ref (z + 0), .int p0]) (n := 2) (Nat.le_of_ble_eq_true rfl)
  have hgo : entryFrame m args 2 = entryFrame m ([.ref (z + 0), .int p0] : List Value).toArray 2 := by rw [ha]
  rw [hgo, lg_entry_eq]
  generalize (lg_sl ([.ref (z + 0), .int p0]) ++ List.replicate (2 - (lg_sl ([.ref (z + 0), .int p0])).length) Slot.unset).toArray = ls at hl ⊢
  have hl : lv_has ls 2 [(0, .ref (z + 0)), (1, .int p0)] := hl
  refine lv_iload_n hx hb dX5_count_0 rfl (lv_at hl 1 rfl) ?_
  by_cases c1 : p0 = 0
  ·
    have qc1 : p0.toInt = 0 := by rw [c1]; rfl
    have d2 : dkN [(0, 0)] p0 := dkN_lit (0) qc1
    refine lv_tableIn (tgt := 56) hx hb dX5_count_1 (by rw [qc1]; decide) (by rw [qc1]; decide) (by rw [qc1]; rfl) (by decide) ?_
    refine lv_aload_n hx hb dX5_count_56 rfl (lv_at hl 0 rfl) ?_
    refine dk_Vi (As := []) (rest := []) ⟨hx, hb, hml, hown, hts⟩ (c_X5_rowsThatStand_0 l g z I0 hO) (cwV 0 hts gX5_count_X5_rowsThatStand rfl rfl rfl (by decide +kernel) ⟨Nat.le_of_ble_eq_true rfl, Nat.le_of_ble_eq_true rfl⟩) (dk_at0 hW) rfl hK hT hW hS rfl hl.1 rfl (Nat.le_of_ble_eq_true rfl) dX5_count_57 ⟨Nat.zero_le _, Nat.zero_le _⟩ (fun v3 I3 H3 L3 hp3 hW hS => ?_)
    obtain ⟨hF3, hO, hc3⟩ := hp3
    have hF := dkF_call hF hF3 rfl
    obtain ⟨_, -⟩ := hc3
    exact W.iret (v := v3) hx hb hr (fun t ht hW9 => ⟨⟨v3, I3, rfl, ⟨hF, hO, ⟨trivial, trivial⟩⟩, dkW_eq ht hW⟩, hS.F ht⟩) hS.2.2 dX5_count_60
  ·
    have d4 : dkN [(-2147483648, -1), (1, 2147483647)] p0 := dkN_ne1 (0) (dkN_top p0) (dkN_lit (x := 0) (0) rfl) (dk_ne c1) rfl
    by_cases c5 : p0 = 1
    ·
      have qc5 : p0.toInt = 1 := by rw [c5]; rfl
      have d6 : dkN [(1, 1)] p0 := dkN_lit (1) qc5
      refine lv_tableIn (tgt := 61) hx hb dX5_count_1 (by rw [qc5]; decide) (by rw [qc5]; decide) (by rw [qc5]; rfl) (by decide) ?_
      refine lv_aload_n hx hb dX5_count_61 rfl (lv_at hl 0 rfl) ?_
      refine dk_get (k := 0) hx hb hts iX5_count_5 hown hK (dk_at0 hW) rfl 5 (by decide) (hts (.fieldLink RX5 31 "DogKings" "now" "LDogKings$Town;") (List.mem_of_getElem? (i := 1) rfl)) rfl dX5_count_62 ?_
      refine dk_get (k := 25) hx hb hts iX5_count_4 hown hK (dk_at25 hW) rfl 0 (by decide) (hts (.fieldLink RX5 274 "DogKings$Town" "places" "I") (List.mem_of_getElem? (i := 2) rfl)) rfl dX5_count_65 ?_
      refine lv_topi (fun v7 ev7 => ?_)
      have dv7 : dkN [(0, 9)] v7 := by rw [ev7]; exact (hO 25 0)
      exact W.iret (v := v7) hx hb hr (fun t ht hW9 => ⟨⟨v7, I0, rfl, ⟨hF, hO, ⟨trivial, trivial⟩⟩, dkW_eq ht hW⟩, hS.F ht⟩) hS.2.2 dX5_count_68
    ·
      have d8 : dkN [(-2147483648, -1), (2, 2147483647)] p0 := dkN_ne1 (1) d4 (dkN_lit (x := 1) (1) rfl) (dk_ne c5) rfl
      by_cases c9 : p0 = 2
      ·
        have qc9 : p0.toInt = 2 := by rw [c9]; rfl
        have d10 : dkN [(2, 2)] p0 := dkN_lit (2) qc9
        refine lv_tableIn (tgt := 69) hx hb dX5_count_1 (by rw [qc9]; decide) (by rw [qc9]; decide) (by rw [qc9]; rfl) (by decide) ?_
        refine lv_aload_n hx hb dX5_count_69 rfl (lv_at hl 0 rfl) ?_
        refine dk_get (k := 0) hx hb hts iX5_count_5 hown hK (dk_at0 hW) rfl 5 (by decide) (hts (.fieldLink RX5 31 "DogKings" "now" "LDogKings$Town;") (List.mem_of_getElem? (i := 1) rfl)) rfl dX5_count_70 ?_
        refine dk_get (k := 25) hx hb hts iX5_count_4 hown hK (dk_at25 hW) rfl 11 (by decide) (hts (.fieldLink RX5 120 "DogKings$Town" "dogs" "I") (List.mem_of_getElem? (i := 3) rfl)) rfl dX5_count_73 ?_
        refine lv_topi (fun v11 ev11 => ?_)
        have dv11 : dkN [(0, 6)] v11 := by rw [ev11]; exact (hO 25 11)
        exact W.iret (v := v11) hx hb hr (fun t ht hW9 => ⟨⟨v11, I0, rfl, ⟨hF, hO, ⟨trivial, trivial⟩⟩, dkW_eq ht hW⟩, hS.F ht⟩) hS.2.2 dX5_count_76
      ·
        have d12 : dkN [(-2147483648, -1), (3, 2147483647)] p0 := dkN_ne1 (2) d8 (dkN_lit (x := 2) (2) rfl) (dk_ne c9) rfl
        by_cases c13 : p0 = 3
        ·
          have qc13 : p0.toInt = 3 := by rw [c13]; rfl
          have d14 : dkN [(3, 3)] p0 := dkN_lit (3) qc13
          refine lv_tableIn (tgt := 77) hx hb dX5_count_1 (by rw [qc13]; decide) (by rw [qc13]; decide) (by rw [qc13]; rfl) (by decide) ?_
          refine lv_aload_n hx hb dX5_count_77 rfl (lv_at hl 0 rfl) ?_
          refine dk_get (k := 0) hx hb hts iX5_count_5 hown hK (dk_at0 hW) rfl 5 (by decide) (hts (.fieldLink RX5 31 "DogKings" "now" "LDogKings$Town;") (List.mem_of_getElem? (i := 1) rfl)) rfl dX5_count_78 ?_
          refine dk_get (k := 25) hx hb hts iX5_count_4 hown hK (dk_at25 hW) rfl 4 (by decide) (hts (.fieldLink RX5 277 "DogKings$Town" "people" "I") (List.mem_of_getElem? (i := 4) rfl)) rfl dX5_count_81 ?_
          refine lv_topi (fun v15 ev15 => ?_)
          have dv15 : dkN [(0, 5)] v15 := by rw [ev15]; exact (hO 25 4)
          exact W.iret (v := v15) hx hb hr (fun t ht hW9 => ⟨⟨v15, I0, rfl, ⟨hF, hO, ⟨trivial, trivial⟩⟩, dkW_eq ht hW⟩, hS.F ht⟩) hS.2.2 dX5_count_84
        ·
          have d16 : dkN [(-2147483648, -1), (4, 2147483647)] p0 := dkN_ne1 (3) d12 (dkN_lit (x := 3) (3) rfl) (dk_ne c13) rfl
          by_cases c17 : p0 = 4
          ·
            have qc17 : p0.toInt = 4 := by rw [c17]; rfl
            have d18 : dkN [(4, 4)] p0 := dkN_lit (4) qc17
            refine lv_tableIn (tgt := 85) hx hb dX5_count_1 (by rw [qc17]; decide) (by rw [qc17]; decide) (by rw [qc17]; rfl) (by decide) ?_
            refine lv_aload_n hx hb dX5_count_85 rfl (lv_at hl 0 rfl) ?_
            refine dk_get (k := 0) hx hb hts iX5_count_5 hown hK (dk_at0 hW) rfl 5 (by decide) (hts (.fieldLink RX5 31 "DogKings" "now" "LDogKings$Town;") (List.mem_of_getElem? (i := 1) rfl)) rfl dX5_count_86 ?_
            refine dk_get (k := 25) hx hb hts iX5_count_4 hown hK (dk_at25 hW) rfl 2 (by decide) (hts (.fieldLink RX5 130 "DogKings$Town" "friday" "I") (List.mem_of_getElem? (i := 5) rfl)) rfl dX5_count_89 ?_
            refine lv_topi (fun v19 ev19 => ?_)
            exact W.iret (v := v19) hx hb hr (fun t ht hW9 => ⟨⟨v19, I0, rfl, ⟨hF, hO, ⟨trivial, trivial⟩⟩, dkW_eq ht hW⟩, hS.F ht⟩) hS.2.2 dX5_count_92
          ·
            have d20 : dkN [(-2147483648, -1), (5, 2147483647)] p0 := dkN_ne1 (4) d16 (dkN_lit (x := 4) (4) rfl) (dk_ne c17) rfl
            by_cases c21 : p0 = 5
            ·
              have qc21 : p0.toInt = 5 := by rw [c21]; rfl
              have d22 : dkN [(5, 5)] p0 := dkN_lit (5) qc21
              refine lv_tableIn (tgt := 93) hx hb dX5_count_1 (by rw [qc21]; decide) (by rw [qc21]; decide) (by rw [qc21]; rfl) (by decide) ?_
              refine lv_aload_n hx hb dX5_count_93 rfl (lv_at hl 0 rfl) ?_
              refine dk_get (k := 0) hx hb hts iX5_count_5 hown hK (dk_at0 hW) rfl 5 (by decide) (hts (.fieldLink RX5 31 "DogKings" "now" "LDogKings$Town;") (List.mem_of_getElem? (i := 1) rfl)) rfl dX5_count_94 ?_
              refine dk_get (k := 25) hx hb hts iX5_count_4 hown hK (dk_at25 hW) rfl 3 (by decide) (hts (.fieldLink RX5 280 "DogKings$Town" "minute" "I") (List.mem_of_getElem? (i := 6) rfl)) rfl dX5_count_97 ?_
              refine lv_topi (fun v23 ev23 => ?_)
              exact W.iret (v := v23) hx hb hr (fun t ht hW9 => ⟨⟨v23, I0, rfl, ⟨hF, hO, ⟨trivial, trivial⟩⟩, dkW_eq ht hW⟩, hS.F ht⟩) hS.2.2 dX5_count_100
            ·
              have d24 : dkN [(-2147483648, -1), (6, 2147483647)] p0 := dkN_ne1 (5) d20 (dkN_lit (x := 5) (5) rfl) (dk_ne c21) rfl
              by_cases c25 : p0 = 6
              ·
                have qc25 : p0.toInt = 6 := by rw [c25]; rfl
                have d26 : dkN [(6, 6)] p0 := dkN_lit (6) qc25
                refine lv_tableIn (tgt := 101) hx hb dX5_count_1 (by rw [qc25]; decide) (by rw [qc25]; decide) (by rw [qc25]; rfl) (by decide) ?_
                refine lv_aload_n hx hb dX5_count_101 rfl (lv_at hl 0 rfl) ?_
                refine dk_get (k := 0) hx hb hts iX5_count_5 hown hK (dk_at0 hW) rfl 5 (by decide) (hts (.fieldLink RX5 31 "DogKings" "now" "LDogKings$Town;") (List.mem_of_getElem? (i := 1) rfl)) rfl dX5_count_102 ?_
                refine dk_get (k := 25) hx hb hts iX5_count_4 hown hK (dk_at25 hW) rfl 1 (by decide) (hts (.fieldLink RX5 283 "DogKings$Town" "fridayLasts" "I") (List.mem_of_getElem? (i := 7) rfl)) rfl dX5_count_105 ?_
                refine lv_topi (fun v27 ev27 => ?_)
                have dv27 : dkN [(0, 30)] v27 := by rw [ev27]; exact (hO 25 1)
                exact W.iret (v := v27) hx hb hr (fun t ht hW9 => ⟨⟨v27, I0, rfl, ⟨hF, hO, ⟨trivial, trivial⟩⟩, dkW_eq ht hW⟩, hS.F ht⟩) hS.2.2 dX5_count_108
              ·
                have d28 : dkN [(-2147483648, -1), (7, 2147483647)] p0 := dkN_ne1 (6) d24 (dkN_lit (x := 6) (6) rfl) (dk_ne c25) rfl
                by_cases c29 : p0 = 7
                ·
                  have qc29 : p0.toInt = 7 := by rw [c29]; rfl
                  have d30 : dkN [(7, 7)] p0 := dkN_lit (7) qc29
                  refine lv_tableIn (tgt := 109) hx hb dX5_count_1 (by rw [qc29]; decide) (by rw [qc29]; decide) (by rw [qc29]; rfl) (by decide) ?_
                  refine lv_aload_n hx hb dX5_count_109 rfl (lv_at hl 0 rfl) ?_
                  refine dk_get (k := 0) hx hb hts iX5_count_5 hown hK (dk_at0 hW) rfl 7 (by decide) (hts (.fieldLink RX5 42 "DogKings" "acts" "LDogKings$Acts;") (List.mem_of_getElem? (i := 8) rfl)) rfl dX5_count_110 ?_
                  refine dk_get (k := 59) hx hb hts iX5_count_0 hown hK (dk_at59 hW) rfl 2 (by decide) (hts (.fieldLink RX5 158 "DogKings$Acts" "kept" "I") (List.mem_of_getElem? (i := 9) rfl)) rfl dX5_count_113 ?_
                  refine lv_topi (fun v31 ev31 => ?_)
                  have dv31 : dkN [(0, 24)] v31 := by rw [ev31]; exact (hO 59 2)
                  exact W.iret (v := v31) hx hb hr (fun t ht hW9 => ⟨⟨v31, I0, rfl, ⟨hF, hO, ⟨trivial, trivial⟩⟩, dkW_eq ht hW⟩, hS.F ht⟩) hS.2.2 dX5_count_116
                ·
                  have d32 : dkN [(-2147483648, -1), (8, 2147483647)] p0 := dkN_ne1 (7) d28 (dkN_lit (x := 7) (7) rfl) (dk_ne c29) rfl
                  by_cases c33 : p0 = 8
                  ·
                    have qc33 : p0.toInt = 8 := by rw [c33]; rfl
                    have d34 : dkN [(8, 8)] p0 := dkN_lit (8) qc33
                    refine lv_tableIn (tgt := 117) hx hb dX5_count_1 (by rw [qc33]; decide) (by rw [qc33]; decide) (by rw [qc33]; rfl) (by decide) ?_
                    refine lv_aload_n hx hb dX5_count_117 rfl (lv_at hl 0 rfl) ?_
                    refine dk_get (k := 0) hx hb hts iX5_count_5 hown hK (dk_at0 hW) rfl 4 (by decide) (hts (.fieldLink RX5 24 "DogKings" "reader" "LDogKings$Reader;") (List.mem_of_getElem? (i := 10) rfl)) rfl dX5_count_118 ?_
                    refine dk_get (k := 12) hx hb hts iX5_count_2 hown hK (dk_at12 hW) rfl 1 (by decide) (hts (.fieldLink RX5 286 "DogKings$Reader" "bytes" "I") (List.mem_of_getElem? (i := 11) rfl)) rfl dX5_count_121 ?_
                    refine lv_topi (fun v35 ev35 => ?_)
                    have dv35 : dkN [(0, 90)] v35 := by rw [ev35]; exact (hO 12 1)
                    exact W.iret (v := v35) hx hb hr (fun t ht hW9 => ⟨⟨v35, I0, rfl, ⟨hF, hO, ⟨trivial, trivial⟩⟩, dkW_eq ht hW⟩, hS.F ht⟩) hS.2.2 dX5_count_124
                  ·
                    have d36 : dkN [(-2147483648, -1), (9, 2147483647)] p0 := dkN_ne1 (8) d32 (dkN_lit (x := 8) (8) rfl) (dk_ne c33) rfl
                    by_cases c37 : p0 = 9
                    ·
                      have qc37 : p0.toInt = 9 := by rw [c37]; rfl
                      have d38 : dkN [(9, 9)] p0 := dkN_lit (9) qc37
                      refine lv_tableIn (tgt := 125) hx hb dX5_count_1 (by rw [qc37]; decide) (by rw [qc37]; decide) (by rw [qc37]; rfl) (by decide) ?_
                      refine lv_aload_n hx hb dX5_count_125 rfl (lv_at hl 0 rfl) ?_
                      refine dk_get (k := 0) hx hb hts iX5_count_5 hown hK (dk_at0 hW) rfl 5 (by decide) (hts (.fieldLink RX5 31 "DogKings" "now" "LDogKings$Town;") (List.mem_of_getElem? (i := 1) rfl)) rfl dX5_count_126 ?_
                      refine dk_Vi (As := []) (rest := []) ⟨hx, hb, hml, hown, hts⟩ (c_X4_allReigns_0 l g z I0 (25) (by unfold dkT; omega) hO) (cwV 0 hts gX5_count_X4_allReigns rfl rfl rfl (by decide +kernel) ⟨Nat.le_of_ble_eq_true rfl, Nat.le_of_ble_eq_true rfl⟩) (dk_at25 hW) rfl hK hT hW hS rfl hl.1 rfl (Nat.le_of_ble_eq_true rfl) dX5_count_129 ⟨Nat.zero_le _, Nat.zero_le _⟩ (fun v39 I39 H39 L39 hp39 hW hS => ?_)
                      obtain ⟨hF39, hO, hc39⟩ := hp39
                      have hF := dkF_call hF hF39 rfl
                      obtain ⟨_, -⟩ := hc39
                      exact W.iret (v := v39) hx hb hr (fun t ht hW9 => ⟨⟨v39, I39, rfl, ⟨hF, hO, ⟨trivial, trivial⟩⟩, dkW_eq ht hW⟩, hS.F ht⟩) hS.2.2 dX5_count_132
                    ·
                      have d40 : dkN [(-2147483648, -1), (10, 2147483647)] p0 := dkN_ne1 (9) d36 (dkN_lit (x := 9) (9) rfl) (dk_ne c37) rfl
                      refine lv_tableOut (tgt := 133) hx hb dX5_count_1 (dkN_out d40 rfl) (by decide) ?_
                      refine lv_ldc (v := (-1000001)) hx hb hown (hts (.constant RX5 70 (-1000001)) (List.mem_of_getElem? (i := 12) rfl)) dX5_count_133 ?_
                      exact W.iret (v := (-1000001)) hx hb hr (fun t ht hW9 => ⟨⟨(-1000001), I0, rfl, ⟨hF, hO, ⟨trivial, trivial⟩⟩, dkW_eq ht hW⟩, hS.F ht⟩) hS.2.2 dX5_count_135
set_option maxHeartbeats 4000000 in
set_option maxRecDepth 100000 in
theorem c_X6_reigns_0 (l : Launch) (g : dkG) (z : Nat) (I0 : dkI)  (hO : dkOk I0) : Met l yX6_reigns wsX6_reigns (dkR 0) (dkPc g z [.ref (z + 340)] I0) (dkQi g z (fun r I1 => dkF [] I0 I1 ∧ dkOk I1 ∧ ((True ∧ True)))) 0 0 (dkA z) := by
  refine Met.ofW (cc := cX6_reigns) (maxL := 3) (ret := (some .int)) (by decide) rfl ?_
  intro p e s m args below meth c s₁ B hml hv
  obtain ⟨ha, hW, hK, hT⟩ := hv
  have hx := B.exec
  have hb := B.bytes
  have hr := B.returns
  have hts := atoms_spec (ws := wsX6_reigns) B.pre
  have hown : s.vm.findClass RX6 = some m.cls := findClass_of_methodNamed B.named
  have hlocks := B.notSynchronized
  have hS : va_S (dkA z) s.heap s.heap [] := va_S.rf
  have hF : dkF [] I0 I0 := dkF_rf _ _
  have hl := lv_entry ([.ref (z + 340)]) (n := 3) (Nat.le_of_ble_eq_true rfl)
  have hgo : entryFrame m args 3 = entryFrame m ([.ref (z + 340)] : List Value).toArray 3 := by rw [ha]
  rw [hgo, lg_entry_eq]
  generalize (lg_sl ([.ref (z + 340)]) ++ List.replicate (3 - (lg_sl ([.ref (z + 340)])).length) Slot.unset).toArray = ls at hl ⊢
  have hl : lv_has ls 3 [(0, .ref (z + 340))] := hl
  have C4 : ∀ (n : Nat), ∀ (I : dkI) (H : Heap) (locs : List Loc) (ls : Array Slot) (x4_1 : Int32) (x4_2 : Int32), (5 - x4_2.toInt).toNat < n → dkW g z I H → va_S (dkA z) s.heap H locs → dkF [] I0 I → dkOk I → dkN [(0, 5)] x4_2 → lv_has ls 3 [(0, .ref (z + 340)), (1, .int x4_1), (2, .int x4_2)] → W p l e (headSpec wsX6_reigns (dkR 0)).room s m args below meth c H locs 0 0 (MQ below (dkQi g z (fun r I1 => dkF [] I0 I1 ∧ dkOk I1 ∧ ((True ∧ True)))) args s 0 0 (dkA z)) (F0 m 4 ls []) := by
    intro n
    induction n with
    | zero => intro I H locs ls x4_1 x4_2 hn; exact absurd hn (Nat.not_lt_zero _)
    | succ n ih4 =>
      intro I4_ H locs ls x4_1 x4_2 hn4 hW hS hF_4 hO k4_1 hl
      have hF := hF_4
      refine lv_iload_n hx hb dX6_reigns_4 rfl (lv_at hl 2 rfl) ?_
      refine lv_aload_n hx hb dX6_reigns_5 rfl (lv_at hl 0 rfl) ?_
      refine dk_get (k := 340) hx hb hts iX6_reigns_6 hown hK (dk_at340 hW) rfl 13 (by decide) (hts (.fieldLink RX6 25 "DogKingsModel" "now" "[I") (List.mem_of_getElem? (i := 1) rfl)) rfl dX6_reigns_6 ?_
      refine lv_iconst (v := 4) hx hb dX6_reigns_9 (by decide) ?_
      refine dk_ild (k := 346) hx hb hK (dk_at346 hW) (dkN_in (n := 54) (dkN_lit (x := 4) (4) rfl) rfl) dX6_reigns_10 ?_
      refine lv_topi (fun v1 ev1 => ?_)
      have ev1 : v1 = I4_ 346 4 := ev1
      have dv1 : dkN [(0, 5)] v1 := by rw [ev1]; exact (show dkN [(0, 5)] (I4_ 346 4) from (hO 346 4))
      refine lv_icmp_ge (tgt := 37) hx hb dX6_reigns_11 (by decide) (fun c2 => ?_) (fun c2 => ?_)
      ·
        refine lv_iload_n hx hb dX6_reigns_37 rfl (lv_at hl 1 rfl) ?_
        exact W.iret (v := x4_1) hx hb hr (fun t ht hW9 => ⟨⟨x4_1, I4_, rfl, ⟨hF, hO, ⟨trivial, trivial⟩⟩, dkW_eq ht hW⟩, hS.F ht⟩) hS.2.2 dX6_reigns_38
      ·
        have d3 : dkN [(1, 5)] v1 := dkN_le2 1 k4_1 dv1 (dkc_nle c2) rfl
        have f4 : dkN [(1, 5)] (I4_ 346 4) := by rw [← ev1]; exact d3
        have d5 : dkN [(0, 4)] x4_2 := dkN_le1 1 k4_1 dv1 (dkc_nle c2) rfl
        refine lv_iload_n hx hb dX6_reigns_14 rfl (lv_at hl 1 rfl) ?_
        refine lv_aload_n hx hb dX6_reigns_15 rfl (lv_at hl 0 rfl) ?_
        refine dk_get (k := 340) hx hb hts iX6_reigns_6 hown hK (dk_at340 hW) rfl 13 (by decide) (hts (.fieldLink RX6 25 "DogKingsModel" "now" "[I") (List.mem_of_getElem? (i := 1) rfl)) rfl dX6_reigns_16 ?_
        refine lv_bipush (v := 6) hx hb dX6_reigns_19 (by decide) ?_
        refine lv_bipush (v := 6) hx hb dX6_reigns_21 (by decide) ?_
        refine lv_iload_n hx hb dX6_reigns_23 rfl (lv_at hl 2 rfl) ?_
        refine lv_imul hx hb dX6_reigns_24 ?_
        refine lv_topi (fun v6 ev6 => ?_)
        have dv6 : dkN [(0, 24)] v6 := by rw [ev6]; exact dkN_mulL 6 (by decide) (dkN_lit (x := 6) (6) rfl) d5 rfl
        refine lv_iadd hx hb dX6_reigns_25 ?_
        refine lv_topi (fun v7 ev7 => ?_)
        have dv7 : dkN [(6, 30)] v7 := by rw [ev7]; exact dkN_add (dkN_lit (x := 6) (6) rfl) dv6 rfl
        refine lv_iconst (v := 5) hx hb dX6_reigns_26 (by decide) ?_
        refine lv_iadd hx hb dX6_reigns_27 ?_
        refine lv_topi (fun v8 ev8 => ?_)
        have dv8 : dkN [(11, 35)] v8 := by rw [ev8]; exact dkN_add dv7 (dkN_lit (x := 5) (5) rfl) rfl
        refine dk_ild (k := 346) hx hb hK (dk_at346 hW) (dkN_in (n := 54) dv8 rfl) dX6_reigns_28 ?_
        refine lv_topi (fun v9 ev9 => ?_)
        refine lv_iadd hx hb dX6_reigns_29 ?_
        refine lv_topi (fun v10 ev10 => ?_)
        refine lv_istore_n (lv' := [(1, .int v10), (0, .ref (z + 340)), (2, .int x4_2)]) hx hb dX6_reigns_30 rfl hl (by decide) rfl (fun ls hl => ?_)
        obtain ⟨v11, ev11⟩ : ∃ y : Int32, y = x4_2 + 1 := ⟨_, rfl⟩
        have dv11 : dkN [(1, 5)] v11 := by rw [ev11]; exact dkN_add d5 (dkN_lit (x := 1) (1) rfl) rfl
        refine lv_iinc (v := v11) (lv' := [(2, .int v11), (1, .int v10), (0, .ref (z + 340))]) hx hb dX6_reigns_31 hl (k := 2) rfl (by rw [ev11]; rfl) (by decide) rfl (fun ls hl => ?_)
        refine lv_goto (tgt := 4) hx hb dX6_reigns_34 (by decide) ?_
        exact ih4 I4_ _ _ ls v10 v11 (dk_near hn4 (by rw [ev11]; exact dk_inc d5 rfl) (dkN_lt d5 rfl)) hW hS hF hO (dkN_sub dv11 rfl) (lv_sub hl [2, 1, 0] rfl)
  refine lv_iconst (v := 0) hx hb dX6_reigns_0 (by decide) ?_
  refine lv_istore_n (lv' := [(1, .int 0), (0, .ref (z + 340))]) hx hb dX6_reigns_1 rfl hl (by decide) rfl (fun ls hl => ?_)
  refine lv_iconst (v := 0) hx hb dX6_reigns_2 (by decide) ?_
  refine lv_istore_n (lv' := [(2, .int 0), (1, .int 0), (0, .ref (z + 340))]) hx hb dX6_reigns_3 rfl hl (by decide) rfl (fun ls hl => ?_)
  exact C4 _ I0 _ _ ls 0 0 (Nat.lt_succ_self _) hW hS hF hO (dkN_sub (dkN_lit (x := 0) (0) rfl) rfl) (lv_sub hl [2, 1, 0] rfl)
set_option maxHeartbeats 4000000 in
set_option maxRecDepth 100000 in
theorem c_X6_count_0 (l : Launch) (g : dkG) (z : Nat) (I0 : dkI) (p0 : Int32)  (hO : dkOk I0) : Met l yX6_count wsX6_count (dkR 1) (dkPc g z [.ref (z + 340), .int p0] I0) (dkQi g z (fun r I1 => dkF [] I0 I1 ∧ dkOk I1 ∧ ((True ∧ True)))) 0 0 (dkA z) := by
  refine Met.ofW (cc := cX6_count) (maxL := 4) (ret := (some .int)) (by decide) rfl ?_
  intro p e s m args below meth c s₁ B hml hv
  obtain ⟨ha, hW, hK, hT⟩ := hv
  have hx := B.exec
  have hb := B.bytes
  have hr := B.returns
  have hts := atoms_spec (ws := wsX6_count) B.pre
  have hown : s.vm.findClass RX6 = some m.cls := findClass_of_methodNamed B.named
  have hlocks := B.notSynchronized
  have hS : va_S (dkA z) s.heap s.heap [] := va_S.rf
  have hF : dkF [] I0 I0 := dkF_rf _ _
  have hl := lv_entry ([.ref (z + 340), .int p0]) (n := 4) (Nat.le_of_ble_eq_true rfl)
  have hgo : entryFrame m args 4 = entryFrame m ([.ref (z + 340), .int p0] : List Value).toArray 4 := by rw [ha]
  rw [hgo, lg_entry_eq]
  generalize (lg_sl ([.ref (z + 340), .int p0]) ++ List.replicate (4 - (lg_sl ([.ref (z + 340), .int p0])).length) Slot.unset).toArray = ls at hl ⊢
  have hl : lv_has ls 4 [(0, .ref (z + 340)), (1, .int p0)] := hl
  have C58 : ∀ (n : Nat), ∀ (I : dkI) (H : Heap) (locs : List Loc) (ls : Array Slot) (x58_2 : Int32) (x58_3 : Int32), (8 - x58_3.toInt).toNat < n → dkW g z I H → va_S (dkA z) s.heap H locs → dkF [] I0 I → dkOk I → dkN [(0, 8)] x58_3 → dkN [(0, 0)] p0 → lv_has ls 4 [(0, .ref (z + 340)), (1, .int p0), (2, .int x58_2), (3, .int x58_3)] → W p l e (headSpec wsX6_count (dkR 1)).room s m args below meth c H locs 0 0 (MQ below (dkQi g z (fun r I1 => dkF [] I0 I1 ∧ dkOk I1 ∧ ((True ∧ True)))) args s 0 0 (dkA z)) (F0 m 58 ls []) := by
    intro n
    induction n with
    | zero => intro I H locs ls x58_2 x58_3 hn; exact absurd hn (Nat.not_lt_zero _)
    | succ n ih58 =>
      intro I58_ H locs ls x58_2 x58_3 hn58 hW hS hF_58 hO k58_1 r58_0 hl
      have hF := hF_58
      have C78 : ∀ (I : dkI) (H : Heap) (locs : List Loc) (ls : Array Slot) (x78_s0 : Int32), dkW g z I H → va_S (dkA z) s.heap H locs → dkF [] I0 I → dkOk I → dkN [(0, 1)] x78_s0 → dkN [(0, 0)] p0 → dkN [(0, 7)] x58_3 → lv_has ls 4 [(0, .ref (z + 340)), (1, .int p0), (2, .int x58_2), (3, .int x58_3)] → W p l e (headSpec wsX6_count (dkR 1)).room s m args below meth c H locs 0 0 (MQ below (dkQi g z (fun r I1 => dkF [] I0 I1 ∧ dkOk I1 ∧ ((True ∧ True)))) args s 0 0 (dkA z)) (F0 m 78 ls [.int x78_s0, .int x58_2]) := by
        intro I78_ H locs ls x78_s0 hW hS hF_78 hO k78_0 r78_0 r78_1 hl
        have hF := hF_78
        refine lv_iadd hx hb dX6_count_78 ?_
        refine lv_topi (fun v1 ev1 => ?_)
        refine lv_istore_n (lv' := [(2, .int v1), (0, .ref (z + 340)), (1, .int p0), (3, .int x58_3)]) hx hb dX6_count_79 rfl hl (by decide) rfl (fun ls hl => ?_)
        obtain ⟨v2, ev2⟩ : ∃ y : Int32, y = x58_3 + 1 := ⟨_, rfl⟩
        have dv2 : dkN [(1, 8)] v2 := by rw [ev2]; exact dkN_add r78_1 (dkN_lit (x := 1) (1) rfl) rfl
        refine lv_iinc (v := v2) (lv' := [(3, .int v2), (2, .int v1), (0, .ref (z + 340)), (1, .int p0)]) hx hb dX6_count_80 hl (k := 3) rfl (by rw [ev2]; rfl) (by decide) rfl (fun ls hl => ?_)
        refine lv_goto (tgt := 58) hx hb dX6_count_83 (by decide) ?_
        exact ih58 I78_ _ _ ls v1 v2 (dk_near hn58 (by rw [ev2]; exact dk_inc r78_1 rfl) (dkN_lt r78_1 rfl)) hW hS hF hO (dkN_sub dv2 rfl) (dkN_sub r78_0 rfl) (lv_sub hl [2, 3, 1, 0] rfl)
      refine lv_iload_n hx hb dX6_count_58 rfl (lv_at hl 3 rfl) ?_
      refine lv_bipush (v := 8) hx hb dX6_count_59 (by decide) ?_
      refine lv_icmp_ge (tgt := 86) hx hb dX6_count_61 (by decide) (fun c3 => ?_) (fun c3 => ?_)
      ·
        have d4 : dkN [(8, 8)] x58_3 := dkN_le2 0 (dkN_lit (x := 8) (8) rfl) k58_1 (dkc_le c3) rfl
        refine lv_iload_n hx hb dX6_count_86 rfl (lv_at hl 2 rfl) ?_
        exact W.iret (v := x58_2) hx hb hr (fun t ht hW9 => ⟨⟨x58_2, I58_, rfl, ⟨hF, hO, ⟨trivial, trivial⟩⟩, dkW_eq ht hW⟩, hS.F ht⟩) hS.2.2 dX6_count_87
      ·
        have d5 : dkN [(0, 7)] x58_3 := dkN_le1 1 k58_1 (dkN_lit (x := 8) (8) rfl) (dkc_nle c3) rfl
        refine lv_iload_n hx hb dX6_count_64 rfl (lv_at hl 2 rfl) ?_
        refine lv_aload_n hx hb dX6_count_65 rfl (lv_at hl 0 rfl) ?_
        refine lv_iload_n hx hb dX6_count_66 rfl (lv_at hl 3 rfl) ?_
        refine dk_Vi (As := [.int x58_3]) (rest := [.int x58_2]) ⟨hx, hb, hml, hown, hts⟩ (c_X6_isMissing_0 l g z I58_ x58_3 d5 hO) (cwV 1 hts gX6_count_X6_isMissing rfl rfl rfl (by decide +kernel) ⟨Nat.le_of_ble_eq_true rfl, Nat.le_of_ble_eq_true rfl⟩) (dk_at340 hW) rfl hK hT hW hS rfl hl.1 rfl (Nat.le_of_ble_eq_true rfl) dX6_count_67 ⟨Nat.zero_le _, Nat.zero_le _⟩ (fun v6 I6 H6 L6 hp6 hW hS => ?_)
        obtain ⟨hF6, hO, hc6⟩ := hp6
        have hF := dkF_call hF hF6 rfl
        obtain ⟨dv6, -⟩ := hc6
        refine lv_if_eq (tgt := 77) hx hb dX6_count_70 (by decide) (fun c7 => ?_) (fun c7 => ?_)
        ·
          have d8 : dkN [(0, 0)] v6 := dkN_eq1 dv6 (dkN_lit (x := 0) (0) rfl) (congrArg Int32.toInt c7) rfl
          refine lv_iconst (v := 1) hx hb dX6_count_77 (by decide) ?_
          exact C78 I6 _ _ ls 1 hW hS hF hO (dkN_sub (dkN_lit (x := 1) (1) rfl) rfl) (dkN_sub r58_0 rfl) (dkN_sub d5 rfl) (lv_sub hl [0, 1, 2, 3] rfl)
        ·
          have d9 : dkN [(1, 1)] v6 := dkN_ne1 (0) dv6 (dkN_lit (x := 0) (0) rfl) (dk_ne c7) rfl
          refine lv_iconst (v := 0) hx hb dX6_count_73 (by decide) ?_
          refine lv_goto (tgt := 78) hx hb dX6_count_74 (by decide) ?_
          exact C78 I6 _ _ ls 0 hW hS hF hO (dkN_sub (dkN_lit (x := 0) (0) rfl) rfl) (dkN_sub r58_0 rfl) (dkN_sub d5 rfl) (lv_sub hl [0, 1, 2, 3] rfl)
  refine lv_iconst (v := 0) hx hb dX6_count_0 (by decide) ?_
  refine lv_istore_n (lv' := [(2, .int 0), (0, .ref (z + 340)), (1, .int p0)]) hx hb dX6_count_1 rfl hl (by decide) rfl (fun ls hl => ?_)
  refine lv_iload_n hx hb dX6_count_2 rfl (lv_at hl 2 rfl) ?_
  by_cases c10 : p0 = 0
  ·
    have qc10 : p0.toInt = 0 := by rw [c10]; rfl
    have d11 : dkN [(0, 0)] p0 := dkN_lit (0) qc10
    refine lv_tableIn (tgt := 56) hx hb dX6_count_3 (by rw [qc10]; decide) (by rw [qc10]; decide) (by rw [qc10]; rfl) (by decide) ?_
    refine lv_iconst (v := 0) hx hb dX6_count_56 (by decide) ?_
    refine lv_istore_n (lv' := [(3, .int 0), (2, .int 0), (0, .ref (z + 340)), (1, .int p0)]) hx hb dX6_count_57 rfl hl (by decide) rfl (fun ls hl => ?_)
    exact C58 _ I0 _ _ ls 0 0 (Nat.lt_succ_self _) hW hS hF hO (dkN_sub (dkN_lit (x := 0) (0) rfl) rfl) (dkN_sub d11 rfl) (lv_sub hl [2, 3, 1, 0] rfl)
  ·
    have d12 : dkN [(-2147483648, -1), (1, 2147483647)] p0 := dkN_ne1 (0) (dkN_top p0) (dkN_lit (x := 0) (0) rfl) (dk_ne c10) rfl
    by_cases c13 : p0 = 1
    ·
      have qc13 : p0.toInt = 1 := by rw [c13]; rfl
      have d14 : dkN [(1, 1)] p0 := dkN_lit (1) qc13
      refine lv_tableIn (tgt := 88) hx hb dX6_count_3 (by rw [qc13]; decide) (by rw [qc13]; decide) (by rw [qc13]; rfl) (by decide) ?_
      refine lv_aload_n hx hb dX6_count_88 rfl (lv_at hl 1 rfl) ?_
      refine dk_get (k := 340) hx hb hts iX6_count_6 hown hK (dk_at340 hW) rfl 13 (by decide) (hts (.fieldLink RX6 25 "DogKingsModel" "now" "[I") (List.mem_of_getElem? (i := 1) rfl)) rfl dX6_count_89 ?_
      refine lv_iconst (v := 0) hx hb dX6_count_92 (by decide) ?_
      refine dk_ild (k := 346) hx hb hK (dk_at346 hW) (dkN_in (n := 54) (dkN_lit (x := 0) (0) rfl) rfl) dX6_count_93 ?_
      refine lv_topi (fun v15 ev15 => ?_)
      have ev15 : v15 = I0 346 0 := ev15
      have dv15 : dkN [(0, 9)] v15 := by rw [ev15]; exact (show dkN [(0, 9)] (I0 346 0) from (hO 346 0))
      exact W.iret (v := v15) hx hb hr (fun t ht hW9 => ⟨⟨v15, I0, rfl, ⟨hF, hO, ⟨trivial, trivial⟩⟩, dkW_eq ht hW⟩, hS.F ht⟩) hS.2.2 dX6_count_94
    ·
      have d16 : dkN [(-2147483648, -1), (2, 2147483647)] p0 := dkN_ne1 (1) d12 (dkN_lit (x := 1) (1) rfl) (dk_ne c13) rfl
      by_cases c17 : p0 = 2
      ·
        have qc17 : p0.toInt = 2 := by rw [c17]; rfl
        have d18 : dkN [(2, 2)] p0 := dkN_lit (2) qc17
        refine lv_tableIn (tgt := 95) hx hb dX6_count_3 (by rw [qc17]; decide) (by rw [qc17]; decide) (by rw [qc17]; rfl) (by decide) ?_
        refine lv_aload_n hx hb dX6_count_95 rfl (lv_at hl 1 rfl) ?_
        refine dk_get (k := 340) hx hb hts iX6_count_6 hown hK (dk_at340 hW) rfl 13 (by decide) (hts (.fieldLink RX6 25 "DogKingsModel" "now" "[I") (List.mem_of_getElem? (i := 1) rfl)) rfl dX6_count_96 ?_
        refine lv_iconst (v := 5) hx hb dX6_count_99 (by decide) ?_
        refine dk_ild (k := 346) hx hb hK (dk_at346 hW) (dkN_in (n := 54) (dkN_lit (x := 5) (5) rfl) rfl) dX6_count_100 ?_
        refine lv_topi (fun v19 ev19 => ?_)
        have ev19 : v19 = I0 346 5 := ev19
        have dv19 : dkN [(0, 6)] v19 := by rw [ev19]; exact (show dkN [(0, 6)] (I0 346 5) from (hO 346 5))
        exact W.iret (v := v19) hx hb hr (fun t ht hW9 => ⟨⟨v19, I0, rfl, ⟨hF, hO, ⟨trivial, trivial⟩⟩, dkW_eq ht hW⟩, hS.F ht⟩) hS.2.2 dX6_count_101
      ·
        have d20 : dkN [(-2147483648, -1), (3, 2147483647)] p0 := dkN_ne1 (2) d16 (dkN_lit (x := 2) (2) rfl) (dk_ne c17) rfl
        by_cases c21 : p0 = 3
        ·
          have qc21 : p0.toInt = 3 := by rw [c21]; rfl
          have d22 : dkN [(3, 3)] p0 := dkN_lit (3) qc21
          refine lv_tableIn (tgt := 102) hx hb dX6_count_3 (by rw [qc21]; decide) (by rw [qc21]; decide) (by rw [qc21]; rfl) (by decide) ?_
          refine lv_aload_n hx hb dX6_count_102 rfl (lv_at hl 1 rfl) ?_
          refine dk_get (k := 340) hx hb hts iX6_count_6 hown hK (dk_at340 hW) rfl 13 (by decide) (hts (.fieldLink RX6 25 "DogKingsModel" "now" "[I") (List.mem_of_getElem? (i := 1) rfl)) rfl dX6_count_103 ?_
          refine lv_iconst (v := 4) hx hb dX6_count_106 (by decide) ?_
          refine dk_ild (k := 346) hx hb hK (dk_at346 hW) (dkN_in (n := 54) (dkN_lit (x := 4) (4) rfl) rfl) dX6_count_107 ?_
          refine lv_topi (fun v23 ev23 => ?_)
          have ev23 : v23 = I0 346 4 := ev23
          have dv23 : dkN [(0, 5)] v23 := by rw [ev23]; exact (show dkN [(0, 5)] (I0 346 4) from (hO 346 4))
          exact W.iret (v := v23) hx hb hr (fun t ht hW9 => ⟨⟨v23, I0, rfl, ⟨hF, hO, ⟨trivial, trivial⟩⟩, dkW_eq ht hW⟩, hS.F ht⟩) hS.2.2 dX6_count_108
        ·
          have d24 : dkN [(-2147483648, -1), (4, 2147483647)] p0 := dkN_ne1 (3) d20 (dkN_lit (x := 3) (3) rfl) (dk_ne c21) rfl
          by_cases c25 : p0 = 4
          ·
            have qc25 : p0.toInt = 4 := by rw [c25]; rfl
            have d26 : dkN [(4, 4)] p0 := dkN_lit (4) qc25
            refine lv_tableIn (tgt := 109) hx hb dX6_count_3 (by rw [qc25]; decide) (by rw [qc25]; decide) (by rw [qc25]; rfl) (by decide) ?_
            refine lv_aload_n hx hb dX6_count_109 rfl (lv_at hl 1 rfl) ?_
            refine dk_get (k := 340) hx hb hts iX6_count_6 hown hK (dk_at340 hW) rfl 13 (by decide) (hts (.fieldLink RX6 25 "DogKingsModel" "now" "[I") (List.mem_of_getElem? (i := 1) rfl)) rfl dX6_count_110 ?_
            refine lv_iconst (v := 2) hx hb dX6_count_113 (by decide) ?_
            refine dk_ild (k := 346) hx hb hK (dk_at346 hW) (dkN_in (n := 54) (dkN_lit (x := 2) (2) rfl) rfl) dX6_count_114 ?_
            refine lv_topi (fun v27 ev27 => ?_)
            have ev27 : v27 = I0 346 2 := ev27
            exact W.iret (v := v27) hx hb hr (fun t ht hW9 => ⟨⟨v27, I0, rfl, ⟨hF, hO, ⟨trivial, trivial⟩⟩, dkW_eq ht hW⟩, hS.F ht⟩) hS.2.2 dX6_count_115
          ·
            have d28 : dkN [(-2147483648, -1), (5, 2147483647)] p0 := dkN_ne1 (4) d24 (dkN_lit (x := 4) (4) rfl) (dk_ne c25) rfl
            by_cases c29 : p0 = 5
            ·
              have qc29 : p0.toInt = 5 := by rw [c29]; rfl
              have d30 : dkN [(5, 5)] p0 := dkN_lit (5) qc29
              refine lv_tableIn (tgt := 116) hx hb dX6_count_3 (by rw [qc29]; decide) (by rw [qc29]; decide) (by rw [qc29]; rfl) (by decide) ?_
              refine lv_aload_n hx hb dX6_count_116 rfl (lv_at hl 1 rfl) ?_
              refine dk_get (k := 340) hx hb hts iX6_count_6 hown hK (dk_at340 hW) rfl 13 (by decide) (hts (.fieldLink RX6 25 "DogKingsModel" "now" "[I") (List.mem_of_getElem? (i := 1) rfl)) rfl dX6_count_117 ?_
              refine lv_iconst (v := 3) hx hb dX6_count_120 (by decide) ?_
              refine dk_ild (k := 346) hx hb hK (dk_at346 hW) (dkN_in (n := 54) (dkN_lit (x := 3) (3) rfl) rfl) dX6_count_121 ?_
              refine lv_topi (fun v31 ev31 => ?_)
              have ev31 : v31 = I0 346 3 := ev31
              exact W.iret (v := v31) hx hb hr (fun t ht hW9 => ⟨⟨v31, I0, rfl, ⟨hF, hO, ⟨trivial, trivial⟩⟩, dkW_eq ht hW⟩, hS.F ht⟩) hS.2.2 dX6_count_122
            ·
              have d32 : dkN [(-2147483648, -1), (6, 2147483647)] p0 := dkN_ne1 (5) d28 (dkN_lit (x := 5) (5) rfl) (dk_ne c29) rfl
              by_cases c33 : p0 = 6
              ·
                have qc33 : p0.toInt = 6 := by rw [c33]; rfl
                have d34 : dkN [(6, 6)] p0 := dkN_lit (6) qc33
                refine lv_tableIn (tgt := 123) hx hb dX6_count_3 (by rw [qc33]; decide) (by rw [qc33]; decide) (by rw [qc33]; rfl) (by decide) ?_
                refine lv_aload_n hx hb dX6_count_123 rfl (lv_at hl 1 rfl) ?_
                refine dk_get (k := 340) hx hb hts iX6_count_6 hown hK (dk_at340 hW) rfl 13 (by decide) (hts (.fieldLink RX6 25 "DogKingsModel" "now" "[I") (List.mem_of_getElem? (i := 1) rfl)) rfl dX6_count_124 ?_
                refine lv_iconst (v := 1) hx hb dX6_count_127 (by decide) ?_
                refine dk_ild (k := 346) hx hb hK (dk_at346 hW) (dkN_in (n := 54) (dkN_lit (x := 1) (1) rfl) rfl) dX6_count_128 ?_
                refine lv_topi (fun v35 ev35 => ?_)
                have ev35 : v35 = I0 346 1 := ev35
                have dv35 : dkN [(0, 30)] v35 := by rw [ev35]; exact (show dkN [(0, 30)] (I0 346 1) from (hO 346 1))
                exact W.iret (v := v35) hx hb hr (fun t ht hW9 => ⟨⟨v35, I0, rfl, ⟨hF, hO, ⟨trivial, trivial⟩⟩, dkW_eq ht hW⟩, hS.F ht⟩) hS.2.2 dX6_count_129
              ·
                have d36 : dkN [(-2147483648, -1), (7, 2147483647)] p0 := dkN_ne1 (6) d32 (dkN_lit (x := 6) (6) rfl) (dk_ne c33) rfl
                by_cases c37 : p0 = 7
                ·
                  have qc37 : p0.toInt = 7 := by rw [c37]; rfl
                  have d38 : dkN [(7, 7)] p0 := dkN_lit (7) qc37
                  refine lv_tableIn (tgt := 130) hx hb dX6_count_3 (by rw [qc37]; decide) (by rw [qc37]; decide) (by rw [qc37]; rfl) (by decide) ?_
                  refine lv_aload_n hx hb dX6_count_130 rfl (lv_at hl 1 rfl) ?_
                  refine dk_get (k := 340) hx hb hts iX6_count_6 hown hK (dk_at340 hW) rfl 17 (by decide) (hts (.fieldLink RX6 142 "DogKingsModel" "acts" "I") (List.mem_of_getElem? (i := 2) rfl)) rfl dX6_count_131 ?_
                  refine lv_topi (fun v39 ev39 => ?_)
                  have dv39 : dkN [(0, 24)] v39 := by rw [ev39]; exact (hO 340 17)
                  exact W.iret (v := v39) hx hb hr (fun t ht hW9 => ⟨⟨v39, I0, rfl, ⟨hF, hO, ⟨trivial, trivial⟩⟩, dkW_eq ht hW⟩, hS.F ht⟩) hS.2.2 dX6_count_134
                ·
                  have d40 : dkN [(-2147483648, -1), (8, 2147483647)] p0 := dkN_ne1 (7) d36 (dkN_lit (x := 7) (7) rfl) (dk_ne c37) rfl
                  by_cases c41 : p0 = 8
                  ·
                    have qc41 : p0.toInt = 8 := by rw [c41]; rfl
                    have d42 : dkN [(8, 8)] p0 := dkN_lit (8) qc41
                    refine lv_tableIn (tgt := 135) hx hb dX6_count_3 (by rw [qc41]; decide) (by rw [qc41]; decide) (by rw [qc41]; rfl) (by decide) ?_
                    refine lv_aload_n hx hb dX6_count_135 rfl (lv_at hl 1 rfl) ?_
                    refine dk_get (k := 340) hx hb hts iX6_count_6 hown hK (dk_at340 hW) rfl 6 (by decide) (hts (.fieldLink RX6 82 "DogKingsModel" "taped" "I") (List.mem_of_getElem? (i := 3) rfl)) rfl dX6_count_136 ?_
                    refine lv_topi (fun v43 ev43 => ?_)
                    have dv43 : dkN [(0, 90)] v43 := by rw [ev43]; exact (hO 340 6)
                    exact W.iret (v := v43) hx hb hr (fun t ht hW9 => ⟨⟨v43, I0, rfl, ⟨hF, hO, ⟨trivial, trivial⟩⟩, dkW_eq ht hW⟩, hS.F ht⟩) hS.2.2 dX6_count_139
                  ·
                    have d44 : dkN [(-2147483648, -1), (9, 2147483647)] p0 := dkN_ne1 (8) d40 (dkN_lit (x := 8) (8) rfl) (dk_ne c41) rfl
                    by_cases c45 : p0 = 9
                    ·
                      have qc45 : p0.toInt = 9 := by rw [c45]; rfl
                      have d46 : dkN [(9, 9)] p0 := dkN_lit (9) qc45
                      refine lv_tableIn (tgt := 140) hx hb dX6_count_3 (by rw [qc45]; decide) (by rw [qc45]; decide) (by rw [qc45]; rfl) (by decide) ?_
                      refine lv_aload_n hx hb dX6_count_140 rfl (lv_at hl 1 rfl) ?_
                      refine dk_Vi (As := []) (rest := []) ⟨hx, hb, hml, hown, hts⟩ (c_X6_reigns_0 l g z I0 hO) (cwV 0 hts gX6_count_X6_reigns rfl rfl rfl (by decide +kernel) ⟨Nat.le_of_ble_eq_true rfl, Nat.le_of_ble_eq_true rfl⟩) (dk_at340 hW) rfl hK hT hW hS rfl hl.1 rfl (Nat.le_of_ble_eq_true rfl) dX6_count_141 ⟨Nat.zero_le _, Nat.zero_le _⟩ (fun v47 I47 H47 L47 hp47 hW hS => ?_)
                      obtain ⟨hF47, hO, hc47⟩ := hp47
                      have hF := dkF_call hF hF47 rfl
                      obtain ⟨_, -⟩ := hc47
                      exact W.iret (v := v47) hx hb hr (fun t ht hW9 => ⟨⟨v47, I47, rfl, ⟨hF, hO, ⟨trivial, trivial⟩⟩, dkW_eq ht hW⟩, hS.F ht⟩) hS.2.2 dX6_count_144
                    ·
                      have d48 : dkN [(-2147483648, -1), (10, 2147483647)] p0 := dkN_ne1 (9) d44 (dkN_lit (x := 9) (9) rfl) (dk_ne c45) rfl
                      refine lv_tableOut (tgt := 145) hx hb dX6_count_3 (dkN_out d48 rfl) (by decide) ?_
                      refine lv_ldc (v := (-1000001)) hx hb hown (hts (.constant RX6 64 (-1000001)) (List.mem_of_getElem? (i := 4) rfl)) dX6_count_145 ?_
                      exact W.iret (v := (-1000001)) hx hb hr (fun t ht hW9 => ⟨⟨(-1000001), I0, rfl, ⟨hF, hO, ⟨trivial, trivial⟩⟩, dkW_eq ht hW⟩, hS.F ht⟩) hS.2.2 dX6_count_147
set_option maxHeartbeats 4000000 in
set_option maxRecDepth 100000 in
theorem c_X5_status_0 (l : Launch) (g : dkG) (z : Nat) (I0 : dkI)  (hO : dkOk I0) : Met l yX5_status wsX5_status (dkR 0) (dkPc g z [.ref (z + 0)] I0) (dkQi g z (fun r I1 => dkF [] I0 I1 ∧ dkOk I1 ∧ ((True ∧ True)))) 0 0 (dkA z) := by
  refine Met.ofW (cc := cX5_status) (maxL := 1) (ret := (some .int)) (by decide) rfl ?_
  intro p e s m args below meth c s₁ B hml hv
  obtain ⟨ha, hW, hK, hT⟩ := hv
  have hx := B.exec
  have hb := B.bytes
  have hr := B.returns
  have hts := atoms_spec (ws := wsX5_status) B.pre
  have hown : s.vm.findClass RX5 = some m.cls := findClass_of_methodNamed B.named
  have hlocks := B.notSynchronized
  have hS : va_S (dkA z) s.heap s.heap [] := va_S.rf
  have hF : dkF [] I0 I0 := dkF_rf _ _
  have hl := lv_entry ([.ref (z + 0)]) (n := 1) (Nat.le_of_ble_eq_true rfl)
  have hgo : entryFrame m args 1 = entryFrame m ([.ref (z + 0)] : List Value).toArray 1 := by rw [ha]
  rw [hgo, lg_entry_eq]
  generalize (lg_sl ([.ref (z + 0)]) ++ List.replicate (1 - (lg_sl ([.ref (z + 0)])).length) Slot.unset).toArray = ls at hl ⊢
  have hl : lv_has ls 1 [(0, .ref (z + 0))] := hl
  refine lv_aload_n hx hb dX5_status_0 rfl (lv_at hl 0 rfl) ?_
  refine dk_get (k := 0) hx hb hts iX5_status_5 hown hK (dk_at0 hW) rfl 3 (by decide) (hts (.fieldLink RX5 292 "DogKings" "finding" "I") (List.mem_of_getElem? (i := 1) rfl)) rfl dX5_status_1 ?_
  refine lv_topi (fun v1 ev1 => ?_)
  exact W.iret (v := v1) hx hb hr (fun t ht hW9 => ⟨⟨v1, I0, rfl, ⟨hF, hO, ⟨trivial, trivial⟩⟩, dkW_eq ht hW⟩, hS.F ht⟩) hS.2.2 dX5_status_4
set_option maxHeartbeats 4000000 in
set_option maxRecDepth 100000 in
theorem c_X6_status_0 (l : Launch) (g : dkG) (z : Nat) (I0 : dkI)  (hO : dkOk I0) : Met l yX6_status wsX6_status (dkR 0) (dkPc g z [.ref (z + 340)] I0) (dkQi g z (fun r I1 => dkF [] I0 I1 ∧ dkOk I1 ∧ ((True ∧ True)))) 0 0 (dkA z) := by
  refine Met.ofW (cc := cX6_status) (maxL := 1) (ret := (some .int)) (by decide) rfl ?_
  intro p e s m args below meth c s₁ B hml hv
  obtain ⟨ha, hW, hK, hT⟩ := hv
  have hx := B.exec
  have hb := B.bytes
  have hr := B.returns
  have hts := atoms_spec (ws := wsX6_status) B.pre
  have hown : s.vm.findClass RX6 = some m.cls := findClass_of_methodNamed B.named
  have hlocks := B.notSynchronized
  have hS : va_S (dkA z) s.heap s.heap [] := va_S.rf
  have hF : dkF [] I0 I0 := dkF_rf _ _
  have hl := lv_entry ([.ref (z + 340)]) (n := 1) (Nat.le_of_ble_eq_true rfl)
  have hgo : entryFrame m args 1 = entryFrame m ([.ref (z + 340)] : List Value).toArray 1 := by rw [ha]
  rw [hgo, lg_entry_eq]
  generalize (lg_sl ([.ref (z + 340)]) ++ List.replicate (1 - (lg_sl ([.ref (z + 340)])).length) Slot.unset).toArray = ls at hl ⊢
  have hl : lv_has ls 1 [(0, .ref (z + 340))] := hl
  refine lv_aload_n hx hb dX6_status_0 rfl (lv_at hl 0 rfl) ?_
  refine dk_get (k := 340) hx hb hts iX6_status_6 hown hK (dk_at340 hW) rfl 4 (by decide) (hts (.fieldLink RX6 51 "DogKingsModel" "status" "I") (List.mem_of_getElem? (i := 1) rfl)) rfl dX6_status_1 ?_
  refine lv_topi (fun v1 ev1 => ?_)
  exact W.iret (v := v1) hx hb hr (fun t ht hW9 => ⟨⟨v1, I0, rfl, ⟨hF, hO, ⟨trivial, trivial⟩⟩, dkW_eq ht hW⟩, hS.F ht⟩) hS.2.2 dX6_status_4
