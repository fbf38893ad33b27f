set_option maxHeartbeats 4000000 in
set_option maxRecDepth 100000 in
theorem c_X5_as_0 (l : Launch) (g : dkG) (z : Nat) (I0 : dkI) (p0 : Int32) (p1 : Int32)  (hO : dkOk I0) : Met l yX5_as wsX5_as (dkR 1) (dkPc g z [.ref (z + 0), .int p0, .int p1] I0) (dkQi g z (fun r I1 => dkF [(0, 0, 3, 3)] I0 I1 ∧ dkOk I1 ∧ ((dkN [(-1000013, -1000013)] r ∧ dkN [(0, 5)] p0 ∧ dkN [(1, 5)] p1 ∧ dkN [(3, 3)] (I1 0 3) ∧ dkN [(1, 6)] (I1 25 11) ∧ True) ∨ (dkN [(-1000001, -1000001)] r ∧ True) ∨ (dkN [(0, 5)] r ∧ dkN [(0, 5)] p0 ∧ dkN [(0, 5)] p1 ∧ dkN [(0, 0)] (I1 0 3) ∧ dkN [(1, 6)] (I1 25 11) ∧ True)))) 0 0 (dkA z) := by
  refine Met.ofW (cc := cX5_as) (maxL := 3) (ret := (some .int)) (by decide) rfl ?_
  intro p e s m args below meth c s₁ B hml hv
  obtain ⟨ha, hW, hK, hT⟩ := hv
  have hx := B.exec
  have hb := B.bytes
  have hr := B.returns
  have hts := atoms_spec (ws := wsX5_as) B.pre
  have hown : s.vm.findClass RX5 = some m.cls := findClass_of_methodNamed B.named
  have hlocks := B.notSynchronized
  have hS : va_S (dkA z) s.heap s.heap [] := va_S.rf
  have hF : dkF [(0, 0, 3, 3)] I0 I0 := dkF_rf _ _
  have hl := lv_entry ([.ref (z + 0), .int p0, .int p1]) (n := 3) (Nat.le_of_ble_eq_true rfl)
  have hgo : entryFrame m args 3 = entryFrame m ([.ref (z + 0), .int p0, .int p1] : List Value).toArray 3 := by rw [ha]
  rw [hgo, lg_entry_eq]
  generalize (lg_sl ([.ref (z + 0), .int p0, .int p1]) ++ List.replicate (3 - (lg_sl ([.ref (z + 0), .int p0, .int p1])).length) Slot.unset).toArray = ls at hl ⊢
  have hl : lv_has ls 3 [(0, .ref (z + 0)), (1, .int p0), (2, .int p1)] := hl
  refine lv_aload_n hx hb dX5_as_0 rfl (lv_at hl 0 rfl) ?_
  refine lv_iload_n hx hb dX5_as_1 rfl (lv_at hl 1 rfl) ?_
  refine dk_Vi (As := [.int p0]) (rest := []) ⟨hx, hb, hml, hown, hts⟩ (c_X5_isDog_0 l g z I0 p0 hO) (cwV 1 hts gX5_as_X5_isDog rfl rfl rfl (by decide +kernel) ⟨Nat.le_of_ble_eq_true rfl, Nat.le_of_ble_eq_true rfl⟩) (dk_at0 hW) rfl hK hT hW hS rfl hl.1 rfl (Nat.le_of_ble_eq_true rfl) dX5_as_2 ⟨Nat.zero_le _, Nat.zero_le _⟩ (fun v1 I1 H1 L1 hp1 hW hS => ?_)
  obtain ⟨hF1, hO, hc1⟩ := hp1
  have hF := dkF_call hF hF1 rfl
  rcases hc1 with ⟨dv1, -⟩ | hc1
  ·
    refine lv_if_eq (tgt := 16) hx hb dX5_as_5 (by decide) (fun c2 => ?_) (fun c2 => ?_)
    ·
      refine lv_ldc (v := (-1000001)) hx hb hown (hts (.constant RX5 70 (-1000001)) (List.mem_of_getElem? (i := 1) rfl)) dX5_as_16 ?_
      exact W.iret (v := (-1000001)) hx hb hr (fun t ht hW9 => ⟨⟨(-1000001), I1, rfl, ⟨hF, hO, Or.inr (Or.inl ⟨dkN_sub (dkN_lit (x := (-1000001)) (-1000001) rfl) rfl, trivial⟩)⟩, dkW_eq ht hW⟩, hS.F ht⟩) hS.2.2 dX5_as_18
    ·
      exact (dkN_nil (show dkN [] v1 from dkN_ne1 (0) dv1 (dkN_lit (x := 0) (0) rfl) (dk_ne c2) rfl)).elim
  ·
    obtain ⟨dv1, a1_0, f1_25_11, -⟩ := hc1
    have d3 : dkN [(0, 5)] p0 := dkN_eq1 (dkN_top p0) a1_0 rfl rfl
    refine lv_if_eq (tgt := 16) hx hb dX5_as_5 (by decide) (fun c4 => ?_) (fun c4 => ?_)
    ·
      exact (dkN_nil (show dkN [] v1 from dkN_eq1 dv1 (dkN_lit (x := 0) (0) rfl) (congrArg Int32.toInt c4) rfl)).elim
    ·
      refine lv_iload_n hx hb dX5_as_8 rfl (lv_at hl 2 rfl) ?_
      refine lv_iconst (v := 5) hx hb dX5_as_9 (by decide) ?_
      refine dk_Si (As := [.int p1, .int 5]) (rest := []) ⟨hx, hb, hml, hown, hts⟩ (c_X5_isUpTo_7 l g z I1 p1 5 (dkN_lit (x := 5) (5) rfl) hO) (va_cwS 2 hts gX5_as_X5_isUpTo rfl rfl rfl (by decide +kernel) ⟨Nat.le_of_ble_eq_true rfl, Nat.le_of_ble_eq_true rfl⟩) hK hT hW hS rfl hl.1 rfl (Nat.le_of_ble_eq_true rfl) dX5_as_10 ⟨Nat.zero_le _, Nat.zero_le _⟩ (fun v5 I5 H5 L5 hp5 hW hS => ?_)
      obtain ⟨hF5, hO, hc5⟩ := hp5
      have hF := dkF_call hF hF5 rfl
      rcases hc5 with ⟨dv5, a5_0, -⟩ | hc5
      ·
        have d6 : dkN [(-2147483648, -1), (6, 2147483647)] p1 := dkN_eq1 (dkN_top p1) a5_0 rfl rfl
        refine lv_if_ne (tgt := 19) hx hb dX5_as_13 (by decide) (fun c7 => ?_) (fun c7 => ?_)
        ·
          exact (dkN_nil (show dkN [] v5 from dkN_ne1 (0) dv5 (dkN_lit (x := 0) (0) rfl) (dk_ne c7) rfl)).elim
        ·
          refine lv_ldc (v := (-1000001)) hx hb hown (hts (.constant RX5 70 (-1000001)) (List.mem_of_getElem? (i := 1) rfl)) dX5_as_16 ?_
          exact W.iret (v := (-1000001)) hx hb hr (fun t ht hW9 => ⟨⟨(-1000001), I5, rfl, ⟨hF, hO, Or.inr (Or.inl ⟨dkN_sub (dkN_lit (x := (-1000001)) (-1000001) rfl) rfl, trivial⟩)⟩, dkW_eq ht hW⟩, hS.F ht⟩) hS.2.2 dX5_as_18
      ·
        obtain ⟨dv5, a5_0, -⟩ := hc5
        have d8 : dkN [(0, 5)] p1 := dkN_eq1 (dkN_top p1) a5_0 rfl rfl
        refine lv_if_ne (tgt := 19) hx hb dX5_as_13 (by decide) (fun c9 => ?_) (fun c9 => ?_)
        ·
          refine lv_aload_n hx hb dX5_as_19 rfl (lv_at hl 0 rfl) ?_
          refine dk_get (k := 0) hx hb hts iX5_as_5 hown hK (dk_at0 hW) rfl 5 (by decide) (hts (.fieldLink RX5 31 "DogKings" "now" "LDogKings$Town;") (List.mem_of_getElem? (i := 2) rfl)) rfl dX5_as_20 ?_
          refine dk_get (k := 25) hx hb hts iX5_as_4 hown hK (dk_at25 hW) rfl 12 (by decide) (hts (.fieldLink RX5 259 "DogKings$Town" "sort" "[I") (List.mem_of_getElem? (i := 3) rfl)) rfl dX5_as_23 ?_
          refine lv_iload_n hx hb dX5_as_26 rfl (lv_at hl 1 rfl) ?_
          refine dk_ild (k := 32) hx hb hK (dk_at32 hW) (dkN_in (n := 6) d3 rfl) dX5_as_27 ?_
          refine lv_topi (fun v10 ev10 => ?_)
          refine lv_iload_n hx hb dX5_as_28 rfl (lv_at hl 2 rfl) ?_
          refine dk_Si (As := [.int v10, .int p1]) (rest := []) ⟨hx, hb, hml, hown, hts⟩ (c_X5_isA_2 l g z I5 v10 p1 d8 hO) (va_cwS 2 hts gX5_as_X5_isA rfl rfl rfl (by decide +kernel) ⟨Nat.le_of_ble_eq_true rfl, Nat.le_of_ble_eq_true rfl⟩) hK hT hW hS rfl hl.1 rfl (Nat.le_of_ble_eq_true rfl) dX5_as_29 ⟨Nat.zero_le _, Nat.zero_le _⟩ (fun v11 I11 H11 L11 hp11 hW hS => ?_)
          obtain ⟨hF11, hO, hc11⟩ := hp11
          have hF := dkF_call hF hF11 rfl
          rcases hc11 with ⟨dv11, a11_1, -⟩ | hc11
          ·
            have d12 : dkN [(1, 5)] p1 := dkN_eq1 d8 a11_1 rfl rfl
            refine lv_if_eq (tgt := 43) hx hb dX5_as_32 (by decide) (fun c13 => ?_) (fun c13 => ?_)
            ·
              refine lv_aload_n hx hb dX5_as_43 rfl (lv_at hl 0 rfl) ?_
              refine lv_iconst (v := 3) hx hb dX5_as_44 (by decide) ?_
              refine dk_Vi (As := [.int 3]) (rest := []) ⟨hx, hb, hml, hown, hts⟩ (c_X5_found_4 l g z I11 3 (dkN_lit (x := 3) (3) rfl) hO) (cwV 1 hts gX5_as_X5_found rfl rfl rfl (by decide +kernel) ⟨Nat.le_of_ble_eq_true rfl, Nat.le_of_ble_eq_true rfl⟩) (dk_at0 hW) rfl hK hT hW hS rfl hl.1 rfl (Nat.le_of_ble_eq_true rfl) dX5_as_45 ⟨Nat.zero_le _, Nat.zero_le _⟩ (fun v14 I14 H14 L14 hp14 hW hS => ?_)
              obtain ⟨hF14, hO, hc14⟩ := hp14
              have hF := dkF_call hF hF14 rfl
              obtain ⟨dv14, f14_0_3, -⟩ := hc14
              exact W.iret (v := v14) hx hb hr (fun t ht hW9 => ⟨⟨v14, I14, rfl, ⟨hF, hO, Or.inl ⟨dkN_sub dv14 rfl, dkN_sub d3 rfl, dkN_sub d12 rfl, (show dkN [(3, 3)] (I14 0 3) from dkN_sub f14_0_3 rfl), (show dkN [(1, 6)] (I14 25 11) from dkN_sub (by rw [hF14 25 11 rfl]; exact (by rw [hF11 25 11 rfl]; exact (by rw [hF5 25 11 rfl]; exact f1_25_11))) rfl), trivial⟩⟩, dkW_eq ht hW⟩, hS.F ht⟩) hS.2.2 dX5_as_48
            ·
              exact (dkN_nil (show dkN [] v11 from dkN_ne1 (0) dv11 (dkN_lit (x := 0) (0) rfl) (dk_ne c13) rfl)).elim
          ·
            obtain ⟨dv11, -⟩ := hc11
            refine lv_if_eq (tgt := 43) hx hb dX5_as_32 (by decide) (fun c15 => ?_) (fun c15 => ?_)
            ·
              exact (dkN_nil (show dkN [] v11 from dkN_eq1 dv11 (dkN_lit (x := 0) (0) rfl) (congrArg Int32.toInt c15) rfl)).elim
            ·
              refine lv_aload_n hx hb dX5_as_35 rfl (lv_at hl 0 rfl) ?_
              refine lv_iload_n hx hb dX5_as_36 rfl (lv_at hl 1 rfl) ?_
              refine dk_Vi (As := [.int p0]) (rest := []) ⟨hx, hb, hml, hown, hts⟩ (c_X5_nothingFound_0 l g z I11 p0 hO) (cwV 1 hts gX5_as_X5_nothingFound rfl rfl rfl (by decide +kernel) ⟨Nat.le_of_ble_eq_true rfl, Nat.le_of_ble_eq_true rfl⟩) (dk_at0 hW) rfl hK hT hW hS rfl hl.1 rfl (Nat.le_of_ble_eq_true rfl) dX5_as_37 ⟨Nat.zero_le _, Nat.zero_le _⟩ (fun v16 I16 H16 L16 hp16 hW hS => ?_)
              obtain ⟨hF16, hO, ev16, hc16⟩ := hp16
              have hF := dkF_call hF hF16 rfl
              obtain ⟨_, f16_0_3, -⟩ := hc16
              rw [ev16]
              refine lv_goto (tgt := 48) hx hb dX5_as_40 (by decide) ?_
              exact W.iret (v := p0) hx hb hr (fun t ht hW9 => ⟨⟨p0, I16, rfl, ⟨hF, hO, Or.inr (Or.inr (⟨dkN_sub d3 rfl, dkN_sub d3 rfl, dkN_sub d8 rfl, (show dkN [(0, 0)] (I16 0 3) from dkN_sub f16_0_3 rfl), (show dkN [(1, 6)] (I16 25 11) from dkN_sub (by rw [hF16 25 11 rfl]; exact (by rw [hF11 25 11 rfl]; exact (by rw [hF5 25 11 rfl]; exact f1_25_11))) rfl), trivial⟩))⟩, dkW_eq ht hW⟩, hS.F ht⟩) hS.2.2 dX5_as_48
        ·
          exact (dkN_nil (show dkN [] v5 from dkN_eq1 dv5 (dkN_lit (x := 0) (0) rfl) (congrArg Int32.toInt c9) rfl)).elim
set_option maxHeartbeats 4000000 in
set_option maxRecDepth 100000 in
theorem c_X6_in_20 (l : Launch) (g : dkG) (z : Nat) (I0 : dkI) (p0 : Int32) (p1 : Int32) (p2 : Int32) (dp1 : dkN [(0, 0)] p1) (dp2 : dkN [(5, 5)] p2)  (hO : dkOk I0) : Met l yX6_in wsX6_in (dkR 0) (dkPc g z [.int p0, .int p1, .int p2] I0) (dkQi g z (fun r I1 => dkF [] I0 I1 ∧ dkOk I1 ∧ ((dkN [(0, 0)] r ∧ dkN [(-2147483648, -1), (6, 2147483647)] p0 ∧ True) ∨ (dkN [(1, 1)] r ∧ dkN [(0, 5)] p0 ∧ True)))) 0 0 (dkA z) := by
  refine Met.ofW (cc := cX6_in) (maxL := 3) (ret := (some .boolean)) (by decide) rfl ?_
  intro p e s m args below meth c s₁ B hml hv
  obtain ⟨ha, hW, hK, hT⟩ := hv
  have hx := B.exec
  have hb := B.bytes
  have hr := B.returns
  have hts := atoms_spec (ws := wsX6_in) B.pre
  have hown : s.vm.findClass RX6 = some m.cls := findClass_of_methodNamed B.named
  have hlocks := B.notSynchronized
  have hS : va_S (dkA z) s.heap s.heap [] := va_S.rf
  have hF : dkF [] I0 I0 := dkF_rf _ _
  have hl := lv_entry ([.int p0, .int p1, .int p2]) (n := 3) (Nat.le_of_ble_eq_true rfl)
  have hgo : entryFrame m args 3 = entryFrame m ([.int p0, .int p1, .int p2] : List Value).toArray 3 := by rw [ha]
  rw [hgo, lg_entry_eq]
  generalize (lg_sl ([.int p0, .int p1, .int p2]) ++ List.replicate (3 - (lg_sl ([.int p0, .int p1, .int p2])).length) Slot.unset).toArray = ls at hl ⊢
  have hl : lv_has ls 3 [(0, .int p0), (1, .int p1), (2, .int p2)] := hl
  refine lv_iload_n hx hb dX6_in_0 rfl (lv_at hl 0 rfl) ?_
  refine lv_iload_n hx hb dX6_in_1 rfl (lv_at hl 1 rfl) ?_
  refine lv_icmp_lt (tgt := 14) hx hb dX6_in_2 (by decide) (fun c1 => ?_) (fun c1 => ?_)
  ·
    have d2 : dkN [(-2147483648, -1)] p0 := dkN_le1 1 (dkN_top p0) dp1 (dkc_lt c1) rfl
    refine lv_iconst (v := 0) hx hb dX6_in_14 (by decide) ?_
    exact W.zret (v := 0) (ty := .boolean) hx hb hr rfl (fun t ht hW9 => ⟨⟨0, I0, rfl, ⟨hF, hO, Or.inl ⟨dkN_sub (dkN_lit (x := 0) (0) rfl) rfl, dkN_sub d2 rfl, trivial⟩⟩, dkW_eq ht hW⟩, hS.F ht⟩) hS.2.2 dX6_in_15
  ·
    have d3 : dkN [(0, 2147483647)] p0 := dkN_le2 0 dp1 (dkN_top p0) (dkc_nlt c1) rfl
    refine lv_iload_n hx hb dX6_in_5 rfl (lv_at hl 0 rfl) ?_
    refine lv_iload_n hx hb dX6_in_6 rfl (lv_at hl 2 rfl) ?_
    refine lv_icmp_gt (tgt := 14) hx hb dX6_in_7 (by decide) (fun c4 => ?_) (fun c4 => ?_)
    ·
      have d5 : dkN [(6, 2147483647)] p0 := dkN_le2 1 dp2 d3 (dkc_lt c4) rfl
      refine lv_iconst (v := 0) hx hb dX6_in_14 (by decide) ?_
      exact W.zret (v := 0) (ty := .boolean) hx hb hr rfl (fun t ht hW9 => ⟨⟨0, I0, rfl, ⟨hF, hO, Or.inl ⟨dkN_sub (dkN_lit (x := 0) (0) rfl) rfl, dkN_sub d5 rfl, trivial⟩⟩, dkW_eq ht hW⟩, hS.F ht⟩) hS.2.2 dX6_in_15
    ·
      have d6 : dkN [(0, 5)] p0 := dkN_le1 0 d3 dp2 (dkc_nlt c4) rfl
      refine lv_iconst (v := 1) hx hb dX6_in_10 (by decide) ?_
      refine lv_goto (tgt := 15) hx hb dX6_in_11 (by decide) ?_
      exact W.zret (v := 1) (ty := .boolean) hx hb hr rfl (fun t ht hW9 => ⟨⟨1, I0, rfl, ⟨hF, hO, Or.inr (⟨dkN_sub (dkN_lit (x := 1) (1) rfl) rfl, dkN_sub d6 rfl, trivial⟩)⟩, dkW_eq ht hW⟩, hS.F ht⟩) hS.2.2 dX6_in_15
set_option maxHeartbeats 4000000 in
set_option maxRecDepth 100000 in
theorem c_X6_found_4 (l : Launch) (g : dkG) (z : Nat) (I0 : dkI) (p0 : Int32) (dp0 : dkN [(3, 3)] p0)  (hO : dkOk I0) : Met l yX6_found wsX6_found (dkR 0) (dkPc g z [.ref (z + 340), .int p0] I0) (dkQi g z (fun r I1 => dkF [(340, 340, 4, 4)] I0 I1 ∧ dkOk I1 ∧ ((dkN [(-1000013, -1000013)] r ∧ dkN [(3, 3)] (I1 340 4) ∧ True)))) 0 0 (dkA z) := by
  refine Met.ofW (cc := cX6_found) (maxL := 2) (ret := (some .int)) (by decide) rfl ?_
  intro p e s m args below meth c s₁ B hml hv
  obtain ⟨ha, hW, hK, hT⟩ := hv
  have hx := B.exec
  have hb := B.bytes
  have hr := B.returns
  have hts := atoms_spec (ws := wsX6_found) B.pre
  have hown : s.vm.findClass RX6 = some m.cls := findClass_of_methodNamed B.named
  have hlocks := B.notSynchronized
  have hS : va_S (dkA z) s.heap s.heap [] := va_S.rf
  have hF : dkF [(340, 340, 4, 4)] I0 I0 := dkF_rf _ _
  have hl := lv_entry ([.ref (z + 340), .int p0]) (n := 2) (Nat.le_of_ble_eq_true rfl)
  have hgo : entryFrame m args 2 = entryFrame m ([.ref (z + 340), .int p0] : List Value).toArray 2 := by rw [ha]
  rw [hgo, lg_entry_eq]
  generalize (lg_sl ([.ref (z + 340), .int p0]) ++ List.replicate (2 - (lg_sl ([.ref (z + 340), .int p0])).length) Slot.unset).toArray = ls at hl ⊢
  have hl : lv_has ls 2 [(0, .ref (z + 340)), (1, .int p0)] := hl
  refine lv_aload_n hx hb dX6_found_0 rfl (lv_at hl 0 rfl) ?_
  refine lv_iload_n hx hb dX6_found_1 rfl (lv_at hl 1 rfl) ?_
  refine dk_put (k := 340) hx hb hts iX6_found_6 tyX6 tyX6_ok nmX6 hown hK hW (dk_at340 hW) hS rfl 4 (by decide) (hts (.fieldLink RX6 51 "DogKingsModel" "status" "I") (List.mem_of_getElem? (i := 1) rfl)) rfl rfl (Nat.le_of_ble_eq_true rfl) rfl dX6_found_2 (fun I1 H1 L1 eI1 hW hS => ?_)
  have eI1 : I1 = dkU I0 340 4 p0 := eI1
  have hO := dkO_set hO eI1 (dkN_sub dp0 rfl)
  have hF := dkF_set hF eI1 rfl
  refine lv_ldc (v := (-1000010)) hx hb hown (hts (.constant RX6 55 (-1000010)) (List.mem_of_getElem? (i := 2) rfl)) dX6_found_5 ?_
  refine lv_iload_n hx hb dX6_found_7 rfl (lv_at hl 1 rfl) ?_
  refine lv_isub hx hb dX6_found_8 ?_
  refine lv_topi (fun v2 ev2 => ?_)
  have dv2 : dkN [(-1000013, -1000013)] v2 := by rw [ev2]; exact dkN_subt (dkN_lit (x := (-1000010)) (-1000010) rfl) dp0 rfl
  exact W.iret (v := v2) hx hb hr (fun t ht hW9 => ⟨⟨v2, I1, rfl, ⟨hF, hO, ⟨dkN_sub dv2 rfl, (show dkN [(3, 3)] (I1 340 4) from dkN_sub (by rw [eI1, dkU_ss]; exact dp0) rfl), trivial⟩⟩, dkW_eq ht hW⟩, hS.F ht⟩) hS.2.2 dX6_found_9
set_option maxHeartbeats 4000000 in
set_option maxRecDepth 100000 in
theorem c_X6_as_0 (l : Launch) (g : dkG) (z : Nat) (I0 : dkI) (p0 : Int32) (p1 : Int32)  (hO : dkOk I0) : Met l yX6_as wsX6_as (dkR 2) (dkPc g z [.ref (z + 340), .int p0, .int p1] I0) (dkQi g z (fun r I1 => dkF [(340, 340, 4, 4)] I0 I1 ∧ dkOk I1 ∧ ((dkN [(-1000013, -1000013)] r ∧ dkN [(0, 5)] p0 ∧ dkN [(0, 5)] p1 ∧ dkN [(3, 3)] (I1 340 4) ∧ True) ∨ (dkN [(-1000001, -1000001)] r ∧ True) ∨ (dkN [(0, 5)] r ∧ dkN [(0, 5)] p0 ∧ dkN [(0, 5)] p1 ∧ dkN [(0, 0)] (I1 340 4) ∧ True)))) 0 0 (dkA z) := by
  refine Met.ofW (cc := cX6_as) (maxL := 5) (ret := (some .int)) (by decide) rfl ?_
  intro p e s m args below meth c s₁ B hml hv
  obtain ⟨ha, hW, hK, hT⟩ := hv
  have hx := B.exec
  have hb := B.bytes
  have hr := B.returns
  have hts := atoms_spec (ws := wsX6_as) B.pre
  have hown : s.vm.findClass RX6 = some m.cls := findClass_of_methodNamed B.named
  have hlocks := B.notSynchronized
  have hS : va_S (dkA z) s.heap s.heap [] := va_S.rf
  have hF : dkF [(340, 340, 4, 4)] I0 I0 := dkF_rf _ _
  have hl := lv_entry ([.ref (z + 340), .int p0, .int p1]) (n := 5) (Nat.le_of_ble_eq_true rfl)
  have hgo : entryFrame m args 5 = entryFrame m ([.ref (z + 340), .int p0, .int p1] : List Value).toArray 5 := by rw [ha]
  rw [hgo, lg_entry_eq]
  generalize (lg_sl ([.ref (z + 340), .int p0, .int p1]) ++ List.replicate (5 - (lg_sl ([.ref (z + 340), .int p0, .int p1])).length) Slot.unset).toArray = ls at hl ⊢
  have hl : lv_has ls 5 [(0, .ref (z + 340)), (1, .int p0), (2, .int p1)] := hl
  have C60 : ∀ (I : dkI) (H : Heap) (locs : List Loc) (ls : Array Slot) (x60_3 : Int32) (x60_s0 : Int32), dkW g z I H → va_S (dkA z) s.heap H locs → dkF [(340, 340, 4, 4)] I0 I → dkOk I → dkN [(0, 1)] x60_s0 → dkN [(0, 5)] p0 → dkN [(0, 5)] p1 → lv_has ls 5 [(0, .ref (z + 340)), (1, .int p0), (2, .int p1), (3, .int x60_3)] → W p l e (headSpec wsX6_as (dkR 2)).room s m args below meth c H locs 0 0 (MQ below (dkQi g z (fun r I1 => dkF [(340, 340, 4, 4)] I0 I1 ∧ dkOk I1 ∧ ((dkN [(-1000013, -1000013)] r ∧ dkN [(0, 5)] p0 ∧ dkN [(0, 5)] p1 ∧ dkN [(3, 3)] (I1 340 4) ∧ True) ∨ (dkN [(-1000001, -1000001)] r ∧ True) ∨ (dkN [(0, 5)] r ∧ dkN [(0, 5)] p0 ∧ dkN [(0, 5)] p1 ∧ dkN [(0, 0)] (I1 340 4) ∧ True)))) args s 0 0 (dkA z)) (F0 m 60 ls [.int x60_s0]) := by
    intro I60_ H locs ls x60_3 x60_s0 hW hS hF_60 hO k60_1 r60_0 r60_1 hl
    have hF := hF_60
    refine lv_istore (lv' := [(4, .int x60_s0), (0, .ref (z + 340)), (1, .int p0), (2, .int p1), (3, .int x60_3)]) hx hb dX6_as_60 hl (by decide) rfl (fun ls hl => ?_)
    refine lv_iload hx hb dX6_as_62 (lv_at hl 0 rfl) ?_
    refine lv_if_eq (tgt := 75) hx hb dX6_as_64 (by decide) (fun c1 => ?_) (fun c1 => ?_)
    ·
      have d2 : dkN [(0, 0)] x60_s0 := dkN_eq1 k60_1 (dkN_lit (x := 0) (0) rfl) (congrArg Int32.toInt c1) rfl
      refine lv_aload_n hx hb dX6_as_75 rfl (lv_at hl 1 rfl) ?_
      refine lv_iconst (v := 3) hx hb dX6_as_76 (by decide) ?_
      refine dk_Vi (As := [.int 3]) (rest := []) ⟨hx, hb, hml, hown, hts⟩ (c_X6_found_4 l g z I60_ 3 (dkN_lit (x := 3) (3) rfl) hO) (cwV 1 hts gX6_as_X6_found rfl rfl rfl (by decide +kernel) ⟨Nat.le_of_ble_eq_true rfl, Nat.le_of_ble_eq_true rfl⟩) (dk_at340 hW) rfl hK hT hW hS rfl hl.1 rfl (Nat.le_of_ble_eq_true rfl) dX6_as_77 ⟨Nat.zero_le _, Nat.zero_le _⟩ (fun v3 I3 H3 L3 hp3 hW hS => ?_)
      obtain ⟨hF3, hO, hc3⟩ := hp3
      have hF := dkF_call hF hF3 rfl
      obtain ⟨dv3, f3_340_4, -⟩ := hc3
      exact W.iret (v := v3) hx hb hr (fun t ht hW9 => ⟨⟨v3, I3, rfl, ⟨hF, hO, Or.inl ⟨dkN_sub dv3 rfl, dkN_sub r60_0 rfl, dkN_sub r60_1 rfl, (show dkN [(3, 3)] (I3 340 4) from dkN_sub f3_340_4 rfl), trivial⟩⟩, dkW_eq ht hW⟩, hS.F ht⟩) hS.2.2 dX6_as_80
    ·
      have d4 : dkN [(1, 1)] x60_s0 := dkN_ne1 (0) k60_1 (dkN_lit (x := 0) (0) rfl) (dk_ne c1) rfl
      refine lv_aload_n hx hb dX6_as_67 rfl (lv_at hl 1 rfl) ?_
      refine lv_iload_n hx hb dX6_as_68 rfl (lv_at hl 2 rfl) ?_
      refine dk_Vi (As := [.int p0]) (rest := []) ⟨hx, hb, hml, hown, hts⟩ (c_X6_well_0 l g z I60_ p0 hO) (cwV 1 hts gX6_as_X6_well rfl rfl rfl (by decide +kernel) ⟨Nat.le_of_ble_eq_true rfl, Nat.le_of_ble_eq_true rfl⟩) (dk_at340 hW) rfl hK hT hW hS rfl hl.1 rfl (Nat.le_of_ble_eq_true rfl) dX6_as_69 ⟨Nat.zero_le _, Nat.zero_le _⟩ (fun v5 I5 H5 L5 hp5 hW hS => ?_)
      obtain ⟨hF5, hO, ev5, hc5⟩ := hp5
      have hF := dkF_call hF hF5 rfl
      obtain ⟨_, f5_340_4, -⟩ := hc5
      rw [ev5]
      refine lv_goto (tgt := 80) hx hb dX6_as_72 (by decide) ?_
      exact W.iret (v := p0) hx hb hr (fun t ht hW9 => ⟨⟨p0, I5, rfl, ⟨hF, hO, Or.inr (Or.inr (⟨dkN_sub r60_0 rfl, dkN_sub r60_0 rfl, dkN_sub r60_1 rfl, (show dkN [(0, 0)] (I5 340 4) from dkN_sub f5_340_4 rfl), trivial⟩))⟩, dkW_eq ht hW⟩, hS.F ht⟩) hS.2.2 dX6_as_80
  have C55 : ∀ (I : dkI) (H : Heap) (locs : List Loc) (ls : Array Slot) (x55_3 : Int32), dkW g z I H → va_S (dkA z) s.heap H locs → dkF [(340, 340, 4, 4)] I0 I → dkOk I → dkN [(0, 5)] p0 → dkN [(0, 5)] p1 → lv_has ls 5 [(0, .ref (z + 340)), (1, .int p0), (2, .int p1), (3, .int x55_3)] → W p l e (headSpec wsX6_as (dkR 2)).room s m args below meth c H locs 0 0 (MQ below (dkQi g z (fun r I1 => dkF [(340, 340, 4, 4)] I0 I1 ∧ dkOk I1 ∧ ((dkN [(-1000013, -1000013)] r ∧ dkN [(0, 5)] p0 ∧ dkN [(0, 5)] p1 ∧ dkN [(3, 3)] (I1 340 4) ∧ True) ∨ (dkN [(-1000001, -1000001)] r ∧ True) ∨ (dkN [(0, 5)] r ∧ dkN [(0, 5)] p0 ∧ dkN [(0, 5)] p1 ∧ dkN [(0, 0)] (I1 340 4) ∧ True)))) args s 0 0 (dkA z)) (F0 m 55 ls []) := by
    intro I55_ H locs ls x55_3 hW hS hF_55 hO r55_0 r55_1 hl
    have hF := hF_55
    refine lv_iconst (v := 1) hx hb dX6_as_55 (by decide) ?_
    refine lv_goto (tgt := 60) hx hb dX6_as_56 (by decide) ?_
    exact C60 I55_ _ _ ls x55_3 1 hW hS hF hO (dkN_sub (dkN_lit (x := 1) (1) rfl) rfl) (dkN_sub r55_0 rfl) (dkN_sub r55_1 rfl) (lv_sub hl [0, 1, 2, 3] rfl)
  have C59 : ∀ (I : dkI) (H : Heap) (locs : List Loc) (ls : Array Slot) (x59_3 : Int32), dkW g z I H → va_S (dkA z) s.heap H locs → dkF [(340, 340, 4, 4)] I0 I → dkOk I → dkN [(0, 5)] p0 → dkN [(1, 5)] p1 → lv_has ls 5 [(0, .ref (z + 340)), (1, .int p0), (2, .int p1), (3, .int x59_3)] → W p l e (headSpec wsX6_as (dkR 2)).room s m args below meth c H locs 0 0 (MQ below (dkQi g z (fun r I1 => dkF [(340, 340, 4, 4)] I0 I1 ∧ dkOk I1 ∧ ((dkN [(-1000013, -1000013)] r ∧ dkN [(0, 5)] p0 ∧ dkN [(0, 5)] p1 ∧ dkN [(3, 3)] (I1 340 4) ∧ True) ∨ (dkN [(-1000001, -1000001)] r ∧ True) ∨ (dkN [(0, 5)] r ∧ dkN [(0, 5)] p0 ∧ dkN [(0, 5)] p1 ∧ dkN [(0, 0)] (I1 340 4) ∧ True)))) args s 0 0 (dkA z)) (F0 m 59 ls []) := by
    intro I59_ H locs ls x59_3 hW hS hF_59 hO r59_0 r59_1 hl
    have hF := hF_59
    refine lv_iconst (v := 0) hx hb dX6_as_59 (by decide) ?_
    exact C60 I59_ _ _ ls x59_3 0 hW hS hF hO (dkN_sub (dkN_lit (x := 0) (0) rfl) rfl) (dkN_sub r59_0 rfl) (dkN_sub r59_1 rfl) (lv_sub hl [0, 1, 2, 3] rfl)
  have C45 : ∀ (I : dkI) (H : Heap) (locs : List Loc) (ls : Array Slot) (x45_3 : Int32), dkW g z I H → va_S (dkA z) s.heap H locs → dkF [(340, 340, 4, 4)] I0 I → dkOk I → dkN [(0, 5)] p0 → dkN [(1, 5)] p1 → lv_has ls 5 [(0, .ref (z + 340)), (1, .int p0), (2, .int p1), (3, .int x45_3)] → W p l e (headSpec wsX6_as (dkR 2)).room s m args below meth c H locs 0 0 (MQ below (dkQi g z (fun r I1 => dkF [(340, 340, 4, 4)] I0 I1 ∧ dkOk I1 ∧ ((dkN [(-1000013, -1000013)] r ∧ dkN [(0, 5)] p0 ∧ dkN [(0, 5)] p1 ∧ dkN [(3, 3)] (I1 340 4) ∧ True) ∨ (dkN [(-1000001, -1000001)] r ∧ True) ∨ (dkN [(0, 5)] r ∧ dkN [(0, 5)] p0 ∧ dkN [(0, 5)] p1 ∧ dkN [(0, 0)] (I1 340 4) ∧ True)))) args s 0 0 (dkA z)) (F0 m 45 ls []) := by
    intro I45_ H locs ls x45_3 hW hS hF_45 hO r45_0 r45_1 hl
    have hF := hF_45
    refine lv_iload_n hx hb dX6_as_45 rfl (lv_at hl 2 rfl) ?_
    refine lv_iconst (v := 4) hx hb dX6_as_46 (by decide) ?_
    refine lv_icmp_ne (tgt := 59) hx hb dX6_as_47 (by decide) (fun c6 => ?_) (fun c6 => ?_)
    ·
      have d7 : dkN [(1, 3), (5, 5)] p1 := dkN_ne1 (4) r45_1 (dkN_lit (x := 4) (4) rfl) (dk_ne c6) rfl
      exact C59 I45_ _ _ ls x45_3 hW hS hF hO (dkN_sub r45_0 rfl) (dkN_sub d7 rfl) (lv_sub hl [0, 1, 2, 3] rfl)
    ·
      have d8 : dkN [(4, 4)] p1 := dkN_eq1 r45_1 (dkN_lit (x := 4) (4) rfl) (congrArg Int32.toInt c6) rfl
      refine lv_iload_n hx hb dX6_as_50 rfl (lv_at hl 3 rfl) ?_
      refine lv_iconst (v := 5) hx hb dX6_as_51 (by decide) ?_
      refine lv_icmp_ne (tgt := 59) hx hb dX6_as_52 (by decide) (fun c9 => ?_) (fun c9 => ?_)
      ·
        have d10 : dkN [(-2147483648, 4), (6, 2147483647)] x45_3 := dkN_ne1 (5) (dkN_top x45_3) (dkN_lit (x := 5) (5) rfl) (dk_ne c9) rfl
        exact C59 I45_ _ _ ls x45_3 hW hS hF hO (dkN_sub r45_0 rfl) (dkN_sub d8 rfl) (lv_sub hl [0, 1, 2, 3] rfl)
      ·
        have d11 : dkN [(5, 5)] x45_3 := dkN_eq1 (dkN_top x45_3) (dkN_lit (x := 5) (5) rfl) (congrArg Int32.toInt c9) rfl
        exact C55 I45_ _ _ ls x45_3 hW hS hF hO (dkN_sub r45_0 rfl) (dkN_sub d8 rfl) (lv_sub hl [0, 1, 2, 3] rfl)
  refine lv_aload_n hx hb dX6_as_0 rfl (lv_at hl 0 rfl) ?_
  refine lv_iload_n hx hb dX6_as_1 rfl (lv_at hl 1 rfl) ?_
  refine dk_Vi (As := [.int p0]) (rest := []) ⟨hx, hb, hml, hown, hts⟩ (c_X6_isDog_0 l g z I0 p0 hO) (cwV 1 hts gX6_as_X6_isDog rfl rfl rfl (by decide +kernel) ⟨Nat.le_of_ble_eq_true rfl, Nat.le_of_ble_eq_true rfl⟩) (dk_at340 hW) rfl hK hT hW hS rfl hl.1 rfl (Nat.le_of_ble_eq_true rfl) dX6_as_2 ⟨Nat.zero_le _, Nat.zero_le _⟩ (fun v12 I12 H12 L12 hp12 hW hS => ?_)
  obtain ⟨hF12, hO, hc12⟩ := hp12
  have hF := dkF_call hF hF12 rfl
  rcases hc12 with ⟨dv12, -⟩ | hc12
  ·
    refine lv_if_eq (tgt := 17) hx hb dX6_as_5 (by decide) (fun c13 => ?_) (fun c13 => ?_)
    ·
      refine lv_ldc (v := (-1000001)) hx hb hown (hts (.constant RX6 64 (-1000001)) (List.mem_of_getElem? (i := 1) rfl)) dX6_as_17 ?_
      exact W.iret (v := (-1000001)) hx hb hr (fun t ht hW9 => ⟨⟨(-1000001), I12, rfl, ⟨hF, hO, Or.inr (Or.inl ⟨dkN_sub (dkN_lit (x := (-1000001)) (-1000001) rfl) rfl, trivial⟩)⟩, dkW_eq ht hW⟩, hS.F ht⟩) hS.2.2 dX6_as_19
    ·
      exact (dkN_nil (show dkN [] v12 from dkN_ne1 (0) dv12 (dkN_lit (x := 0) (0) rfl) (dk_ne c13) rfl)).elim
  ·
    obtain ⟨dv12, a12_0, -⟩ := hc12
    have d14 : dkN [(0, 5)] p0 := dkN_eq1 (dkN_top p0) a12_0 rfl rfl
    refine lv_if_eq (tgt := 17) hx hb dX6_as_5 (by decide) (fun c15 => ?_) (fun c15 => ?_)
    ·
      exact (dkN_nil (show dkN [] v12 from dkN_eq1 dv12 (dkN_lit (x := 0) (0) rfl) (congrArg Int32.toInt c15) rfl)).elim
    ·
      refine lv_iload_n hx hb dX6_as_8 rfl (lv_at hl 2 rfl) ?_
      refine lv_iconst (v := 0) hx hb dX6_as_9 (by decide) ?_
      refine lv_iconst (v := 5) hx hb dX6_as_10 (by decide) ?_
      refine dk_Si (As := [.int p1, .int 0, .int 5]) (rest := []) ⟨hx, hb, hml, hown, hts⟩ (c_X6_in_20 l g z I12 p1 0 5 (dkN_lit (x := 0) (0) rfl) (dkN_lit (x := 5) (5) rfl) hO) (va_cwS 3 hts gX6_as_X6_in rfl rfl rfl (by decide +kernel) ⟨Nat.le_of_ble_eq_true rfl, Nat.le_of_ble_eq_true rfl⟩) hK hT hW hS rfl hl.1 rfl (Nat.le_of_ble_eq_true rfl) dX6_as_11 ⟨Nat.zero_le _, Nat.zero_le _⟩ (fun v16 I16 H16 L16 hp16 hW hS => ?_)
      obtain ⟨hF16, hO, hc16⟩ := hp16
      have hF := dkF_call hF hF16 rfl
      rcases hc16 with ⟨dv16, a16_0, -⟩ | hc16
      ·
        have d17 : dkN [(-2147483648, -1), (6, 2147483647)] p1 := dkN_eq1 (dkN_top p1) a16_0 rfl rfl
        refine lv_if_ne (tgt := 20) hx hb dX6_as_14 (by decide) (fun c18 => ?_) (fun c18 => ?_)
        ·
          exact (dkN_nil (show dkN [] v16 from dkN_ne1 (0) dv16 (dkN_lit (x := 0) (0) rfl) (dk_ne c18) rfl)).elim
        ·
          refine lv_ldc (v := (-1000001)) hx hb hown (hts (.constant RX6 64 (-1000001)) (List.mem_of_getElem? (i := 1) rfl)) dX6_as_17 ?_
          exact W.iret (v := (-1000001)) hx hb hr (fun t ht hW9 => ⟨⟨(-1000001), I16, rfl, ⟨hF, hO, Or.inr (Or.inl ⟨dkN_sub (dkN_lit (x := (-1000001)) (-1000001) rfl) rfl, trivial⟩)⟩, dkW_eq ht hW⟩, hS.F ht⟩) hS.2.2 dX6_as_19
      ·
        obtain ⟨dv16, a16_0, -⟩ := hc16
        have d19 : dkN [(0, 5)] p1 := dkN_eq1 (dkN_top p1) a16_0 rfl rfl
        refine lv_if_ne (tgt := 20) hx hb dX6_as_14 (by decide) (fun c20 => ?_) (fun c20 => ?_)
        ·
          refine lv_aload_n hx hb dX6_as_20 rfl (lv_at hl 0 rfl) ?_
          refine lv_iload_n hx hb dX6_as_21 rfl (lv_at hl 1 rfl) ?_
          refine dk_Vi (As := [.int p0]) (rest := []) ⟨hx, hb, hml, hown, hts⟩ (c_X6_kindIn_0 l g z I16 p0 d14 hO) (cwV 1 hts gX6_as_X6_kindIn rfl rfl rfl (by decide +kernel) ⟨Nat.le_of_ble_eq_true rfl, Nat.le_of_ble_eq_true rfl⟩) (dk_at340 hW) rfl hK hT hW hS rfl hl.1 rfl (Nat.le_of_ble_eq_true rfl) dX6_as_22 ⟨Nat.zero_le _, Nat.zero_le _⟩ (fun v21 I21 H21 L21 hp21 hW hS => ?_)
          obtain ⟨hF21, hO, hc21⟩ := hp21
          have hF := dkF_call hF hF21 rfl
          obtain ⟨_, -⟩ := hc21
          refine lv_istore_n (lv' := [(3, .int v21), (0, .ref (z + 340)), (1, .int p0), (2, .int p1)]) hx hb dX6_as_25 rfl hl (by decide) rfl (fun ls hl => ?_)
          refine lv_iload_n hx hb dX6_as_26 rfl (lv_at hl 3 rfl) ?_
          refine lv_if_eq (tgt := 55) hx hb dX6_as_27 (by decide) (fun c22 => ?_) (fun c22 => ?_)
          ·
            have d23 : dkN [(0, 0)] p1 := dkN_eq1 d19 (dkN_lit (x := 0) (0) rfl) (congrArg Int32.toInt c22) rfl
            exact C55 I21 _ _ ls v21 hW hS hF hO (dkN_sub d14 rfl) (dkN_sub d23 rfl) (lv_sub hl [1, 2, 3, 0] rfl)
          ·
            have d24 : dkN [(1, 5)] p1 := dkN_ne1 (0) d19 (dkN_lit (x := 0) (0) rfl) (dk_ne c22) rfl
            refine lv_iload_n hx hb dX6_as_30 rfl (lv_at hl 3 rfl) ?_
            refine lv_iload_n hx hb dX6_as_31 rfl (lv_at hl 0 rfl) ?_
            refine lv_icmp_eq (tgt := 55) hx hb dX6_as_32 (by decide) (fun c25 => ?_) (fun c25 => ?_)
            ·
              have d26 : dkN [(1, 5)] v21 := dkN_eq1 (dkN_top v21) d24 (congrArg Int32.toInt c25).symm rfl
              exact C55 I21 _ _ ls v21 hW hS hF hO (dkN_sub d14 rfl) (dkN_sub d24 rfl) (lv_sub hl [1, 2, 3, 0] rfl)
            ·
              refine lv_iload_n hx hb dX6_as_35 rfl (lv_at hl 3 rfl) ?_
              refine lv_iconst (v := 1) hx hb dX6_as_36 (by decide) ?_
              refine lv_icmp_ne (tgt := 45) hx hb dX6_as_37 (by decide) (fun c27 => ?_) (fun c27 => ?_)
              ·
                have d28 : dkN [(2, 5)] p1 := dkN_ne1 (1) d24 (dkN_lit (x := 1) (1) rfl) (dk_ne c27) rfl
                exact C45 I21 _ _ ls v21 hW hS hF hO (dkN_sub d14 rfl) (dkN_sub d28 rfl) (lv_sub hl [1, 2, 3, 0] rfl)
              ·
                have d29 : dkN [(1, 1)] p1 := dkN_eq1 d24 (dkN_lit (x := 1) (1) rfl) (congrArg Int32.toInt c27) rfl
                refine lv_iload_n hx hb dX6_as_40 rfl (lv_at hl 0 rfl) ?_
                refine lv_iconst (v := 4) hx hb dX6_as_41 (by decide) ?_
                refine lv_icmp_lt (tgt := 55) hx hb dX6_as_42 (by decide) (fun c30 => ?_) (fun c30 => ?_)
                ·
                  have d31 : dkN [(-2147483648, 3)] v21 := dkN_le1 1 (dkN_top v21) (dkN_lit (x := 4) (4) rfl) (dkc_lt c30) rfl
                  exact C55 I21 _ _ ls v21 hW hS hF hO (dkN_sub d14 rfl) (dkN_sub d29 rfl) (lv_sub hl [1, 2, 3, 0] rfl)
                ·
                  have d32 : dkN [(4, 2147483647)] v21 := dkN_le2 0 (dkN_lit (x := 4) (4) rfl) (dkN_top v21) (dkc_nlt c30) rfl
                  exact C45 I21 _ _ ls v21 hW hS hF hO (dkN_sub d14 rfl) (dkN_sub d29 rfl) (lv_sub hl [1, 2, 3, 0] rfl)
        ·
          exact (dkN_nil (show dkN [] v16 from dkN_eq1 dv16 (dkN_lit (x := 0) (0) rfl) (congrArg Int32.toInt c20) rfl)).elim
set_option maxHeartbeats 4000000 in
set_option maxRecDepth 100000 in
theorem c_X1_markBody_0 (l : Launch) (g : dkG) (z : Nat) (I0 : dkI) (p0 : Int32) (dp0 : dkN [(0, 5)] p0)  (hO : dkOk I0) : Met l yX1_markBody wsX1_markBody (dkR 0) (dkPc g z [.ref (z + 338), .int p0] I0) (dkQi g z (fun r I1 => dkF [] I0 I1 ∧ dkOk I1 ∧ ((dkN [(20, 24)] r ∧ True)))) 0 0 (dkA z) := by
  refine Met.ofW (cc := cX1_markBody) (maxL := 3) (ret := (some .int)) (by decide) rfl ?_
  intro p e s m args below meth c s₁ B hml hv
  obtain ⟨ha, hW, hK, hT⟩ := hv
  have hx := B.exec
  have hb := B.bytes
  have hr := B.returns
  have hts := atoms_spec (ws := wsX1_markBody) B.pre
  have hown : s.vm.findClass RX1 = some m.cls := findClass_of_methodNamed B.named
  have hlocks := B.notSynchronized
  have hS : va_S (dkA z) s.heap s.heap [] := va_S.rf
  have hF : dkF [] I0 I0 := dkF_rf _ _
  have hl := lv_entry ([.ref (z + 338), .int p0]) (n := 3) (Nat.le_of_ble_eq_true rfl)
  have hgo : entryFrame m args 3 = entryFrame m ([.ref (z + 338), .int p0] : List Value).toArray 3 := by rw [ha]
  rw [hgo, lg_entry_eq]
  generalize (lg_sl ([.ref (z + 338), .int p0]) ++ List.replicate (3 - (lg_sl ([.ref (z + 338), .int p0])).length) Slot.unset).toArray = ls at hl ⊢
  have hl : lv_has ls 3 [(0, .ref (z + 338)), (1, .int p0)] := hl
  refine lv_aload_n hx hb dX1_markBody_0 rfl (lv_at hl 0 rfl) ?_
  refine dk_get (k := 338) hx hb hts iX1_markBody_1 hown hK (dk_at338 hW) rfl 0 (by decide) (hts (.fieldLink RX1 15 "DogKings$Asks" "now" "LDogKings$Town;") (List.mem_of_getElem? (i := 1) rfl)) rfl dX1_markBody_1 ?_
  refine dk_get (k := 25) hx hb hts iX1_markBody_4 hown hK (dk_at25 hW) rfl 12 (by decide) (hts (.fieldLink RX1 35 "DogKings$Town" "sort" "[I") (List.mem_of_getElem? (i := 2) rfl)) rfl dX1_markBody_4 ?_
  refine lv_iload_n hx hb dX1_markBody_7 rfl (lv_at hl 1 rfl) ?_
  refine dk_ild (k := 32) hx hb hK (dk_at32 hW) (dkN_in (n := 6) dp0 rfl) dX1_markBody_8 ?_
  refine lv_topi (fun v1 ev1 => ?_)
  refine lv_istore_n (lv' := [(2, .int v1), (0, .ref (z + 338)), (1, .int p0)]) hx hb dX1_markBody_9 rfl hl (by decide) rfl (fun ls hl => ?_)
  refine lv_iload_n hx hb dX1_markBody_10 rfl (lv_at hl 0 rfl) ?_
  refine lv_if_lt (tgt := 30) hx hb dX1_markBody_11 (by decide) (fun c2 => ?_) (fun c2 => ?_)
  ·
    have d3 : dkN [(-2147483648, -1)] v1 := dkN_le1 1 (dkN_top v1) (dkN_lit (x := 0) (0) rfl) (dkc_lt c2) rfl
    obtain ⟨a4, hza4, hta4⟩ := hT.2
    refine va_gets hx hb hza4 hS hown (hts (.fieldLink RX1 43 "DogKings$Asks" "MARK_BODY" "[I") (List.mem_of_getElem? (i := 3) rfl)) (fun _ h => h) dX1_markBody_30 ?_
    refine lv_iconst (v := 0) hx hb dX1_markBody_33 (by decide) ?_
    refine va_ti (v := .int (dkMkI (Int32.toNatClampNeg 0))) hx hb hta4 hS (dkN_in (n := 6) (dkN_lit (x := 0) (0) rfl) rfl) (dkMk_v _) dX1_markBody_34 ?_
    refine lv_topi (fun v6 ev6 => ?_)
    have dv6 : dkN [(20, 24)] v6 := by rw [ev6]; exact dkMk_d _
    exact W.iret (v := v6) hx hb hr (fun t ht hW9 => ⟨⟨v6, I0, rfl, ⟨hF, hO, ⟨dkN_sub dv6 rfl, trivial⟩⟩, dkW_eq ht hW⟩, hS.F ht⟩) hS.2.2 dX1_markBody_35
  ·
    have d7 : dkN [(0, 2147483647)] v1 := dkN_le2 0 (dkN_lit (x := 0) (0) rfl) (dkN_top v1) (dkc_nlt c2) rfl
    refine lv_iload_n hx hb dX1_markBody_14 rfl (lv_at hl 0 rfl) ?_
    obtain ⟨a8, hza8, hta8⟩ := hT.2
    refine va_gets hx hb hza8 hS hown (hts (.fieldLink RX1 43 "DogKings$Asks" "MARK_BODY" "[I") (List.mem_of_getElem? (i := 3) rfl)) (fun _ h => h) dX1_markBody_15 ?_
    refine va_tlen hx hb hta8 hS (v := 6) rfl dX1_markBody_18 ?_
    refine lv_icmp_ge (tgt := 30) hx hb dX1_markBody_19 (by decide) (fun c9 => ?_) (fun c9 => ?_)
    ·
      have d10 : dkN [(6, 2147483647)] v1 := dkN_le2 0 (dkN_lit (x := 6) (6) rfl) d7 (dkc_le c9) rfl
      obtain ⟨a11, hza11, hta11⟩ := hT.2
      refine va_gets hx hb hza11 hS hown (hts (.fieldLink RX1 43 "DogKings$Asks" "MARK_BODY" "[I") (List.mem_of_getElem? (i := 3) rfl)) (fun _ h => h) dX1_markBody_30 ?_
      refine lv_iconst (v := 0) hx hb dX1_markBody_33 (by decide) ?_
      refine va_ti (v := .int (dkMkI (Int32.toNatClampNeg 0))) hx hb hta11 hS (dkN_in (n := 6) (dkN_lit (x := 0) (0) rfl) rfl) (dkMk_v _) dX1_markBody_34 ?_
      refine lv_topi (fun v13 ev13 => ?_)
      have dv13 : dkN [(20, 24)] v13 := by rw [ev13]; exact dkMk_d _
      exact W.iret (v := v13) hx hb hr (fun t ht hW9 => ⟨⟨v13, I0, rfl, ⟨hF, hO, ⟨dkN_sub dv13 rfl, trivial⟩⟩, dkW_eq ht hW⟩, hS.F ht⟩) hS.2.2 dX1_markBody_35
    ·
      have d14 : dkN [(0, 5)] v1 := dkN_le1 1 d7 (dkN_lit (x := 6) (6) rfl) (dkc_nle c9) rfl
      obtain ⟨a15, hza15, hta15⟩ := hT.2
      refine va_gets hx hb hza15 hS hown (hts (.fieldLink RX1 43 "DogKings$Asks" "MARK_BODY" "[I") (List.mem_of_getElem? (i := 3) rfl)) (fun _ h => h) dX1_markBody_22 ?_
      refine lv_iload_n hx hb dX1_markBody_25 rfl (lv_at hl 0 rfl) ?_
      refine va_ti (v := .int (dkMkI v1.toNatClampNeg)) hx hb hta15 hS (dkN_in (n := 6) d14 rfl) (dkMk_v _) dX1_markBody_26 ?_
      refine lv_topi (fun v17 ev17 => ?_)
      have dv17 : dkN [(20, 24)] v17 := by rw [ev17]; exact dkMk_d _
      refine lv_goto (tgt := 35) hx hb dX1_markBody_27 (by decide) ?_
      exact W.iret (v := v17) hx hb hr (fun t ht hW9 => ⟨⟨v17, I0, rfl, ⟨hF, hO, ⟨dkN_sub dv17 rfl, trivial⟩⟩, dkW_eq ht hW⟩, hS.F ht⟩) hS.2.2 dX1_markBody_35
set_option maxHeartbeats 4000000 in
set_option maxRecDepth 100000 in
theorem c_X1_sizeBody_0 (l : Launch) (g : dkG) (z : Nat) (I0 : dkI) (p0 : Int32) (dp0 : dkN [(0, 5)] p0)  (hO : dkOk I0) : Met l yX1_sizeBody wsX1_sizeBody (dkR 0) (dkPc g z [.ref (z + 338), .int p0] I0) (dkQi g z (fun r I1 => dkF [] I0 I1 ∧ dkOk I1 ∧ ((dkN [(10, 14)] r ∧ True)))) 0 0 (dkA z) := by
  refine Met.ofW (cc := cX1_sizeBody) (maxL := 3) (ret := (some .int)) (by decide) rfl ?_
  intro p e s m args below meth c s₁ B hml hv
  obtain ⟨ha, hW, hK, hT⟩ := hv
  have hx := B.exec
  have hb := B.bytes
  have hr := B.returns
  have hts := atoms_spec (ws := wsX1_sizeBody) B.pre
  have hown : s.vm.findClass RX1 = some m.cls := findClass_of_methodNamed B.named
  have hlocks := B.notSynchronized
  have hS : va_S (dkA z) s.heap s.heap [] := va_S.rf
  have hF : dkF [] I0 I0 := dkF_rf _ _
  have hl := lv_entry ([.ref (z + 338), .int p0]) (n := 3) (Nat.le_of_ble_eq_true rfl)
  have hgo : entryFrame m args 3 = entryFrame m ([.ref (z + 338), .int p0] : List Value).toArray 3 := by rw [ha]
  rw [hgo, lg_entry_eq]
  generalize (lg_sl ([.ref (z + 338), .int p0]) ++ List.replicate (3 - (lg_sl ([.ref (z + 338), .int p0])).length) Slot.unset).toArray = ls at hl ⊢
  have hl : lv_has ls 3 [(0, .ref (z + 338)), (1, .int p0)] := hl
  refine lv_aload_n hx hb dX1_sizeBody_0 rfl (lv_at hl 0 rfl) ?_
  refine dk_get (k := 338) hx hb hts iX1_sizeBody_1 hown hK (dk_at338 hW) rfl 0 (by decide) (hts (.fieldLink RX1 15 "DogKings$Asks" "now" "LDogKings$Town;") (List.mem_of_getElem? (i := 1) rfl)) rfl dX1_sizeBody_1 ?_
  refine dk_get (k := 25) hx hb hts iX1_sizeBody_4 hown hK (dk_at25 hW) rfl 12 (by decide) (hts (.fieldLink RX1 35 "DogKings$Town" "sort" "[I") (List.mem_of_getElem? (i := 2) rfl)) rfl dX1_sizeBody_4 ?_
  refine lv_iload_n hx hb dX1_sizeBody_7 rfl (lv_at hl 1 rfl) ?_
  refine dk_ild (k := 32) hx hb hK (dk_at32 hW) (dkN_in (n := 6) dp0 rfl) dX1_sizeBody_8 ?_
  refine lv_topi (fun v1 ev1 => ?_)
  refine lv_istore_n (lv' := [(2, .int v1), (0, .ref (z + 338)), (1, .int p0)]) hx hb dX1_sizeBody_9 rfl hl (by decide) rfl (fun ls hl => ?_)
  refine lv_iload_n hx hb dX1_sizeBody_10 rfl (lv_at hl 0 rfl) ?_
  refine lv_if_lt (tgt := 30) hx hb dX1_sizeBody_11 (by decide) (fun c2 => ?_) (fun c2 => ?_)
  ·
    have d3 : dkN [(-2147483648, -1)] v1 := dkN_le1 1 (dkN_top v1) (dkN_lit (x := 0) (0) rfl) (dkc_lt c2) rfl
    obtain ⟨a4, hza4, hta4⟩ := hT.1
    refine va_gets hx hb hza4 hS hown (hts (.fieldLink RX1 40 "DogKings$Asks" "SIZE_BODY" "[I") (List.mem_of_getElem? (i := 3) rfl)) (fun _ h => h) dX1_sizeBody_30 ?_
    refine lv_iconst (v := 0) hx hb dX1_sizeBody_33 (by decide) ?_
    refine va_ti (v := .int (dkSzI (Int32.toNatClampNeg 0))) hx hb hta4 hS (dkN_in (n := 6) (dkN_lit (x := 0) (0) rfl) rfl) (dkSz_v _) dX1_sizeBody_34 ?_
    refine lv_topi (fun v6 ev6 => ?_)
    have dv6 : dkN [(10, 14)] v6 := by rw [ev6]; exact dkSz_d _
    exact W.iret (v := v6) hx hb hr (fun t ht hW9 => ⟨⟨v6, I0, rfl, ⟨hF, hO, ⟨dkN_sub dv6 rfl, trivial⟩⟩, dkW_eq ht hW⟩, hS.F ht⟩) hS.2.2 dX1_sizeBody_35
  ·
    have d7 : dkN [(0, 2147483647)] v1 := dkN_le2 0 (dkN_lit (x := 0) (0) rfl) (dkN_top v1) (dkc_nlt c2) rfl
    refine lv_iload_n hx hb dX1_sizeBody_14 rfl (lv_at hl 0 rfl) ?_
    obtain ⟨a8, hza8, hta8⟩ := hT.1
    refine va_gets hx hb hza8 hS hown (hts (.fieldLink RX1 40 "DogKings$Asks" "SIZE_BODY" "[I") (List.mem_of_getElem? (i := 3) rfl)) (fun _ h => h) dX1_sizeBody_15 ?_
    refine va_tlen hx hb hta8 hS (v := 6) rfl dX1_sizeBody_18 ?_
    refine lv_icmp_ge (tgt := 30) hx hb dX1_sizeBody_19 (by decide) (fun c9 => ?_) (fun c9 => ?_)
    ·
      have d10 : dkN [(6, 2147483647)] v1 := dkN_le2 0 (dkN_lit (x := 6) (6) rfl) d7 (dkc_le c9) rfl
      obtain ⟨a11, hza11, hta11⟩ := hT.1
      refine va_gets hx hb hza11 hS hown (hts (.fieldLink RX1 40 "DogKings$Asks" "SIZE_BODY" "[I") (List.mem_of_getElem? (i := 3) rfl)) (fun _ h => h) dX1_sizeBody_30 ?_
      refine lv_iconst (v := 0) hx hb dX1_sizeBody_33 (by decide) ?_
      refine va_ti (v := .int (dkSzI (Int32.toNatClampNeg 0))) hx hb hta11 hS (dkN_in (n := 6) (dkN_lit (x := 0) (0) rfl) rfl) (dkSz_v _) dX1_sizeBody_34 ?_
      refine lv_topi (fun v13 ev13 => ?_)
      have dv13 : dkN [(10, 14)] v13 := by rw [ev13]; exact dkSz_d _
      exact W.iret (v := v13) hx hb hr (fun t ht hW9 => ⟨⟨v13, I0, rfl, ⟨hF, hO, ⟨dkN_sub dv13 rfl, trivial⟩⟩, dkW_eq ht hW⟩, hS.F ht⟩) hS.2.2 dX1_sizeBody_35
    ·
      have d14 : dkN [(0, 5)] v1 := dkN_le1 1 d7 (dkN_lit (x := 6) (6) rfl) (dkc_nle c9) rfl
      obtain ⟨a15, hza15, hta15⟩ := hT.1
      refine va_gets hx hb hza15 hS hown (hts (.fieldLink RX1 40 "DogKings$Asks" "SIZE_BODY" "[I") (List.mem_of_getElem? (i := 3) rfl)) (fun _ h => h) dX1_sizeBody_22 ?_
      refine lv_iload_n hx hb dX1_sizeBody_25 rfl (lv_at hl 0 rfl) ?_
      refine va_ti (v := .int (dkSzI v1.toNatClampNeg)) hx hb hta15 hS (dkN_in (n := 6) d14 rfl) (dkSz_v _) dX1_sizeBody_26 ?_
      refine lv_topi (fun v17 ev17 => ?_)
      have dv17 : dkN [(10, 14)] v17 := by rw [ev17]; exact dkSz_d _
      refine lv_goto (tgt := 35) hx hb dX1_sizeBody_27 (by decide) ?_
      exact W.iret (v := v17) hx hb hr (fun t ht hW9 => ⟨⟨v17, I0, rfl, ⟨hF, hO, ⟨dkN_sub dv17 rfl, trivial⟩⟩, dkW_eq ht hW⟩, hS.F ht⟩) hS.2.2 dX1_sizeBody_35
set_option maxHeartbeats 4000000 in
set_option maxRecDepth 100000 in
theorem c_X1_begins_0 (l : Launch) (g : dkG) (z : Nat) (I0 : dkI) (p0 : Int32) (dp0 : dkN [(10, 14), (20, 24)] p0)  (hO : dkOk I0) : Met l yX1_begins wsX1_begins (dkR 0) (dkPc g z [.ref (z + 338), .int p0] I0) (dkQv g z (fun I1 => dkF [(338, 338, 2, 2), (339, 339, 0, 15)] I0 I1 ∧ dkOk I1 ∧ ((dkN [(1, 16)] (I1 338 2) ∧ True)))) 0 0 (dkA z) := by
  refine Met.ofW (cc := cX1_begins) (maxL := 2) (ret := none) (by decide) rfl ?_
  intro p e s m args below meth c s₁ B hml hv
  obtain ⟨ha, hW, hK, hT⟩ := hv
  have hx := B.exec
  have hb := B.bytes
  have hr := B.returns
  have hts := atoms_spec (ws := wsX1_begins) B.pre
  have hown : s.vm.findClass RX1 = some m.cls := findClass_of_methodNamed B.named
  have hlocks := B.notSynchronized
  have hS : va_S (dkA z) s.heap s.heap [] := va_S.rf
  have hF : dkF [(338, 338, 2, 2), (339, 339, 0, 15)] I0 I0 := dkF_rf _ _
  have hl := lv_entry ([.ref (z + 338), .int p0]) (n := 2) (Nat.le_of_ble_eq_true rfl)
  have hgo : entryFrame m args 2 = entryFrame m ([.ref (z + 338), .int p0] : List Value).toArray 2 := by rw [ha]
  rw [hgo, lg_entry_eq]
  generalize (lg_sl ([.ref (z + 338), .int p0]) ++ List.replicate (2 - (lg_sl ([.ref (z + 338), .int p0])).length) Slot.unset).toArray = ls at hl ⊢
  have hl : lv_has ls 2 [(0, .ref (z + 338)), (1, .int p0)] := hl
  refine lv_aload_n hx hb dX1_begins_0 rfl (lv_at hl 0 rfl) ?_
  refine dk_get (k := 338) hx hb hts iX1_begins_1 hown hK (dk_at338 hW) rfl 2 (by decide) (hts (.fieldLink RX1 19 "DogKings$Asks" "tracedCount" "I") (List.mem_of_getElem? (i := 1) rfl)) rfl dX1_begins_1 ?_
  refine lv_topi (fun v1 ev1 => ?_)
  have dv1 : dkN [(0, 16)] v1 := by rw [ev1]; exact (hO 338 2)
  refine lv_bipush (v := 16) hx hb dX1_begins_4 (by decide) ?_
  refine lv_icmp_ge (tgt := 29) hx hb dX1_begins_6 (by decide) (fun c2 => ?_) (fun c2 => ?_)
  ·
    have d3 : dkN [(16, 16)] v1 := dkN_le2 0 (dkN_lit (x := 16) (16) rfl) dv1 (dkc_le c2) rfl
    have f4 : dkN [(16, 16)] (I0 338 2) := by rw [← ev1]; exact d3
    exact W.vret hx hb hr (fun t ht hW9 => ⟨⟨I0, rfl, ⟨hF, hO, ⟨(show dkN [(1, 16)] (I0 338 2) from dkN_sub f4 rfl), trivial⟩⟩, dkW_eq ht hW⟩, hS.F ht⟩) hS.2.2 dX1_begins_29
  ·
    have d5 : dkN [(0, 15)] v1 := dkN_le1 1 dv1 (dkN_lit (x := 16) (16) rfl) (dkc_nle c2) rfl
    have f6 : dkN [(0, 15)] (I0 338 2) := by rw [← ev1]; exact d5
    refine lv_aload_n hx hb dX1_begins_9 rfl (lv_at hl 0 rfl) ?_
    refine dk_get (k := 338) hx hb hts iX1_begins_1 hown hK (dk_at338 hW) rfl 1 (by decide) (hts (.fieldLink RX1 11 "DogKings$Asks" "traced" "[I") (List.mem_of_getElem? (i := 2) rfl)) rfl dX1_begins_10 ?_
    refine lv_aload_n hx hb dX1_begins_13 rfl (lv_at hl 0 rfl) ?_
    refine dk_get (k := 338) hx hb hts iX1_begins_1 hown hK (dk_at338 hW) rfl 2 (by decide) (hts (.fieldLink RX1 19 "DogKings$Asks" "tracedCount" "I") (List.mem_of_getElem? (i := 1) rfl)) rfl dX1_begins_14 ?_
    refine lv_topi (fun v7 ev7 => ?_)
    have dv7 : dkN [(0, 15)] v7 := by rw [ev7]; exact f6
    refine lv_iload_n hx hb dX1_begins_17 rfl (lv_at hl 1 rfl) ?_
    refine dk_ist (k := 339) hx hb hK hW (fun _ => rfl) (by decide) hS (dkN_in (n := 16) dv7 rfl) dX1_begins_18 (fun I8 H8 L8 eI8 hW hS => ?_)
    have hO := dkO_set hO eI8 (dkN_sub dp0 rfl)
    have hF := dkF_set hF eI8 (dkIn_v dv7 rfl)
    refine lv_aload_n hx hb dX1_begins_19 rfl (lv_at hl 0 rfl) ?_
    refine lv_dup hx hb dX1_begins_20 rfl ?_
    refine dk_get (k := 338) hx hb hts iX1_begins_1 hown hK (dk_at338 hW) rfl 2 (by decide) (hts (.fieldLink RX1 19 "DogKings$Asks" "tracedCount" "I") (List.mem_of_getElem? (i := 1) rfl)) rfl dX1_begins_21 ?_
    refine lv_topi (fun v9 ev9 => ?_)
    have dv9 : dkN [(0, 15)] v9 := by rw [ev9]; exact (by rw [eI8, dkU_n (by decide)]; exact f6)
    refine lv_iconst (v := 1) hx hb dX1_begins_24 (by decide) ?_
    refine lv_iadd hx hb dX1_begins_25 ?_
    refine lv_topi (fun v10 ev10 => ?_)
    have dv10 : dkN [(1, 16)] v10 := by rw [ev10]; exact dkN_add dv9 (dkN_lit (x := 1) (1) rfl) rfl
    refine dk_put (k := 338) hx hb hts iX1_begins_1 tyX1 tyX1_ok nmX1 hown hK hW (dk_at338 hW) hS rfl 2 (by decide) (hts (.fieldLink RX1 19 "DogKings$Asks" "tracedCount" "I") (List.mem_of_getElem? (i := 1) rfl)) rfl rfl (Nat.le_of_ble_eq_true rfl) rfl dX1_begins_26 (fun I11 H11 L11 eI11 hW hS => ?_)
    have eI11 : I11 = dkU I8 338 2 v10 := eI11
    have hO := dkO_set hO eI11 (dkN_sub dv10 rfl)
    have hF := dkF_set hF eI11 rfl
    exact W.vret hx hb hr (fun t ht hW9 => ⟨⟨I11, rfl, ⟨hF, hO, ⟨(show dkN [(1, 16)] (I11 338 2) from dkN_sub (by rw [eI11, dkU_ss]; exact dv10) rfl), trivial⟩⟩, dkW_eq ht hW⟩, hS.F ht⟩) hS.2.2 dX1_begins_29
set_option maxHeartbeats 4000000 in
set_option maxRecDepth 100000 in
theorem c_X1_begins_1 (l : Launch) (g : dkG) (z : Nat) (I0 : dkI) (p0 : Int32) (dp0 : dkN [(10, 10)] p0)  (hO : dkOk I0) : Met l yX1_begins wsX1_begins (dkR 0) (dkPc g z [.ref (z + 338), .int p0] I0) (dkQv g z (fun I1 => dkF [(338, 338, 2, 2), (339, 339, 0, 15)] I0 I1 ∧ dkOk I1 ∧ ((dkN [(1, 16)] (I1 338 2) ∧ True)))) 0 0 (dkA z) := by
  refine Met.ofW (cc := cX1_begins) (maxL := 2) (ret := none) (by decide) rfl ?_
  intro p e s m args below meth c s₁ B hml hv
  obtain ⟨ha, hW, hK, hT⟩ := hv
  have hx := B.exec
  have hb := B.bytes
  have hr := B.returns
  have hts := atoms_spec (ws := wsX1_begins) B.pre
  have hown : s.vm.findClass RX1 = some m.cls := findClass_of_methodNamed B.named
  have hlocks := B.notSynchronized
  have hS : va_S (dkA z) s.heap s.heap [] := va_S.rf
  have hF : dkF [(338, 338, 2, 2), (339, 339, 0, 15)] I0 I0 := dkF_rf _ _
  have hl := lv_entry ([.ref (z + 338), .int p0]) (n := 2) (Nat.le_of_ble_eq_true rfl)
  have hgo : entryFrame m args 2 = entryFrame m ([.ref (z + 338), .int p0] : List Value).toArray 2 := by rw [ha]
  rw [hgo, lg_entry_eq]
  generalize (lg_sl ([.ref (z + 338), .int p0]) ++ List.replicate (2 - (lg_sl ([.ref (z + 338), .int p0])).length) Slot.unset).toArray = ls at hl ⊢
  have hl : lv_has ls 2 [(0, .ref (z + 338)), (1, .int p0)] := hl
  refine lv_aload_n hx hb dX1_begins_0 rfl (lv_at hl 0 rfl) ?_
  refine dk_get (k := 338) hx hb hts iX1_begins_1 hown hK (dk_at338 hW) rfl 2 (by decide) (hts (.fieldLink RX1 19 "DogKings$Asks" "tracedCount" "I") (List.mem_of_getElem? (i := 1) rfl)) rfl dX1_begins_1 ?_
  refine lv_topi (fun v1 ev1 => ?_)
  have dv1 : dkN [(0, 16)] v1 := by rw [ev1]; exact (hO 338 2)
  refine lv_bipush (v := 16) hx hb dX1_begins_4 (by decide) ?_
  refine lv_icmp_ge (tgt := 29) hx hb dX1_begins_6 (by decide) (fun c2 => ?_) (fun c2 => ?_)
  ·
    have d3 : dkN [(16, 16)] v1 := dkN_le2 0 (dkN_lit (x := 16) (16) rfl) dv1 (dkc_le c2) rfl
    have f4 : dkN [(16, 16)] (I0 338 2) := by rw [← ev1]; exact d3
    exact W.vret hx hb hr (fun t ht hW9 => ⟨⟨I0, rfl, ⟨hF, hO, ⟨(show dkN [(1, 16)] (I0 338 2) from dkN_sub f4 rfl), trivial⟩⟩, dkW_eq ht hW⟩, hS.F ht⟩) hS.2.2 dX1_begins_29
  ·
    have d5 : dkN [(0, 15)] v1 := dkN_le1 1 dv1 (dkN_lit (x := 16) (16) rfl) (dkc_nle c2) rfl
    have f6 : dkN [(0, 15)] (I0 338 2) := by rw [← ev1]; exact d5
    refine lv_aload_n hx hb dX1_begins_9 rfl (lv_at hl 0 rfl) ?_
    refine dk_get (k := 338) hx hb hts iX1_begins_1 hown hK (dk_at338 hW) rfl 1 (by decide) (hts (.fieldLink RX1 11 "DogKings$Asks" "traced" "[I") (List.mem_of_getElem? (i := 2) rfl)) rfl dX1_begins_10 ?_
    refine lv_aload_n hx hb dX1_begins_13 rfl (lv_at hl 0 rfl) ?_
    refine dk_get (k := 338) hx hb hts iX1_begins_1 hown hK (dk_at338 hW) rfl 2 (by decide) (hts (.fieldLink RX1 19 "DogKings$Asks" "tracedCount" "I") (List.mem_of_getElem? (i := 1) rfl)) rfl dX1_begins_14 ?_
    refine lv_topi (fun v7 ev7 => ?_)
    have dv7 : dkN [(0, 15)] v7 := by rw [ev7]; exact f6
    refine lv_iload_n hx hb dX1_begins_17 rfl (lv_at hl 1 rfl) ?_
    refine dk_ist (k := 339) hx hb hK hW (fun _ => rfl) (by decide) hS (dkN_in (n := 16) dv7 rfl) dX1_begins_18 (fun I8 H8 L8 eI8 hW hS => ?_)
    have hO := dkO_set hO eI8 (dkN_sub dp0 rfl)
    have hF := dkF_set hF eI8 (dkIn_v dv7 rfl)
    refine lv_aload_n hx hb dX1_begins_19 rfl (lv_at hl 0 rfl) ?_
    refine lv_dup hx hb dX1_begins_20 rfl ?_
    refine dk_get (k := 338) hx hb hts iX1_begins_1 hown hK (dk_at338 hW) rfl 2 (by decide) (hts (.fieldLink RX1 19 "DogKings$Asks" "tracedCount" "I") (List.mem_of_getElem? (i := 1) rfl)) rfl dX1_begins_21 ?_
    refine lv_topi (fun v9 ev9 => ?_)
    have dv9 : dkN [(0, 15)] v9 := by rw [ev9]; exact (by rw [eI8, dkU_n (by decide)]; exact f6)
    refine lv_iconst (v := 1) hx hb dX1_begins_24 (by decide) ?_
    refine lv_iadd hx hb dX1_begins_25 ?_
    refine lv_topi (fun v10 ev10 => ?_)
    have dv10 : dkN [(1, 16)] v10 := by rw [ev10]; exact dkN_add dv9 (dkN_lit (x := 1) (1) rfl) rfl
    refine dk_put (k := 338) hx hb hts iX1_begins_1 tyX1 tyX1_ok nmX1 hown hK hW (dk_at338 hW) hS rfl 2 (by decide) (hts (.fieldLink RX1 19 "DogKings$Asks" "tracedCount" "I") (List.mem_of_getElem? (i := 1) rfl)) rfl rfl (Nat.le_of_ble_eq_true rfl) rfl dX1_begins_26 (fun I11 H11 L11 eI11 hW hS => ?_)
    have eI11 : I11 = dkU I8 338 2 v10 := eI11
    have hO := dkO_set hO eI11 (dkN_sub dv10 rfl)
    have hF := dkF_set hF eI11 rfl
    exact W.vret hx hb hr (fun t ht hW9 => ⟨⟨I11, rfl, ⟨hF, hO, ⟨(show dkN [(1, 16)] (I11 338 2) from dkN_sub (by rw [eI11, dkU_ss]; exact dv10) rfl), trivial⟩⟩, dkW_eq ht hW⟩, hS.F ht⟩) hS.2.2 dX1_begins_29
set_option maxHeartbeats 4000000 in
set_option maxRecDepth 100000 in
theorem c_X1_gives_1 (l : Launch) (g : dkG) (z : Nat) (I0 : dkI) (p0 : Int32) (p1 : Int32) (p2 : Int32) (dp0 : dkN [(10, 10)] p0) (dp1 : dkN [(0, 5)] p1) (dp2 : dkN [(2, 2)] p2)  (hO : dkOk I0) : Met l yX1_gives wsX1_gives (dkR 1) (dkPc g z [.ref (z + 338), .int p0, .int p1, .int p2] I0) (dkQi g z (fun r I1 => dkF [(338, 338, 2, 2), (339, 339, 0, 15)] I0 I1 ∧ dkOk I1 ∧ ((True ∧ dkN [(1, 16)] (I1 338 2) ∧ True)))) 0 0 (dkA z) := by
  refine Met.ofW (cc := cX1_gives) (maxL := 5) (ret := (some .int)) (by decide) rfl ?_
  intro p e s m args below meth c s₁ B hml hv
  obtain ⟨ha, hW, hK, hT⟩ := hv
  have hx := B.exec
  have hb := B.bytes
  have hr := B.returns
  have hts := atoms_spec (ws := wsX1_gives) B.pre
  have hown : s.vm.findClass RX1 = some m.cls := findClass_of_methodNamed B.named
  have hlocks := B.notSynchronized
  have hS : va_S (dkA z) s.heap s.heap [] := va_S.rf
  have hF : dkF [(338, 338, 2, 2), (339, 339, 0, 15)] I0 I0 := dkF_rf _ _
  have hl := lv_entry ([.ref (z + 338), .int p0, .int p1, .int p2]) (n := 5) (Nat.le_of_ble_eq_true rfl)
  have hgo : entryFrame m args 5 = entryFrame m ([.ref (z + 338), .int p0, .int p1, .int p2] : List Value).toArray 5 := by rw [ha]
  rw [hgo, lg_entry_eq]
  generalize (lg_sl ([.ref (z + 338), .int p0, .int p1, .int p2]) ++ List.replicate (5 - (lg_sl ([.ref (z + 338), .int p0, .int p1, .int p2])).length) Slot.unset).toArray = ls at hl ⊢
  have hl : lv_has ls 5 [(0, .ref (z + 338)), (1, .int p0), (2, .int p1), (3, .int p2)] := hl
  refine lv_iload_n hx hb dX1_gives_0 rfl (lv_at hl 3 rfl) ?_
  refine lv_iconst (v := 5) hx hb dX1_gives_1 (by decide) ?_
  refine lv_icmp_le (tgt := 8) hx hb dX1_gives_2 (by decide) (fun c1 => ?_) (fun c1 => ?_)
  ·
    refine lv_aload_n hx hb dX1_gives_8 rfl (lv_at hl 0 rfl) ?_
    refine lv_iload_n hx hb dX1_gives_9 rfl (lv_at hl 1 rfl) ?_
    refine dk_Vv (As := [.int p0]) (rest := []) ⟨hx, hb, hml, hown, hts⟩ (c_X1_begins_1 l g z I0 p0 dp0 hO) (cwV 1 hts gX1_gives_X1_begins rfl rfl rfl (by decide +kernel) ⟨Nat.le_of_ble_eq_true rfl, Nat.le_of_ble_eq_true rfl⟩) (dk_at338 hW) rfl hK hT hW hS rfl hl.1 rfl (Nat.le_of_ble_eq_true rfl) dX1_gives_10 ⟨Nat.zero_le _, Nat.zero_le _⟩ (fun I2 H2 L2 hp2 hW hS => ?_)
    obtain ⟨hF2, hO, hc2⟩ := hp2
    have hF := dkF_call hF hF2 rfl
    obtain ⟨f2_338_2, -⟩ := hc2
    refine lv_iload_n hx hb dX1_gives_13 rfl (lv_at hl 3 rfl) ?_
    refine lv_iconst (v := 1) hx hb dX1_gives_14 (by decide) ?_
    refine lv_iadd hx hb dX1_gives_15 ?_
    refine lv_topi (fun v3 ev3 => ?_)
    have dv3 : dkN [(3, 3)] v3 := by rw [ev3]; exact dkN_add dp2 (dkN_lit (x := 1) (1) rfl) rfl
    refine lv_istore (lv' := [(4, .int v3), (0, .ref (z + 338)), (1, .int p0), (2, .int p1), (3, .int p2)]) hx hb dX1_gives_16 hl (by decide) rfl (fun ls hl => ?_)
    refine lv_iload_n hx hb dX1_gives_18 rfl (lv_at hl 2 rfl) ?_
    by_cases c4 : p0 = 10
    ·
      have qc4 : p0.toInt = 10 := by rw [c4]; rfl
      have d5 : dkN [(10, 10)] p0 := dkN_lit (10) qc4
      refine lv_tableIn (tgt := 92) hx hb dX1_gives_19 (by rw [qc4]; decide) (by rw [qc4]; decide) (by rw [qc4]; rfl) (by decide) ?_
      refine lv_aload_n hx hb dX1_gives_92 rfl (lv_at hl 1 rfl) ?_
      refine dk_get (k := 338) hx hb hts iX1_gives_1 hown hK (dk_at338 hW) rfl 0 (by decide) (hts (.fieldLink RX1 15 "DogKings$Asks" "now" "LDogKings$Town;") (List.mem_of_getElem? (i := 2) rfl)) rfl dX1_gives_93 ?_
      refine dk_get (k := 25) hx hb hts iX1_gives_4 hown hK (dk_at25 hW) rfl 13 (by decide) (hts (.fieldLink RX1 51 "DogKings$Town" "dogHome" "[I") (List.mem_of_getElem? (i := 3) rfl)) rfl dX1_gives_96 ?_
      refine lv_iload_n hx hb dX1_gives_99 rfl (lv_at hl 3 rfl) ?_
      refine dk_ild (k := 33) hx hb hK (dk_at33 hW) (dkN_in (n := 6) dp1 rfl) dX1_gives_100 ?_
      refine lv_topi (fun v6 ev6 => ?_)
      exact W.iret (v := v6) hx hb hr (fun t ht hW9 => ⟨⟨v6, I2, rfl, ⟨hF, hO, ⟨trivial, (show dkN [(1, 16)] (I2 338 2) from dkN_sub f2_338_2 rfl), trivial⟩⟩, dkW_eq ht hW⟩, hS.F ht⟩) hS.2.2 dX1_gives_101
    ·
      exact (dkN_nil (show dkN [] p0 from dkN_ne1 (10) dp0 (dkN_lit (x := 10) (10) rfl) (dk_ne c4) rfl)).elim
  ·
    exact (dkN_nil (show dkN [] p2 from dkN_le2 1 (dkN_lit (x := 5) (5) rfl) dp2 (dkc_nle c1) rfl)).elim
set_option maxHeartbeats 4000000 in
set_option maxRecDepth 100000 in
theorem c_X1_begins_2 (l : Launch) (g : dkG) (z : Nat) (I0 : dkI) (p0 : Int32) (dp0 : dkN [(20, 24)] p0)  (hO : dkOk I0) : Met l yX1_begins wsX1_begins (dkR 0) (dkPc g z [.ref (z + 338), .int p0] I0) (dkQv g z (fun I1 => dkF [(338, 338, 2, 2), (339, 339, 0, 15)] I0 I1 ∧ dkOk I1 ∧ ((dkN [(1, 16)] (I1 338 2) ∧ True)))) 0 0 (dkA z) := by
  refine Met.ofW (cc := cX1_begins) (maxL := 2) (ret := none) (by decide) rfl ?_
  intro p e s m args below meth c s₁ B hml hv
  obtain ⟨ha, hW, hK, hT⟩ := hv
  have hx := B.exec
  have hb := B.bytes
  have hr := B.returns
  have hts := atoms_spec (ws := wsX1_begins) B.pre
  have hown : s.vm.findClass RX1 = some m.cls := findClass_of_methodNamed B.named
  have hlocks := B.notSynchronized
  have hS : va_S (dkA z) s.heap s.heap [] := va_S.rf
  have hF : dkF [(338, 338, 2, 2), (339, 339, 0, 15)] I0 I0 := dkF_rf _ _
  have hl := lv_entry ([.ref (z + 338), .int p0]) (n := 2) (Nat.le_of_ble_eq_true rfl)
  have hgo : entryFrame m args 2 = entryFrame m ([.ref (z + 338), .int p0] : List Value).toArray 2 := by rw [ha]
  rw [hgo, lg_entry_eq]
  generalize (lg_sl ([.ref (z + 338), .int p0]) ++ List.replicate (2 - (lg_sl ([.ref (z + 338), .int p0])).length) Slot.unset).toArray = ls at hl ⊢
  have hl : lv_has ls 2 [(0, .ref (z + 338)), (1, .int p0)] := hl
  refine lv_aload_n hx hb dX1_begins_0 rfl (lv_at hl 0 rfl) ?_
  refine dk_get (k := 338) hx hb hts iX1_begins_1 hown hK (dk_at338 hW) rfl 2 (by decide) (hts (.fieldLink RX1 19 "DogKings$Asks" "tracedCount" "I") (List.mem_of_getElem? (i := 1) rfl)) rfl dX1_begins_1 ?_
  refine lv_topi (fun v1 ev1 => ?_)
  have dv1 : dkN [(0, 16)] v1 := by rw [ev1]; exact (hO 338 2)
  refine lv_bipush (v := 16) hx hb dX1_begins_4 (by decide) ?_
  refine lv_icmp_ge (tgt := 29) hx hb dX1_begins_6 (by decide) (fun c2 => ?_) (fun c2 => ?_)
  ·
    have d3 : dkN [(16, 16)] v1 := dkN_le2 0 (dkN_lit (x := 16) (16) rfl) dv1 (dkc_le c2) rfl
    have f4 : dkN [(16, 16)] (I0 338 2) := by rw [← ev1]; exact d3
    exact W.vret hx hb hr (fun t ht hW9 => ⟨⟨I0, rfl, ⟨hF, hO, ⟨(show dkN [(1, 16)] (I0 338 2) from dkN_sub f4 rfl), trivial⟩⟩, dkW_eq ht hW⟩, hS.F ht⟩) hS.2.2 dX1_begins_29
  ·
    have d5 : dkN [(0, 15)] v1 := dkN_le1 1 dv1 (dkN_lit (x := 16) (16) rfl) (dkc_nle c2) rfl
    have f6 : dkN [(0, 15)] (I0 338 2) := by rw [← ev1]; exact d5
    refine lv_aload_n hx hb dX1_begins_9 rfl (lv_at hl 0 rfl) ?_
    refine dk_get (k := 338) hx hb hts iX1_begins_1 hown hK (dk_at338 hW) rfl 1 (by decide) (hts (.fieldLink RX1 11 "DogKings$Asks" "traced" "[I") (List.mem_of_getElem? (i := 2) rfl)) rfl dX1_begins_10 ?_
    refine lv_aload_n hx hb dX1_begins_13 rfl (lv_at hl 0 rfl) ?_
    refine dk_get (k := 338) hx hb hts iX1_begins_1 hown hK (dk_at338 hW) rfl 2 (by decide) (hts (.fieldLink RX1 19 "DogKings$Asks" "tracedCount" "I") (List.mem_of_getElem? (i := 1) rfl)) rfl dX1_begins_14 ?_
    refine lv_topi (fun v7 ev7 => ?_)
    have dv7 : dkN [(0, 15)] v7 := by rw [ev7]; exact f6
    refine lv_iload_n hx hb dX1_begins_17 rfl (lv_at hl 1 rfl) ?_
    refine dk_ist (k := 339) hx hb hK hW (fun _ => rfl) (by decide) hS (dkN_in (n := 16) dv7 rfl) dX1_begins_18 (fun I8 H8 L8 eI8 hW hS => ?_)
    have hO := dkO_set hO eI8 (dkN_sub dp0 rfl)
    have hF := dkF_set hF eI8 (dkIn_v dv7 rfl)
    refine lv_aload_n hx hb dX1_begins_19 rfl (lv_at hl 0 rfl) ?_
    refine lv_dup hx hb dX1_begins_20 rfl ?_
    refine dk_get (k := 338) hx hb hts iX1_begins_1 hown hK (dk_at338 hW) rfl 2 (by decide) (hts (.fieldLink RX1 19 "DogKings$Asks" "tracedCount" "I") (List.mem_of_getElem? (i := 1) rfl)) rfl dX1_begins_21 ?_
    refine lv_topi (fun v9 ev9 => ?_)
    have dv9 : dkN [(0, 15)] v9 := by rw [ev9]; exact (by rw [eI8, dkU_n (by decide)]; exact f6)
    refine lv_iconst (v := 1) hx hb dX1_begins_24 (by decide) ?_
    refine lv_iadd hx hb dX1_begins_25 ?_
    refine lv_topi (fun v10 ev10 => ?_)
    have dv10 : dkN [(1, 16)] v10 := by rw [ev10]; exact dkN_add dv9 (dkN_lit (x := 1) (1) rfl) rfl
    refine dk_put (k := 338) hx hb hts iX1_begins_1 tyX1 tyX1_ok nmX1 hown hK hW (dk_at338 hW) hS rfl 2 (by decide) (hts (.fieldLink RX1 19 "DogKings$Asks" "tracedCount" "I") (List.mem_of_getElem? (i := 1) rfl)) rfl rfl (Nat.le_of_ble_eq_true rfl) rfl dX1_begins_26 (fun I11 H11 L11 eI11 hW hS => ?_)
    have eI11 : I11 = dkU I8 338 2 v10 := eI11
    have hO := dkO_set hO eI11 (dkN_sub dv10 rfl)
    have hF := dkF_set hF eI11 rfl
    exact W.vret hx hb hr (fun t ht hW9 => ⟨⟨I11, rfl, ⟨hF, hO, ⟨(show dkN [(1, 16)] (I11 338 2) from dkN_sub (by rw [eI11, dkU_ss]; exact dv10) rfl), trivial⟩⟩, dkW_eq ht hW⟩, hS.F ht⟩) hS.2.2 dX1_begins_29
set_option maxHeartbeats 4000000 in
set_option maxRecDepth 100000 in
theorem c_X1_begins_3 (l : Launch) (g : dkG) (z : Nat) (I0 : dkI) (p0 : Int32) (dp0 : dkN [(20, 20)] p0)  (hO : dkOk I0) : Met l yX1_begins wsX1_begins (dkR 0) (dkPc g z [.ref (z + 338), .int p0] I0) (dkQv g z (fun I1 => dkF [(338, 338, 2, 2), (339, 339, 0, 15)] I0 I1 ∧ dkOk I1 ∧ ((dkN [(1, 16)] (I1 338 2) ∧ True)))) 0 0 (dkA z) := by
  refine Met.ofW (cc := cX1_begins) (maxL := 2) (ret := none) (by decide) rfl ?_
  intro p e s m args below meth c s₁ B hml hv
  obtain ⟨ha, hW, hK, hT⟩ := hv
  have hx := B.exec
  have hb := B.bytes
  have hr := B.returns
  have hts := atoms_spec (ws := wsX1_begins) B.pre
  have hown : s.vm.findClass RX1 = some m.cls := findClass_of_methodNamed B.named
  have hlocks := B.notSynchronized
  have hS : va_S (dkA z) s.heap s.heap [] := va_S.rf
  have hF : dkF [(338, 338, 2, 2), (339, 339, 0, 15)] I0 I0 := dkF_rf _ _
  have hl := lv_entry ([.ref (z + 338), .int p0]) (n := 2) (Nat.le_of_ble_eq_true rfl)
  have hgo : entryFrame m args 2 = entryFrame m ([.ref (z + 338), .int p0] : List Value).toArray 2 := by rw [ha]
  rw [hgo, lg_entry_eq]
  generalize (lg_sl ([.ref (z + 338), .int p0]) ++ List.replicate (2 - (lg_sl ([.ref (z + 338), .int p0])).length) Slot.unset).toArray = ls at hl ⊢
  have hl : lv_has ls 2 [(0, .ref (z + 338)), (1, .int p0)] := hl
  refine lv_aload_n hx hb dX1_begins_0 rfl (lv_at hl 0 rfl) ?_
  refine dk_get (k := 338) hx hb hts iX1_begins_1 hown hK (dk_at338 hW) rfl 2 (by decide) (hts (.fieldLink RX1 19 "DogKings$Asks" "tracedCount" "I") (List.mem_of_getElem? (i := 1) rfl)) rfl dX1_begins_1 ?_
  refine lv_topi (fun v1 ev1 => ?_)
  have dv1 : dkN [(0, 16)] v1 := by rw [ev1]; exact (hO 338 2)
  refine lv_bipush (v := 16) hx hb dX1_begins_4 (by decide) ?_
  refine lv_icmp_ge (tgt := 29) hx hb dX1_begins_6 (by decide) (fun c2 => ?_) (fun c2 => ?_)
  ·
    have d3 : dkN [(16, 16)] v1 := dkN_le2 0 (dkN_lit (x := 16) (16) rfl) dv1 (dkc_le c2) rfl
    have f4 : dkN [(16, 16)] (I0 338 2) := by rw [← ev1]; exact d3
    exact W.vret hx hb hr (fun t ht hW9 => ⟨⟨I0, rfl, ⟨hF, hO, ⟨(show dkN [(1, 16)] (I0 338 2) from dkN_sub f4 rfl), trivial⟩⟩, dkW_eq ht hW⟩, hS.F ht⟩) hS.2.2 dX1_begins_29
  ·
    have d5 : dkN [(0, 15)] v1 := dkN_le1 1 dv1 (dkN_lit (x := 16) (16) rfl) (dkc_nle c2) rfl
    have f6 : dkN [(0, 15)] (I0 338 2) := by rw [← ev1]; exact d5
    refine lv_aload_n hx hb dX1_begins_9 rfl (lv_at hl 0 rfl) ?_
    refine dk_get (k := 338) hx hb hts iX1_begins_1 hown hK (dk_at338 hW) rfl 1 (by decide) (hts (.fieldLink RX1 11 "DogKings$Asks" "traced" "[I") (List.mem_of_getElem? (i := 2) rfl)) rfl dX1_begins_10 ?_
    refine lv_aload_n hx hb dX1_begins_13 rfl (lv_at hl 0 rfl) ?_
    refine dk_get (k := 338) hx hb hts iX1_begins_1 hown hK (dk_at338 hW) rfl 2 (by decide) (hts (.fieldLink RX1 19 "DogKings$Asks" "tracedCount" "I") (List.mem_of_getElem? (i := 1) rfl)) rfl dX1_begins_14 ?_
    refine lv_topi (fun v7 ev7 => ?_)
    have dv7 : dkN [(0, 15)] v7 := by rw [ev7]; exact f6
    refine lv_iload_n hx hb dX1_begins_17 rfl (lv_at hl 1 rfl) ?_
    refine dk_ist (k := 339) hx hb hK hW (fun _ => rfl) (by decide) hS (dkN_in (n := 16) dv7 rfl) dX1_begins_18 (fun I8 H8 L8 eI8 hW hS => ?_)
    have hO := dkO_set hO eI8 (dkN_sub dp0 rfl)
    have hF := dkF_set hF eI8 (dkIn_v dv7 rfl)
    refine lv_aload_n hx hb dX1_begins_19 rfl (lv_at hl 0 rfl) ?_
    refine lv_dup hx hb dX1_begins_20 rfl ?_
    refine dk_get (k := 338) hx hb hts iX1_begins_1 hown hK (dk_at338 hW) rfl 2 (by decide) (hts (.fieldLink RX1 19 "DogKings$Asks" "tracedCount" "I") (List.mem_of_getElem? (i := 1) rfl)) rfl dX1_begins_21 ?_
    refine lv_topi (fun v9 ev9 => ?_)
    have dv9 : dkN [(0, 15)] v9 := by rw [ev9]; exact (by rw [eI8, dkU_n (by decide)]; exact f6)
    refine lv_iconst (v := 1) hx hb dX1_begins_24 (by decide) ?_
    refine lv_iadd hx hb dX1_begins_25 ?_
    refine lv_topi (fun v10 ev10 => ?_)
    have dv10 : dkN [(1, 16)] v10 := by rw [ev10]; exact dkN_add dv9 (dkN_lit (x := 1) (1) rfl) rfl
    refine dk_put (k := 338) hx hb hts iX1_begins_1 tyX1 tyX1_ok nmX1 hown hK hW (dk_at338 hW) hS rfl 2 (by decide) (hts (.fieldLink RX1 19 "DogKings$Asks" "tracedCount" "I") (List.mem_of_getElem? (i := 1) rfl)) rfl rfl (Nat.le_of_ble_eq_true rfl) rfl dX1_begins_26 (fun I11 H11 L11 eI11 hW hS => ?_)
    have eI11 : I11 = dkU I8 338 2 v10 := eI11
    have hO := dkO_set hO eI11 (dkN_sub dv10 rfl)
    have hF := dkF_set hF eI11 rfl
    exact W.vret hx hb hr (fun t ht hW9 => ⟨⟨I11, rfl, ⟨hF, hO, ⟨(show dkN [(1, 16)] (I11 338 2) from dkN_sub (by rw [eI11, dkU_ss]; exact dv10) rfl), trivial⟩⟩, dkW_eq ht hW⟩, hS.F ht⟩) hS.2.2 dX1_begins_29
set_option maxHeartbeats 4000000 in
set_option maxRecDepth 100000 in
theorem c_X1_gives_3 (l : Launch) (g : dkG) (z : Nat) (I0 : dkI) (p0 : Int32) (p1 : Int32) (p2 : Int32) (dp0 : dkN [(20, 20)] p0) (dp1 : dkN [(0, 5)] p1) (dp2 : dkN [(3, 3)] p2)  (hO : dkOk I0) : Met l yX1_gives wsX1_gives (dkR 1) (dkPc g z [.ref (z + 338), .int p0, .int p1, .int p2] I0) (dkQi g z (fun r I1 => dkF [(338, 338, 2, 2), (339, 339, 0, 15)] I0 I1 ∧ dkOk I1 ∧ r = p1 ∧ ((dkN [(0, 5)] r ∧ dkN [(1, 16)] (I1 338 2) ∧ True)))) 0 0 (dkA z) := by
  refine Met.ofW (cc := cX1_gives) (maxL := 5) (ret := (some .int)) (by decide) rfl ?_
  intro p e s m args below meth c s₁ B hml hv
  obtain ⟨ha, hW, hK, hT⟩ := hv
  have hx := B.exec
  have hb := B.bytes
  have hr := B.returns
  have hts := atoms_spec (ws := wsX1_gives) B.pre
  have hown : s.vm.findClass RX1 = some m.cls := findClass_of_methodNamed B.named
  have hlocks := B.notSynchronized
  have hS : va_S (dkA z) s.heap s.heap [] := va_S.rf
  have hF : dkF [(338, 338, 2, 2), (339, 339, 0, 15)] I0 I0 := dkF_rf _ _
  have hl := lv_entry ([.ref (z + 338), .int p0, .int p1, .int p2]) (n := 5) (Nat.le_of_ble_eq_true rfl)
  have hgo : entryFrame m args 5 = entryFrame m ([.ref (z + 338), .int p0, .int p1, .int p2] : List Value).toArray 5 := by rw [ha]
  rw [hgo, lg_entry_eq]
  generalize (lg_sl ([.ref (z + 338), .int p0, .int p1, .int p2]) ++ List.replicate (5 - (lg_sl ([.ref (z + 338), .int p0, .int p1, .int p2])).length) Slot.unset).toArray = ls at hl ⊢
  have hl : lv_has ls 5 [(0, .ref (z + 338)), (1, .int p0), (2, .int p1), (3, .int p2)] := hl
  refine lv_iload_n hx hb dX1_gives_0 rfl (lv_at hl 3 rfl) ?_
  refine lv_iconst (v := 5) hx hb dX1_gives_1 (by decide) ?_
  refine lv_icmp_le (tgt := 8) hx hb dX1_gives_2 (by decide) (fun c1 => ?_) (fun c1 => ?_)
  ·
    refine lv_aload_n hx hb dX1_gives_8 rfl (lv_at hl 0 rfl) ?_
    refine lv_iload_n hx hb dX1_gives_9 rfl (lv_at hl 1 rfl) ?_
    refine dk_Vv (As := [.int p0]) (rest := []) ⟨hx, hb, hml, hown, hts⟩ (c_X1_begins_3 l g z I0 p0 dp0 hO) (cwV 1 hts gX1_gives_X1_begins rfl rfl rfl (by decide +kernel) ⟨Nat.le_of_ble_eq_true rfl, Nat.le_of_ble_eq_true rfl⟩) (dk_at338 hW) rfl hK hT hW hS rfl hl.1 rfl (Nat.le_of_ble_eq_true rfl) dX1_gives_10 ⟨Nat.zero_le _, Nat.zero_le _⟩ (fun I2 H2 L2 hp2 hW hS => ?_)
    obtain ⟨hF2, hO, hc2⟩ := hp2
    have hF := dkF_call hF hF2 rfl
    obtain ⟨f2_338_2, -⟩ := hc2
    refine lv_iload_n hx hb dX1_gives_13 rfl (lv_at hl 3 rfl) ?_
    refine lv_iconst (v := 1) hx hb dX1_gives_14 (by decide) ?_
    refine lv_iadd hx hb dX1_gives_15 ?_
    refine lv_topi (fun v3 ev3 => ?_)
    have dv3 : dkN [(4, 4)] v3 := by rw [ev3]; exact dkN_add dp2 (dkN_lit (x := 1) (1) rfl) rfl
    refine lv_istore (lv' := [(4, .int v3), (0, .ref (z + 338)), (1, .int p0), (2, .int p1), (3, .int p2)]) hx hb dX1_gives_16 hl (by decide) rfl (fun ls hl => ?_)
    refine lv_iload_n hx hb dX1_gives_18 rfl (lv_at hl 2 rfl) ?_
    by_cases c4 : p0 = 20
    ·
      have qc4 : p0.toInt = 20 := by rw [c4]; rfl
      have d5 : dkN [(20, 20)] p0 := dkN_lit (20) qc4
      refine lv_tableIn (tgt := 161) hx hb dX1_gives_19 (by rw [qc4]; decide) (by rw [qc4]; decide) (by rw [qc4]; rfl) (by decide) ?_
      refine lv_iload_n hx hb dX1_gives_161 rfl (lv_at hl 3 rfl) ?_
      exact W.iret (v := p1) hx hb hr (fun t ht hW9 => ⟨⟨p1, I2, rfl, ⟨hF, hO, rfl, ⟨dkN_sub dp1 rfl, (show dkN [(1, 16)] (I2 338 2) from dkN_sub f2_338_2 rfl), trivial⟩⟩, dkW_eq ht hW⟩, hS.F ht⟩) hS.2.2 dX1_gives_162
    ·
      exact (dkN_nil (show dkN [] p0 from dkN_ne1 (20) dp0 (dkN_lit (x := 20) (20) rfl) (dk_ne c4) rfl)).elim
  ·
    exact (dkN_nil (show dkN [] p2 from dkN_le2 1 (dkN_lit (x := 5) (5) rfl) dp2 (dkc_nle c1) rfl)).elim
set_option maxHeartbeats 4000000 in
set_option maxRecDepth 100000 in
theorem c_X1_begins_4 (l : Launch) (g : dkG) (z : Nat) (I0 : dkI) (p0 : Int32) (dp0 : dkN [(21, 21)] p0)  (hO : dkOk I0) : Met l yX1_begins wsX1_begins (dkR 0) (dkPc g z [.ref (z + 338), .int p0] I0) (dkQv g z (fun I1 => dkF [(338, 338, 2, 2), (339, 339, 0, 15)] I0 I1 ∧ dkOk I1 ∧ ((dkN [(1, 16)] (I1 338 2) ∧ True)))) 0 0 (dkA z) := by
  refine Met.ofW (cc := cX1_begins) (maxL := 2) (ret := none) (by decide) rfl ?_
  intro p e s m args below meth c s₁ B hml hv
  obtain ⟨ha, hW, hK, hT⟩ := hv
  have hx := B.exec
  have hb := B.bytes
  have hr := B.returns
  have hts := atoms_spec (ws := wsX1_begins) B.pre
  have hown : s.vm.findClass RX1 = some m.cls := findClass_of_methodNamed B.named
  have hlocks := B.notSynchronized
  have hS : va_S (dkA z) s.heap s.heap [] := va_S.rf
  have hF : dkF [(338, 338, 2, 2), (339, 339, 0, 15)] I0 I0 := dkF_rf _ _
  have hl := lv_entry ([.ref (z + 338), .int p0]) (n := 2) (Nat.le_of_ble_eq_true rfl)
  have hgo : entryFrame m args 2 = entryFrame m ([.ref (z + 338), .int p0] : List Value).toArray 2 := by rw [ha]
  rw [hgo, lg_entry_eq]
  generalize (lg_sl ([.ref (z + 338), .int p0]) ++ List.replicate (2 - (lg_sl ([.ref (z + 338), .int p0])).length) Slot.unset).toArray = ls at hl ⊢
  have hl : lv_has ls 2 [(0, .ref (z + 338)), (1, .int p0)] := hl
  refine lv_aload_n hx hb dX1_begins_0 rfl (lv_at hl 0 rfl) ?_
  refine dk_get (k := 338) hx hb hts iX1_begins_1 hown hK (dk_at338 hW) rfl 2 (by decide) (hts (.fieldLink RX1 19 "DogKings$Asks" "tracedCount" "I") (List.mem_of_getElem? (i := 1) rfl)) rfl dX1_begins_1 ?_
  refine lv_topi (fun v1 ev1 => ?_)
  have dv1 : dkN [(0, 16)] v1 := by rw [ev1]; exact (hO 338 2)
  refine lv_bipush (v := 16) hx hb dX1_begins_4 (by decide) ?_
  refine lv_icmp_ge (tgt := 29) hx hb dX1_begins_6 (by decide) (fun c2 => ?_) (fun c2 => ?_)
  ·
    have d3 : dkN [(16, 16)] v1 := dkN_le2 0 (dkN_lit (x := 16) (16) rfl) dv1 (dkc_le c2) rfl
    have f4 : dkN [(16, 16)] (I0 338 2) := by rw [← ev1]; exact d3
    exact W.vret hx hb hr (fun t ht hW9 => ⟨⟨I0, rfl, ⟨hF, hO, ⟨(show dkN [(1, 16)] (I0 338 2) from dkN_sub f4 rfl), trivial⟩⟩, dkW_eq ht hW⟩, hS.F ht⟩) hS.2.2 dX1_begins_29
  ·
    have d5 : dkN [(0, 15)] v1 := dkN_le1 1 dv1 (dkN_lit (x := 16) (16) rfl) (dkc_nle c2) rfl
    have f6 : dkN [(0, 15)] (I0 338 2) := by rw [← ev1]; exact d5
    refine lv_aload_n hx hb dX1_begins_9 rfl (lv_at hl 0 rfl) ?_
    refine dk_get (k := 338) hx hb hts iX1_begins_1 hown hK (dk_at338 hW) rfl 1 (by decide) (hts (.fieldLink RX1 11 "DogKings$Asks" "traced" "[I") (List.mem_of_getElem? (i := 2) rfl)) rfl dX1_begins_10 ?_
    refine lv_aload_n hx hb dX1_begins_13 rfl (lv_at hl 0 rfl) ?_
    refine dk_get (k := 338) hx hb hts iX1_begins_1 hown hK (dk_at338 hW) rfl 2 (by decide) (hts (.fieldLink RX1 19 "DogKings$Asks" "tracedCount" "I") (List.mem_of_getElem? (i := 1) rfl)) rfl dX1_begins_14 ?_
    refine lv_topi (fun v7 ev7 => ?_)
    have dv7 : dkN [(0, 15)] v7 := by rw [ev7]; exact f6
    refine lv_iload_n hx hb dX1_begins_17 rfl (lv_at hl 1 rfl) ?_
    refine dk_ist (k := 339) hx hb hK hW (fun _ => rfl) (by decide) hS (dkN_in (n := 16) dv7 rfl) dX1_begins_18 (fun I8 H8 L8 eI8 hW hS => ?_)
    have hO := dkO_set hO eI8 (dkN_sub dp0 rfl)
    have hF := dkF_set hF eI8 (dkIn_v dv7 rfl)
    refine lv_aload_n hx hb dX1_begins_19 rfl (lv_at hl 0 rfl) ?_
    refine lv_dup hx hb dX1_begins_20 rfl ?_
    refine dk_get (k := 338) hx hb hts iX1_begins_1 hown hK (dk_at338 hW) rfl 2 (by decide) (hts (.fieldLink RX1 19 "DogKings$Asks" "tracedCount" "I") (List.mem_of_getElem? (i := 1) rfl)) rfl dX1_begins_21 ?_
    refine lv_topi (fun v9 ev9 => ?_)
    have dv9 : dkN [(0, 15)] v9 := by rw [ev9]; exact (by rw [eI8, dkU_n (by decide)]; exact f6)
    refine lv_iconst (v := 1) hx hb dX1_begins_24 (by decide) ?_
    refine lv_iadd hx hb dX1_begins_25 ?_
    refine lv_topi (fun v10 ev10 => ?_)
    have dv10 : dkN [(1, 16)] v10 := by rw [ev10]; exact dkN_add dv9 (dkN_lit (x := 1) (1) rfl) rfl
    refine dk_put (k := 338) hx hb hts iX1_begins_1 tyX1 tyX1_ok nmX1 hown hK hW (dk_at338 hW) hS rfl 2 (by decide) (hts (.fieldLink RX1 19 "DogKings$Asks" "tracedCount" "I") (List.mem_of_getElem? (i := 1) rfl)) rfl rfl (Nat.le_of_ble_eq_true rfl) rfl dX1_begins_26 (fun I11 H11 L11 eI11 hW hS => ?_)
    have eI11 : I11 = dkU I8 338 2 v10 := eI11
    have hO := dkO_set hO eI11 (dkN_sub dv10 rfl)
    have hF := dkF_set hF eI11 rfl
    exact W.vret hx hb hr (fun t ht hW9 => ⟨⟨I11, rfl, ⟨hF, hO, ⟨(show dkN [(1, 16)] (I11 338 2) from dkN_sub (by rw [eI11, dkU_ss]; exact dv10) rfl), trivial⟩⟩, dkW_eq ht hW⟩, hS.F ht⟩) hS.2.2 dX1_begins_29
set_option maxHeartbeats 4000000 in
set_option maxRecDepth 100000 in
theorem c_X1_gives_5 (l : Launch) (g : dkG) (z : Nat) (I0 : dkI) (p0 : Int32) (p1 : Int32) (p2 : Int32) (dp0 : dkN [(20, 20)] p0) (dp1 : dkN [(0, 5)] p1) (dp2 : dkN [(4, 4)] p2)  (hO : dkOk I0) : Met l yX1_gives wsX1_gives (dkR 1) (dkPc g z [.ref (z + 338), .int p0, .int p1, .int p2] I0) (dkQi g z (fun r I1 => dkF [(338, 338, 2, 2), (339, 339, 0, 15)] I0 I1 ∧ dkOk I1 ∧ r = p1 ∧ ((dkN [(0, 5)] r ∧ dkN [(1, 16)] (I1 338 2) ∧ True)))) 0 0 (dkA z) := by
  refine Met.ofW (cc := cX1_gives) (maxL := 5) (ret := (some .int)) (by decide) rfl ?_
  intro p e s m args below meth c s₁ B hml hv
  obtain ⟨ha, hW, hK, hT⟩ := hv
  have hx := B.exec
  have hb := B.bytes
  have hr := B.returns
  have hts := atoms_spec (ws := wsX1_gives) B.pre
  have hown : s.vm.findClass RX1 = some m.cls := findClass_of_methodNamed B.named
  have hlocks := B.notSynchronized
  have hS : va_S (dkA z) s.heap s.heap [] := va_S.rf
  have hF : dkF [(338, 338, 2, 2), (339, 339, 0, 15)] I0 I0 := dkF_rf _ _
  have hl := lv_entry ([.ref (z + 338), .int p0, .int p1, .int p2]) (n := 5) (Nat.le_of_ble_eq_true rfl)
  have hgo : entryFrame m args 5 = entryFrame m ([.ref (z + 338), .int p0, .int p1, .int p2] : List Value).toArray 5 := by rw [ha]
  rw [hgo, lg_entry_eq]
  generalize (lg_sl ([.ref (z + 338), .int p0, .int p1, .int p2]) ++ List.replicate (5 - (lg_sl ([.ref (z + 338), .int p0, .int p1, .int p2])).length) Slot.unset).toArray = ls at hl ⊢
  have hl : lv_has ls 5 [(0, .ref (z + 338)), (1, .int p0), (2, .int p1), (3, .int p2)] := hl
  refine lv_iload_n hx hb dX1_gives_0 rfl (lv_at hl 3 rfl) ?_
  refine lv_iconst (v := 5) hx hb dX1_gives_1 (by decide) ?_
  refine lv_icmp_le (tgt := 8) hx hb dX1_gives_2 (by decide) (fun c1 => ?_) (fun c1 => ?_)
  ·
    refine lv_aload_n hx hb dX1_gives_8 rfl (lv_at hl 0 rfl) ?_
    refine lv_iload_n hx hb dX1_gives_9 rfl (lv_at hl 1 rfl) ?_
    refine dk_Vv (As := [.int p0]) (rest := []) ⟨hx, hb, hml, hown, hts⟩ (c_X1_begins_3 l g z I0 p0 dp0 hO) (cwV 1 hts gX1_gives_X1_begins rfl rfl rfl (by decide +kernel) ⟨Nat.le_of_ble_eq_true rfl, Nat.le_of_ble_eq_true rfl⟩) (dk_at338 hW) rfl hK hT hW hS rfl hl.1 rfl (Nat.le_of_ble_eq_true rfl) dX1_gives_10 ⟨Nat.zero_le _, Nat.zero_le _⟩ (fun I2 H2 L2 hp2 hW hS => ?_)
    obtain ⟨hF2, hO, hc2⟩ := hp2
    have hF := dkF_call hF hF2 rfl
    obtain ⟨f2_338_2, -⟩ := hc2
    refine lv_iload_n hx hb dX1_gives_13 rfl (lv_at hl 3 rfl) ?_
    refine lv_iconst (v := 1) hx hb dX1_gives_14 (by decide) ?_
    refine lv_iadd hx hb dX1_gives_15 ?_
    refine lv_topi (fun v3 ev3 => ?_)
    have dv3 : dkN [(5, 5)] v3 := by rw [ev3]; exact dkN_add dp2 (dkN_lit (x := 1) (1) rfl) rfl
    refine lv_istore (lv' := [(4, .int v3), (0, .ref (z + 338)), (1, .int p0), (2, .int p1), (3, .int p2)]) hx hb dX1_gives_16 hl (by decide) rfl (fun ls hl => ?_)
    refine lv_iload_n hx hb dX1_gives_18 rfl (lv_at hl 2 rfl) ?_
    by_cases c4 : p0 = 20
    ·
      have qc4 : p0.toInt = 20 := by rw [c4]; rfl
      have d5 : dkN [(20, 20)] p0 := dkN_lit (20) qc4
      refine lv_tableIn (tgt := 161) hx hb dX1_gives_19 (by rw [qc4]; decide) (by rw [qc4]; decide) (by rw [qc4]; rfl) (by decide) ?_
      refine lv_iload_n hx hb dX1_gives_161 rfl (lv_at hl 3 rfl) ?_
      exact W.iret (v := p1) hx hb hr (fun t ht hW9 => ⟨⟨p1, I2, rfl, ⟨hF, hO, rfl, ⟨dkN_sub dp1 rfl, (show dkN [(1, 16)] (I2 338 2) from dkN_sub f2_338_2 rfl), trivial⟩⟩, dkW_eq ht hW⟩, hS.F ht⟩) hS.2.2 dX1_gives_162
    ·
      exact (dkN_nil (show dkN [] p0 from dkN_ne1 (20) dp0 (dkN_lit (x := 20) (20) rfl) (dk_ne c4) rfl)).elim
  ·
    exact (dkN_nil (show dkN [] p2 from dkN_le2 1 (dkN_lit (x := 5) (5) rfl) dp2 (dkc_nle c1) rfl)).elim
set_option maxHeartbeats 4000000 in
set_option maxRecDepth 100000 in
theorem c_X1_gives_4 (l : Launch) (g : dkG) (z : Nat) (I0 : dkI) (p0 : Int32) (p1 : Int32) (p2 : Int32) (dp0 : dkN [(21, 21)] p0) (dp1 : dkN [(0, 5)] p1) (dp2 : dkN [(3, 3)] p2)  (hO : dkOk I0) : Met l yX1_gives wsX1_gives (dkR 2) (dkPc g z [.ref (z + 338), .int p0, .int p1, .int p2] I0) (dkQi g z (fun r I1 => dkF [(338, 338, 2, 2), (339, 339, 0, 15)] I0 I1 ∧ dkOk I1 ∧ ((True ∧ dkN [(1, 16)] (I1 338 2) ∧ True)))) 0 0 (dkA z) := by
  refine Met.ofW (cc := cX1_gives) (maxL := 5) (ret := (some .int)) (by decide) rfl ?_
  intro p e s m args below meth c s₁ B hml hv
  obtain ⟨ha, hW, hK, hT⟩ := hv
  have hx := B.exec
  have hb := B.bytes
  have hr := B.returns
  have hts := atoms_spec (ws := wsX1_gives) B.pre
  have hown : s.vm.findClass RX1 = some m.cls := findClass_of_methodNamed B.named
  have hlocks := B.notSynchronized
  have hS : va_S (dkA z) s.heap s.heap [] := va_S.rf
  have hF : dkF [(338, 338, 2, 2), (339, 339, 0, 15)] I0 I0 := dkF_rf _ _
  have hl := lv_entry ([.ref (z + 338), .int p0, .int p1, .int p2]) (n := 5) (Nat.le_of_ble_eq_true rfl)
  have hgo : entryFrame m args 5 = entryFrame m ([.ref (z + 338), .int p0, .int p1, .int p2] : List Value).toArray 5 := by rw [ha]
  rw [hgo, lg_entry_eq]
  generalize (lg_sl ([.ref (z + 338), .int p0, .int p1, .int p2]) ++ List.replicate (5 - (lg_sl ([.ref (z + 338), .int p0, .int p1, .int p2])).length) Slot.unset).toArray = ls at hl ⊢
  have hl : lv_has ls 5 [(0, .ref (z + 338)), (1, .int p0), (2, .int p1), (3, .int p2)] := hl
  refine lv_iload_n hx hb dX1_gives_0 rfl (lv_at hl 3 rfl) ?_
  refine lv_iconst (v := 5) hx hb dX1_gives_1 (by decide) ?_
  refine lv_icmp_le (tgt := 8) hx hb dX1_gives_2 (by decide) (fun c1 => ?_) (fun c1 => ?_)
  ·
    refine lv_aload_n hx hb dX1_gives_8 rfl (lv_at hl 0 rfl) ?_
    refine lv_iload_n hx hb dX1_gives_9 rfl (lv_at hl 1 rfl) ?_
    refine dk_Vv (As := [.int p0]) (rest := []) ⟨hx, hb, hml, hown, hts⟩ (c_X1_begins_4 l g z I0 p0 dp0 hO) (cwV 1 hts gX1_gives_X1_begins rfl rfl rfl (by decide +kernel) ⟨Nat.le_of_ble_eq_true rfl, Nat.le_of_ble_eq_true rfl⟩) (dk_at338 hW) rfl hK hT hW hS rfl hl.1 rfl (Nat.le_of_ble_eq_true rfl) dX1_gives_10 ⟨Nat.zero_le _, Nat.zero_le _⟩ (fun I2 H2 L2 hp2 hW hS => ?_)
    obtain ⟨hF2, hO, hc2⟩ := hp2
    have hF := dkF_call hF hF2 rfl
    obtain ⟨f2_338_2, -⟩ := hc2
    refine lv_iload_n hx hb dX1_gives_13 rfl (lv_at hl 3 rfl) ?_
    refine lv_iconst (v := 1) hx hb dX1_gives_14 (by decide) ?_
    refine lv_iadd hx hb dX1_gives_15 ?_
    refine lv_topi (fun v3 ev3 => ?_)
    have dv3 : dkN [(4, 4)] v3 := by rw [ev3]; exact dkN_add dp2 (dkN_lit (x := 1) (1) rfl) rfl
    refine lv_istore (lv' := [(4, .int v3), (0, .ref (z + 338)), (1, .int p0), (2, .int p1), (3, .int p2)]) hx hb dX1_gives_16 hl (by decide) rfl (fun ls hl => ?_)
    refine lv_iload_n hx hb dX1_gives_18 rfl (lv_at hl 2 rfl) ?_
    by_cases c4 : p0 = 21
    ·
      have qc4 : p0.toInt = 21 := by rw [c4]; rfl
      have d5 : dkN [(21, 21)] p0 := dkN_lit (21) qc4
      refine lv_tableIn (tgt := 163) hx hb dX1_gives_19 (by rw [qc4]; decide) (by rw [qc4]; decide) (by rw [qc4]; rfl) (by decide) ?_
      refine lv_aload_n hx hb dX1_gives_163 rfl (lv_at hl 1 rfl) ?_
      refine lv_bipush (v := 20) hx hb dX1_gives_164 (by decide) ?_
      refine lv_iload_n hx hb dX1_gives_166 rfl (lv_at hl 3 rfl) ?_
      refine lv_iload hx hb dX1_gives_167 (lv_at hl 0 rfl) ?_
      refine dk_Vi (As := [.int 20, .int p1, .int v3]) (rest := []) ⟨hx, hb, hml, hown, hts⟩ (c_X1_gives_5 l g z I2 20 p1 v3 (dkN_lit (x := 20) (20) rfl) dp1 dv3 hO) (cwV 3 hts gX1_gives_X1_gives rfl rfl rfl (by decide +kernel) ⟨Nat.le_of_ble_eq_true rfl, Nat.le_of_ble_eq_true rfl⟩) (dk_at338 hW) rfl hK hT hW hS rfl hl.1 rfl (Nat.le_of_ble_eq_true rfl) dX1_gives_169 ⟨Nat.zero_le _, Nat.zero_le _⟩ (fun v6 I6 H6 L6 hp6 hW hS => ?_)
      obtain ⟨hF6, hO, ev6, hc6⟩ := hp6
      have hF := dkF_call hF hF6 rfl
      obtain ⟨dv6, f6_338_2, -⟩ := hc6
      rw [ev6]
      refine lv_aload_n hx hb dX1_gives_172 rfl (lv_at hl 1 rfl) ?_
      refine dk_get (k := 338) hx hb hts iX1_gives_1 hown hK (dk_at338 hW) rfl 0 (by decide) (hts (.fieldLink RX1 15 "DogKings$Asks" "now" "LDogKings$Town;") (List.mem_of_getElem? (i := 2) rfl)) rfl dX1_gives_173 ?_
      refine dk_get (k := 25) hx hb hts iX1_gives_4 hown hK (dk_at25 hW) rfl 14 (by decide) (hts (.fieldLink RX1 54 "DogKings$Town" "dogAt" "[I") (List.mem_of_getElem? (i := 4) rfl)) rfl dX1_gives_176 ?_
      refine lv_iload_n hx hb dX1_gives_179 rfl (lv_at hl 3 rfl) ?_
      refine dk_ild (k := 34) hx hb hK (dk_at34 hW) (dkN_in (n := 6) dp1 rfl) dX1_gives_180 ?_
      refine lv_topi (fun v7 ev7 => ?_)
      refine lv_iadd hx hb dX1_gives_181 ?_
      refine lv_topi (fun v8 ev8 => ?_)
      exact W.iret (v := v8) hx hb hr (fun t ht hW9 => ⟨⟨v8, I6, rfl, ⟨hF, hO, ⟨trivial, (show dkN [(1, 16)] (I6 338 2) from dkN_sub f6_338_2 rfl), trivial⟩⟩, dkW_eq ht hW⟩, hS.F ht⟩) hS.2.2 dX1_gives_182
    ·
      exact (dkN_nil (show dkN [] p0 from dkN_ne1 (21) dp0 (dkN_lit (x := 21) (21) rfl) (dk_ne c4) rfl)).elim
  ·
    exact (dkN_nil (show dkN [] p2 from dkN_le2 1 (dkN_lit (x := 5) (5) rfl) dp2 (dkc_nle c1) rfl)).elim
set_option maxHeartbeats 4000000 in
set_option maxRecDepth 100000 in
theorem c_X1_begins_5 (l : Launch) (g : dkG) (z : Nat) (I0 : dkI) (p0 : Int32) (dp0 : dkN [(10, 14)] p0)  (hO : dkOk I0) : Met l yX1_begins wsX1_begins (dkR 0) (dkPc g z [.ref (z + 338), .int p0] I0) (dkQv g z (fun I1 => dkF [(338, 338, 2, 2), (339, 339, 0, 15)] I0 I1 ∧ dkOk I1 ∧ ((dkN [(1, 16)] (I1 338 2) ∧ True)))) 0 0 (dkA z) := by
  refine Met.ofW (cc := cX1_begins) (maxL := 2) (ret := none) (by decide) rfl ?_
  intro p e s m args below meth c s₁ B hml hv
  obtain ⟨ha, hW, hK, hT⟩ := hv
  have hx := B.exec
  have hb := B.bytes
  have hr := B.returns
  have hts := atoms_spec (ws := wsX1_begins) B.pre
  have hown : s.vm.findClass RX1 = some m.cls := findClass_of_methodNamed B.named
  have hlocks := B.notSynchronized
  have hS : va_S (dkA z) s.heap s.heap [] := va_S.rf
  have hF : dkF [(338, 338, 2, 2), (339, 339, 0, 15)] I0 I0 := dkF_rf _ _
  have hl := lv_entry ([.ref (z + 338), .int p0]) (n := 2) (Nat.le_of_ble_eq_true rfl)
  have hgo : entryFrame m args 2 = entryFrame m ([.ref (z + 338), .int p0] : List Value).toArray 2 := by rw [ha]
  rw [hgo, lg_entry_eq]
  generalize (lg_sl ([.ref (z + 338), .int p0]) ++ List.replicate (2 - (lg_sl ([.ref (z + 338), .int p0])).length) Slot.unset).toArray = ls at hl ⊢
  have hl : lv_has ls 2 [(0, .ref (z + 338)), (1, .int p0)] := hl
  refine lv_aload_n hx hb dX1_begins_0 rfl (lv_at hl 0 rfl) ?_
  refine dk_get (k := 338) hx hb hts iX1_begins_1 hown hK (dk_at338 hW) rfl 2 (by decide) (hts (.fieldLink RX1 19 "DogKings$Asks" "tracedCount" "I") (List.mem_of_getElem? (i := 1) rfl)) rfl dX1_begins_1 ?_
  refine lv_topi (fun v1 ev1 => ?_)
  have dv1 : dkN [(0, 16)] v1 := by rw [ev1]; exact (hO 338 2)
  refine lv_bipush (v := 16) hx hb dX1_begins_4 (by decide) ?_
  refine lv_icmp_ge (tgt := 29) hx hb dX1_begins_6 (by decide) (fun c2 => ?_) (fun c2 => ?_)
  ·
    have d3 : dkN [(16, 16)] v1 := dkN_le2 0 (dkN_lit (x := 16) (16) rfl) dv1 (dkc_le c2) rfl
    have f4 : dkN [(16, 16)] (I0 338 2) := by rw [← ev1]; exact d3
    exact W.vret hx hb hr (fun t ht hW9 => ⟨⟨I0, rfl, ⟨hF, hO, ⟨(show dkN [(1, 16)] (I0 338 2) from dkN_sub f4 rfl), trivial⟩⟩, dkW_eq ht hW⟩, hS.F ht⟩) hS.2.2 dX1_begins_29
  ·
    have d5 : dkN [(0, 15)] v1 := dkN_le1 1 dv1 (dkN_lit (x := 16) (16) rfl) (dkc_nle c2) rfl
    have f6 : dkN [(0, 15)] (I0 338 2) := by rw [← ev1]; exact d5
    refine lv_aload_n hx hb dX1_begins_9 rfl (lv_at hl 0 rfl) ?_
    refine dk_get (k := 338) hx hb hts iX1_begins_1 hown hK (dk_at338 hW) rfl 1 (by decide) (hts (.fieldLink RX1 11 "DogKings$Asks" "traced" "[I") (List.mem_of_getElem? (i := 2) rfl)) rfl dX1_begins_10 ?_
    refine lv_aload_n hx hb dX1_begins_13 rfl (lv_at hl 0 rfl) ?_
    refine dk_get (k := 338) hx hb hts iX1_begins_1 hown hK (dk_at338 hW) rfl 2 (by decide) (hts (.fieldLink RX1 19 "DogKings$Asks" "tracedCount" "I") (List.mem_of_getElem? (i := 1) rfl)) rfl dX1_begins_14 ?_
    refine lv_topi (fun v7 ev7 => ?_)
    have dv7 : dkN [(0, 15)] v7 := by rw [ev7]; exact f6
    refine lv_iload_n hx hb dX1_begins_17 rfl (lv_at hl 1 rfl) ?_
    refine dk_ist (k := 339) hx hb hK hW (fun _ => rfl) (by decide) hS (dkN_in (n := 16) dv7 rfl) dX1_begins_18 (fun I8 H8 L8 eI8 hW hS => ?_)
    have hO := dkO_set hO eI8 (dkN_sub dp0 rfl)
    have hF := dkF_set hF eI8 (dkIn_v dv7 rfl)
    refine lv_aload_n hx hb dX1_begins_19 rfl (lv_at hl 0 rfl) ?_
    refine lv_dup hx hb dX1_begins_20 rfl ?_
    refine dk_get (k := 338) hx hb hts iX1_begins_1 hown hK (dk_at338 hW) rfl 2 (by decide) (hts (.fieldLink RX1 19 "DogKings$Asks" "tracedCount" "I") (List.mem_of_getElem? (i := 1) rfl)) rfl dX1_begins_21 ?_
    refine lv_topi (fun v9 ev9 => ?_)
    have dv9 : dkN [(0, 15)] v9 := by rw [ev9]; exact (by rw [eI8, dkU_n (by decide)]; exact f6)
    refine lv_iconst (v := 1) hx hb dX1_begins_24 (by decide) ?_
    refine lv_iadd hx hb dX1_begins_25 ?_
    refine lv_topi (fun v10 ev10 => ?_)
    have dv10 : dkN [(1, 16)] v10 := by rw [ev10]; exact dkN_add dv9 (dkN_lit (x := 1) (1) rfl) rfl
    refine dk_put (k := 338) hx hb hts iX1_begins_1 tyX1 tyX1_ok nmX1 hown hK hW (dk_at338 hW) hS rfl 2 (by decide) (hts (.fieldLink RX1 19 "DogKings$Asks" "tracedCount" "I") (List.mem_of_getElem? (i := 1) rfl)) rfl rfl (Nat.le_of_ble_eq_true rfl) rfl dX1_begins_26 (fun I11 H11 L11 eI11 hW hS => ?_)
    have eI11 : I11 = dkU I8 338 2 v10 := eI11
    have hO := dkO_set hO eI11 (dkN_sub dv10 rfl)
    have hF := dkF_set hF eI11 rfl
    exact W.vret hx hb hr (fun t ht hW9 => ⟨⟨I11, rfl, ⟨hF, hO, ⟨(show dkN [(1, 16)] (I11 338 2) from dkN_sub (by rw [eI11, dkU_ss]; exact dv10) rfl), trivial⟩⟩, dkW_eq ht hW⟩, hS.F ht⟩) hS.2.2 dX1_begins_29
set_option maxHeartbeats 4000000 in
set_option maxRecDepth 100000 in
theorem c_X1_gives_7 (l : Launch) (g : dkG) (z : Nat) (I0 : dkI) (p0 : Int32) (p1 : Int32) (p2 : Int32) (dp0 : dkN [(10, 10)] p0) (dp1 : dkN [(0, 5)] p1) (dp2 : dkN [(4, 4)] p2)  (hO : dkOk I0) : Met l yX1_gives wsX1_gives (dkR 1) (dkPc g z [.ref (z + 338), .int p0, .int p1, .int p2] I0) (dkQi g z (fun r I1 => dkF [(338, 338, 2, 2), (339, 339, 0, 15)] I0 I1 ∧ dkOk I1 ∧ ((True ∧ dkN [(1, 16)] (I1 338 2) ∧ True)))) 0 0 (dkA z) := by
  refine Met.ofW (cc := cX1_gives) (maxL := 5) (ret := (some .int)) (by decide) rfl ?_
  intro p e s m args below meth c s₁ B hml hv
  obtain ⟨ha, hW, hK, hT⟩ := hv
  have hx := B.exec
  have hb := B.bytes
  have hr := B.returns
  have hts := atoms_spec (ws := wsX1_gives) B.pre
  have hown : s.vm.findClass RX1 = some m.cls := findClass_of_methodNamed B.named
  have hlocks := B.notSynchronized
  have hS : va_S (dkA z) s.heap s.heap [] := va_S.rf
  have hF : dkF [(338, 338, 2, 2), (339, 339, 0, 15)] I0 I0 := dkF_rf _ _
  have hl := lv_entry ([.ref (z + 338), .int p0, .int p1, .int p2]) (n := 5) (Nat.le_of_ble_eq_true rfl)
  have hgo : entryFrame m args 5 = entryFrame m ([.ref (z + 338), .int p0, .int p1, .int p2] : List Value).toArray 5 := by rw [ha]
  rw [hgo, lg_entry_eq]
  generalize (lg_sl ([.ref (z + 338), .int p0, .int p1, .int p2]) ++ List.replicate (5 - (lg_sl ([.ref (z + 338), .int p0, .int p1, .int p2])).length) Slot.unset).toArray = ls at hl ⊢
  have hl : lv_has ls 5 [(0, .ref (z + 338)), (1, .int p0), (2, .int p1), (3, .int p2)] := hl
  refine lv_iload_n hx hb dX1_gives_0 rfl (lv_at hl 3 rfl) ?_
  refine lv_iconst (v := 5) hx hb dX1_gives_1 (by decide) ?_
  refine lv_icmp_le (tgt := 8) hx hb dX1_gives_2 (by decide) (fun c1 => ?_) (fun c1 => ?_)
  ·
    refine lv_aload_n hx hb dX1_gives_8 rfl (lv_at hl 0 rfl) ?_
    refine lv_iload_n hx hb dX1_gives_9 rfl (lv_at hl 1 rfl) ?_
    refine dk_Vv (As := [.int p0]) (rest := []) ⟨hx, hb, hml, hown, hts⟩ (c_X1_begins_1 l g z I0 p0 dp0 hO) (cwV 1 hts gX1_gives_X1_begins rfl rfl rfl (by decide +kernel) ⟨Nat.le_of_ble_eq_true rfl, Nat.le_of_ble_eq_true rfl⟩) (dk_at338 hW) rfl hK hT hW hS rfl hl.1 rfl (Nat.le_of_ble_eq_true rfl) dX1_gives_10 ⟨Nat.zero_le _, Nat.zero_le _⟩ (fun I2 H2 L2 hp2 hW hS => ?_)
    obtain ⟨hF2, hO, hc2⟩ := hp2
    have hF := dkF_call hF hF2 rfl
    obtain ⟨f2_338_2, -⟩ := hc2
    refine lv_iload_n hx hb dX1_gives_13 rfl (lv_at hl 3 rfl) ?_
    refine lv_iconst (v := 1) hx hb dX1_gives_14 (by decide) ?_
    refine lv_iadd hx hb dX1_gives_15 ?_
    refine lv_topi (fun v3 ev3 => ?_)
    have dv3 : dkN [(5, 5)] v3 := by rw [ev3]; exact dkN_add dp2 (dkN_lit (x := 1) (1) rfl) rfl
    refine lv_istore (lv' := [(4, .int v3), (0, .ref (z + 338)), (1, .int p0), (2, .int p1), (3, .int p2)]) hx hb dX1_gives_16 hl (by decide) rfl (fun ls hl => ?_)
    refine lv_iload_n hx hb dX1_gives_18 rfl (lv_at hl 2 rfl) ?_
    by_cases c4 : p0 = 10
    ·
      have qc4 : p0.toInt = 10 := by rw [c4]; rfl
      have d5 : dkN [(10, 10)] p0 := dkN_lit (10) qc4
      refine lv_tableIn (tgt := 92) hx hb dX1_gives_19 (by rw [qc4]; decide) (by rw [qc4]; decide) (by rw [qc4]; rfl) (by decide) ?_
      refine lv_aload_n hx hb dX1_gives_92 rfl (lv_at hl 1 rfl) ?_
      refine dk_get (k := 338) hx hb hts iX1_gives_1 hown hK (dk_at338 hW) rfl 0 (by decide) (hts (.fieldLink RX1 15 "DogKings$Asks" "now" "LDogKings$Town;") (List.mem_of_getElem? (i := 2) rfl)) rfl dX1_gives_93 ?_
      refine dk_get (k := 25) hx hb hts iX1_gives_4 hown hK (dk_at25 hW) rfl 13 (by decide) (hts (.fieldLink RX1 51 "DogKings$Town" "dogHome" "[I") (List.mem_of_getElem? (i := 3) rfl)) rfl dX1_gives_96 ?_
      refine lv_iload_n hx hb dX1_gives_99 rfl (lv_at hl 3 rfl) ?_
      refine dk_ild (k := 33) hx hb hK (dk_at33 hW) (dkN_in (n := 6) dp1 rfl) dX1_gives_100 ?_
      refine lv_topi (fun v6 ev6 => ?_)
      exact W.iret (v := v6) hx hb hr (fun t ht hW9 => ⟨⟨v6, I2, rfl, ⟨hF, hO, ⟨trivial, (show dkN [(1, 16)] (I2 338 2) from dkN_sub f2_338_2 rfl), trivial⟩⟩, dkW_eq ht hW⟩, hS.F ht⟩) hS.2.2 dX1_gives_101
    ·
      exact (dkN_nil (show dkN [] p0 from dkN_ne1 (10) dp0 (dkN_lit (x := 10) (10) rfl) (dk_ne c4) rfl)).elim
  ·
    exact (dkN_nil (show dkN [] p2 from dkN_le2 1 (dkN_lit (x := 5) (5) rfl) dp2 (dkc_nle c1) rfl)).elim
set_option maxHeartbeats 4000000 in
set_option maxRecDepth 100000 in
theorem c_X1_gives_9 (l : Launch) (g : dkG) (z : Nat) (I0 : dkI) (p0 : Int32) (p1 : Int32) (p2 : Int32) (dp0 : dkN [(20, 20)] p0) (dp1 : dkN [(0, 5)] p1) (dp2 : dkN [(5, 5)] p2)  (hO : dkOk I0) : Met l yX1_gives wsX1_gives (dkR 1) (dkPc g z [.ref (z + 338), .int p0, .int p1, .int p2] I0) (dkQi g z (fun r I1 => dkF [(338, 338, 2, 2), (339, 339, 0, 15)] I0 I1 ∧ dkOk I1 ∧ r = p1 ∧ ((dkN [(0, 5)] r ∧ dkN [(1, 16)] (I1 338 2) ∧ True)))) 0 0 (dkA z) := by
  refine Met.ofW (cc := cX1_gives) (maxL := 5) (ret := (some .int)) (by decide) rfl ?_
  intro p e s m args below meth c s₁ B hml hv
  obtain ⟨ha, hW, hK, hT⟩ := hv
  have hx := B.exec
  have hb := B.bytes
  have hr := B.returns
  have hts := atoms_spec (ws := wsX1_gives) B.pre
  have hown : s.vm.findClass RX1 = some m.cls := findClass_of_methodNamed B.named
  have hlocks := B.notSynchronized
  have hS : va_S (dkA z) s.heap s.heap [] := va_S.rf
  have hF : dkF [(338, 338, 2, 2), (339, 339, 0, 15)] I0 I0 := dkF_rf _ _
  have hl := lv_entry ([.ref (z + 338), .int p0, .int p1, .int p2]) (n := 5) (Nat.le_of_ble_eq_true rfl)
  have hgo : entryFrame m args 5 = entryFrame m ([.ref (z + 338), .int p0, .int p1, .int p2] : List Value).toArray 5 := by rw [ha]
  rw [hgo, lg_entry_eq]
  generalize (lg_sl ([.ref (z + 338), .int p0, .int p1, .int p2]) ++ List.replicate (5 - (lg_sl ([.ref (z + 338), .int p0, .int p1, .int p2])).length) Slot.unset).toArray = ls at hl ⊢
  have hl : lv_has ls 5 [(0, .ref (z + 338)), (1, .int p0), (2, .int p1), (3, .int p2)] := hl
  refine lv_iload_n hx hb dX1_gives_0 rfl (lv_at hl 3 rfl) ?_
  refine lv_iconst (v := 5) hx hb dX1_gives_1 (by decide) ?_
  refine lv_icmp_le (tgt := 8) hx hb dX1_gives_2 (by decide) (fun c1 => ?_) (fun c1 => ?_)
  ·
    refine lv_aload_n hx hb dX1_gives_8 rfl (lv_at hl 0 rfl) ?_
    refine lv_iload_n hx hb dX1_gives_9 rfl (lv_at hl 1 rfl) ?_
    refine dk_Vv (As := [.int p0]) (rest := []) ⟨hx, hb, hml, hown, hts⟩ (c_X1_begins_3 l g z I0 p0 dp0 hO) (cwV 1 hts gX1_gives_X1_begins rfl rfl rfl (by decide +kernel) ⟨Nat.le_of_ble_eq_true rfl, Nat.le_of_ble_eq_true rfl⟩) (dk_at338 hW) rfl hK hT hW hS rfl hl.1 rfl (Nat.le_of_ble_eq_true rfl) dX1_gives_10 ⟨Nat.zero_le _, Nat.zero_le _⟩ (fun I2 H2 L2 hp2 hW hS => ?_)
    obtain ⟨hF2, hO, hc2⟩ := hp2
    have hF := dkF_call hF hF2 rfl
    obtain ⟨f2_338_2, -⟩ := hc2
    refine lv_iload_n hx hb dX1_gives_13 rfl (lv_at hl 3 rfl) ?_
    refine lv_iconst (v := 1) hx hb dX1_gives_14 (by decide) ?_
    refine lv_iadd hx hb dX1_gives_15 ?_
    refine lv_topi (fun v3 ev3 => ?_)
    have dv3 : dkN [(6, 6)] v3 := by rw [ev3]; exact dkN_add dp2 (dkN_lit (x := 1) (1) rfl) rfl
    refine lv_istore (lv' := [(4, .int v3), (0, .ref (z + 338)), (1, .int p0), (2, .int p1), (3, .int p2)]) hx hb dX1_gives_16 hl (by decide) rfl (fun ls hl => ?_)
    refine lv_iload_n hx hb dX1_gives_18 rfl (lv_at hl 2 rfl) ?_
    by_cases c4 : p0 = 20
    ·
      have qc4 : p0.toInt = 20 := by rw [c4]; rfl
      have d5 : dkN [(20, 20)] p0 := dkN_lit (20) qc4
      refine lv_tableIn (tgt := 161) hx hb dX1_gives_19 (by rw [qc4]; decide) (by rw [qc4]; decide) (by rw [qc4]; rfl) (by decide) ?_
      refine lv_iload_n hx hb dX1_gives_161 rfl (lv_at hl 3 rfl) ?_
      exact W.iret (v := p1) hx hb hr (fun t ht hW9 => ⟨⟨p1, I2, rfl, ⟨hF, hO, rfl, ⟨dkN_sub dp1 rfl, (show dkN [(1, 16)] (I2 338 2) from dkN_sub f2_338_2 rfl), trivial⟩⟩, dkW_eq ht hW⟩, hS.F ht⟩) hS.2.2 dX1_gives_162
    ·
      exact (dkN_nil (show dkN [] p0 from dkN_ne1 (20) dp0 (dkN_lit (x := 20) (20) rfl) (dk_ne c4) rfl)).elim
  ·
    exact (dkN_nil (show dkN [] p2 from dkN_le2 1 (dkN_lit (x := 5) (5) rfl) dp2 (dkc_nle c1) rfl)).elim
set_option maxHeartbeats 4000000 in
set_option maxRecDepth 100000 in
theorem c_X1_gives_11 (l : Launch) (g : dkG) (z : Nat) (I0 : dkI) (p0 : Int32) (p1 : Int32) (p2 : Int32) (dp0 : dkN [(20, 20)] p0) (dp1 : dkN [(0, 5)] p1) (dp2 : dkN [(6, 6)] p2)  (hO : dkOk I0) : Met l yX1_gives wsX1_gives (dkR 0) (dkPc g z [.ref (z + 338), .int p0, .int p1, .int p2] I0) (dkQi g z (fun r I1 => dkF [] I0 I1 ∧ dkOk I1 ∧ ((dkN [(-1000001, -1000001)] r ∧ True)))) 0 0 (dkA z) := by
  refine Met.ofW (cc := cX1_gives) (maxL := 5) (ret := (some .int)) (by decide) rfl ?_
  intro p e s m args below meth c s₁ B hml hv
  obtain ⟨ha, hW, hK, hT⟩ := hv
  have hx := B.exec
  have hb := B.bytes
  have hr := B.returns
  have hts := atoms_spec (ws := wsX1_gives) B.pre
  have hown : s.vm.findClass RX1 = some m.cls := findClass_of_methodNamed B.named
  have hlocks := B.notSynchronized
  have hS : va_S (dkA z) s.heap s.heap [] := va_S.rf
  have hF : dkF [] I0 I0 := dkF_rf _ _
  have hl := lv_entry ([.ref (z + 338), .int p0, .int p1, .int p2]) (n := 5) (Nat.le_of_ble_eq_true rfl)
  have hgo : entryFrame m args 5 = entryFrame m ([.ref (z + 338), .int p0, .int p1, .int p2] : List Value).toArray 5 := by rw [ha]
  rw [hgo, lg_entry_eq]
  generalize (lg_sl ([.ref (z + 338), .int p0, .int p1, .int p2]) ++ List.replicate (5 - (lg_sl ([.ref (z + 338), .int p0, .int p1, .int p2])).length) Slot.unset).toArray = ls at hl ⊢
  have hl : lv_has ls 5 [(0, .ref (z + 338)), (1, .int p0), (2, .int p1), (3, .int p2)] := hl
  refine lv_iload_n hx hb dX1_gives_0 rfl (lv_at hl 3 rfl) ?_
  refine lv_iconst (v := 5) hx hb dX1_gives_1 (by decide) ?_
  refine lv_icmp_le (tgt := 8) hx hb dX1_gives_2 (by decide) (fun c1 => ?_) (fun c1 => ?_)
  ·
    exact (dkN_nil (show dkN [] p2 from dkN_le1 0 dp2 (dkN_lit (x := 5) (5) rfl) (dkc_le c1) rfl)).elim
  ·
    refine lv_ldc (v := (-1000001)) hx hb hown (hts (.constant RX1 46 (-1000001)) (List.mem_of_getElem? (i := 1) rfl)) dX1_gives_5 ?_
    exact W.iret (v := (-1000001)) hx hb hr (fun t ht hW9 => ⟨⟨(-1000001), I0, rfl, ⟨hF, hO, ⟨dkN_sub (dkN_lit (x := (-1000001)) (-1000001) rfl) rfl, trivial⟩⟩, dkW_eq ht hW⟩, hS.F ht⟩) hS.2.2 dX1_gives_7
set_option maxHeartbeats 4000000 in
set_option maxRecDepth 100000 in
theorem c_X1_gives_10 (l : Launch) (g : dkG) (z : Nat) (I0 : dkI) (p0 : Int32) (p1 : Int32) (p2 : Int32) (dp0 : dkN [(21, 21)] p0) (dp1 : dkN [(0, 5)] p1) (dp2 : dkN [(5, 5)] p2)  (hO : dkOk I0) : Met l yX1_gives wsX1_gives (dkR 1) (dkPc g z [.ref (z + 338), .int p0, .int p1, .int p2] I0) (dkQi g z (fun r I1 => dkF [(338, 338, 2, 2), (339, 339, 0, 15)] I0 I1 ∧ dkOk I1 ∧ ((True ∧ dkN [(1, 16)] (I1 338 2) ∧ True)))) 0 0 (dkA z) := by
  refine Met.ofW (cc := cX1_gives) (maxL := 5) (ret := (some .int)) (by decide) rfl ?_
  intro p e s m args below meth c s₁ B hml hv
  obtain ⟨ha, hW, hK, hT⟩ := hv
  have hx := B.exec
  have hb := B.bytes
  have hr := B.returns
  have hts := atoms_spec (ws := wsX1_gives) B.pre
  have hown : s.vm.findClass RX1 = some m.cls := findClass_of_methodNamed B.named
  have hlocks := B.notSynchronized
  have hS : va_S (dkA z) s.heap s.heap [] := va_S.rf
  have hF : dkF [(338, 338, 2, 2), (339, 339, 0, 15)] I0 I0 := dkF_rf _ _
  have hl := lv_entry ([.ref (z + 338), .int p0, .int p1, .int p2]) (n := 5) (Nat.le_of_ble_eq_true rfl)
  have hgo : entryFrame m args 5 = entryFrame m ([.ref (z + 338), .int p0, .int p1, .int p2] : List Value).toArray 5 := by rw [ha]
  rw [hgo, lg_entry_eq]
  generalize (lg_sl ([.ref (z + 338), .int p0, .int p1, .int p2]) ++ List.replicate (5 - (lg_sl ([.ref (z + 338), .int p0, .int p1, .int p2])).length) Slot.unset).toArray = ls at hl ⊢
  have hl : lv_has ls 5 [(0, .ref (z + 338)), (1, .int p0), (2, .int p1), (3, .int p2)] := hl
  refine lv_iload_n hx hb dX1_gives_0 rfl (lv_at hl 3 rfl) ?_
  refine lv_iconst (v := 5) hx hb dX1_gives_1 (by decide) ?_
  refine lv_icmp_le (tgt := 8) hx hb dX1_gives_2 (by decide) (fun c1 => ?_) (fun c1 => ?_)
  ·
    refine lv_aload_n hx hb dX1_gives_8 rfl (lv_at hl 0 rfl) ?_
    refine lv_iload_n hx hb dX1_gives_9 rfl (lv_at hl 1 rfl) ?_
    refine dk_Vv (As := [.int p0]) (rest := []) ⟨hx, hb, hml, hown, hts⟩ (c_X1_begins_4 l g z I0 p0 dp0 hO) (cwV 1 hts gX1_gives_X1_begins rfl rfl rfl (by decide +kernel) ⟨Nat.le_of_ble_eq_true rfl, Nat.le_of_ble_eq_true rfl⟩) (dk_at338 hW) rfl hK hT hW hS rfl hl.1 rfl (Nat.le_of_ble_eq_true rfl) dX1_gives_10 ⟨Nat.zero_le _, Nat.zero_le _⟩ (fun I2 H2 L2 hp2 hW hS => ?_)
    obtain ⟨hF2, hO, hc2⟩ := hp2
    have hF := dkF_call hF hF2 rfl
    obtain ⟨f2_338_2, -⟩ := hc2
    refine lv_iload_n hx hb dX1_gives_13 rfl (lv_at hl 3 rfl) ?_
    refine lv_iconst (v := 1) hx hb dX1_gives_14 (by decide) ?_
    refine lv_iadd hx hb dX1_gives_15 ?_
    refine lv_topi (fun v3 ev3 => ?_)
    have dv3 : dkN [(6, 6)] v3 := by rw [ev3]; exact dkN_add dp2 (dkN_lit (x := 1) (1) rfl) rfl
    refine lv_istore (lv' := [(4, .int v3), (0, .ref (z + 338)), (1, .int p0), (2, .int p1), (3, .int p2)]) hx hb dX1_gives_16 hl (by decide) rfl (fun ls hl => ?_)
    refine lv_iload_n hx hb dX1_gives_18 rfl (lv_at hl 2 rfl) ?_
    by_cases c4 : p0 = 21
    ·
      have qc4 : p0.toInt = 21 := by rw [c4]; rfl
      have d5 : dkN [(21, 21)] p0 := dkN_lit (21) qc4
      refine lv_tableIn (tgt := 163) hx hb dX1_gives_19 (by rw [qc4]; decide) (by rw [qc4]; decide) (by rw [qc4]; rfl) (by decide) ?_
      refine lv_aload_n hx hb dX1_gives_163 rfl (lv_at hl 1 rfl) ?_
      refine lv_bipush (v := 20) hx hb dX1_gives_164 (by decide) ?_
      refine lv_iload_n hx hb dX1_gives_166 rfl (lv_at hl 3 rfl) ?_
      refine lv_iload hx hb dX1_gives_167 (lv_at hl 0 rfl) ?_
      refine dk_Vi (As := [.int 20, .int p1, .int v3]) (rest := []) ⟨hx, hb, hml, hown, hts⟩ (c_X1_gives_11 l g z I2 20 p1 v3 (dkN_lit (x := 20) (20) rfl) dp1 dv3 hO) (cwV 3 hts gX1_gives_X1_gives rfl rfl rfl (by decide +kernel) ⟨Nat.le_of_ble_eq_true rfl, Nat.le_of_ble_eq_true rfl⟩) (dk_at338 hW) rfl hK hT hW hS rfl hl.1 rfl (Nat.le_of_ble_eq_true rfl) dX1_gives_169 ⟨Nat.zero_le _, Nat.zero_le _⟩ (fun v6 I6 H6 L6 hp6 hW hS => ?_)
      obtain ⟨hF6, hO, hc6⟩ := hp6
      have hF := dkF_call hF hF6 rfl
      obtain ⟨dv6, -⟩ := hc6
      refine lv_aload_n hx hb dX1_gives_172 rfl (lv_at hl 1 rfl) ?_
      refine dk_get (k := 338) hx hb hts iX1_gives_1 hown hK (dk_at338 hW) rfl 0 (by decide) (hts (.fieldLink RX1 15 "DogKings$Asks" "now" "LDogKings$Town;") (List.mem_of_getElem? (i := 2) rfl)) rfl dX1_gives_173 ?_
      refine dk_get (k := 25) hx hb hts iX1_gives_4 hown hK (dk_at25 hW) rfl 14 (by decide) (hts (.fieldLink RX1 54 "DogKings$Town" "dogAt" "[I") (List.mem_of_getElem? (i := 4) rfl)) rfl dX1_gives_176 ?_
      refine lv_iload_n hx hb dX1_gives_179 rfl (lv_at hl 3 rfl) ?_
      refine dk_ild (k := 34) hx hb hK (dk_at34 hW) (dkN_in (n := 6) dp1 rfl) dX1_gives_180 ?_
      refine lv_topi (fun v7 ev7 => ?_)
      refine lv_iadd hx hb dX1_gives_181 ?_
      refine lv_topi (fun v8 ev8 => ?_)
      exact W.iret (v := v8) hx hb hr (fun t ht hW9 => ⟨⟨v8, I6, rfl, ⟨hF, hO, ⟨trivial, (show dkN [(1, 16)] (I6 338 2) from dkN_sub (by rw [hF6 338 2 rfl]; exact f2_338_2) rfl), trivial⟩⟩, dkW_eq ht hW⟩, hS.F ht⟩) hS.2.2 dX1_gives_182
    ·
      exact (dkN_nil (show dkN [] p0 from dkN_ne1 (21) dp0 (dkN_lit (x := 21) (21) rfl) (dk_ne c4) rfl)).elim
  ·
    exact (dkN_nil (show dkN [] p2 from dkN_le2 1 (dkN_lit (x := 5) (5) rfl) dp2 (dkc_nle c1) rfl)).elim
set_option maxHeartbeats 4000000 in
set_option maxRecDepth 100000 in
theorem c_X1_gives_13 (l : Launch) (g : dkG) (z : Nat) (I0 : dkI) (p0 : Int32) (p1 : Int32) (p2 : Int32) (dp0 : dkN [(10, 10)] p0) (dp1 : dkN [(0, 5)] p1) (dp2 : dkN [(6, 6)] p2)  (hO : dkOk I0) : Met l yX1_gives wsX1_gives (dkR 0) (dkPc g z [.ref (z + 338), .int p0, .int p1, .int p2] I0) (dkQi g z (fun r I1 => dkF [] I0 I1 ∧ dkOk I1 ∧ ((dkN [(-1000001, -1000001)] r ∧ True)))) 0 0 (dkA z) := by
  refine Met.ofW (cc := cX1_gives) (maxL := 5) (ret := (some .int)) (by decide) rfl ?_
  intro p e s m args below meth c s₁ B hml hv
  obtain ⟨ha, hW, hK, hT⟩ := hv
  have hx := B.exec
  have hb := B.bytes
  have hr := B.returns
  have hts := atoms_spec (ws := wsX1_gives) B.pre
  have hown : s.vm.findClass RX1 = some m.cls := findClass_of_methodNamed B.named
  have hlocks := B.notSynchronized
  have hS : va_S (dkA z) s.heap s.heap [] := va_S.rf
  have hF : dkF [] I0 I0 := dkF_rf _ _
  have hl := lv_entry ([.ref (z + 338), .int p0, .int p1, .int p2]) (n := 5) (Nat.le_of_ble_eq_true rfl)
  have hgo : entryFrame m args 5 = entryFrame m ([.ref (z + 338), .int p0, .int p1, .int p2] : List Value).toArray 5 := by rw [ha]
  rw [hgo, lg_entry_eq]
  generalize (lg_sl ([.ref (z + 338), .int p0, .int p1, .int p2]) ++ List.replicate (5 - (lg_sl ([.ref (z + 338), .int p0, .int p1, .int p2])).length) Slot.unset).toArray = ls at hl ⊢
  have hl : lv_has ls 5 [(0, .ref (z + 338)), (1, .int p0), (2, .int p1), (3, .int p2)] := hl
  refine lv_iload_n hx hb dX1_gives_0 rfl (lv_at hl 3 rfl) ?_
  refine lv_iconst (v := 5) hx hb dX1_gives_1 (by decide) ?_
  refine lv_icmp_le (tgt := 8) hx hb dX1_gives_2 (by decide) (fun c1 => ?_) (fun c1 => ?_)
  ·
    exact (dkN_nil (show dkN [] p2 from dkN_le1 0 dp2 (dkN_lit (x := 5) (5) rfl) (dkc_le c1) rfl)).elim
  ·
    refine lv_ldc (v := (-1000001)) hx hb hown (hts (.constant RX1 46 (-1000001)) (List.mem_of_getElem? (i := 1) rfl)) dX1_gives_5 ?_
    exact W.iret (v := (-1000001)) hx hb hr (fun t ht hW9 => ⟨⟨(-1000001), I0, rfl, ⟨hF, hO, ⟨dkN_sub (dkN_lit (x := (-1000001)) (-1000001) rfl) rfl, trivial⟩⟩, dkW_eq ht hW⟩, hS.F ht⟩) hS.2.2 dX1_gives_7
set_option maxHeartbeats 4000000 in
set_option maxRecDepth 100000 in
theorem c_X1_gives_14 (l : Launch) (g : dkG) (z : Nat) (I0 : dkI) (p0 : Int32) (p1 : Int32) (p2 : Int32) (dp0 : dkN [(20, 24)] p0) (dp1 : dkN [(0, 5)] p1) (dp2 : dkN [(6, 6)] p2)  (hO : dkOk I0) : Met l yX1_gives wsX1_gives (dkR 0) (dkPc g z [.ref (z + 338), .int p0, .int p1, .int p2] I0) (dkQi g z (fun r I1 => dkF [] I0 I1 ∧ dkOk I1 ∧ ((dkN [(-1000001, -1000001)] r ∧ True)))) 0 0 (dkA z) := by
  refine Met.ofW (cc := cX1_gives) (maxL := 5) (ret := (some .int)) (by decide) rfl ?_
  intro p e s m args below meth c s₁ B hml hv
  obtain ⟨ha, hW, hK, hT⟩ := hv
  have hx := B.exec
  have hb := B.bytes
  have hr := B.returns
  have hts := atoms_spec (ws := wsX1_gives) B.pre
  have hown : s.vm.findClass RX1 = some m.cls := findClass_of_methodNamed B.named
  have hlocks := B.notSynchronized
  have hS : va_S (dkA z) s.heap s.heap [] := va_S.rf
  have hF : dkF [] I0 I0 := dkF_rf _ _
  have hl := lv_entry ([.ref (z + 338), .int p0, .int p1, .int p2]) (n := 5) (Nat.le_of_ble_eq_true rfl)
  have hgo : entryFrame m args 5 = entryFrame m ([.ref (z + 338), .int p0, .int p1, .int p2] : List Value).toArray 5 := by rw [ha]
  rw [hgo, lg_entry_eq]
  generalize (lg_sl ([.ref (z + 338), .int p0, .int p1, .int p2]) ++ List.replicate (5 - (lg_sl ([.ref (z + 338), .int p0, .int p1, .int p2])).length) Slot.unset).toArray = ls at hl ⊢
  have hl : lv_has ls 5 [(0, .ref (z + 338)), (1, .int p0), (2, .int p1), (3, .int p2)] := hl
  refine lv_iload_n hx hb dX1_gives_0 rfl (lv_at hl 3 rfl) ?_
  refine lv_iconst (v := 5) hx hb dX1_gives_1 (by decide) ?_
  refine lv_icmp_le (tgt := 8) hx hb dX1_gives_2 (by decide) (fun c1 => ?_) (fun c1 => ?_)
  ·
    exact (dkN_nil (show dkN [] p2 from dkN_le1 0 dp2 (dkN_lit (x := 5) (5) rfl) (dkc_le c1) rfl)).elim
  ·
    refine lv_ldc (v := (-1000001)) hx hb hown (hts (.constant RX1 46 (-1000001)) (List.mem_of_getElem? (i := 1) rfl)) dX1_gives_5 ?_
    exact W.iret (v := (-1000001)) hx hb hr (fun t ht hW9 => ⟨⟨(-1000001), I0, rfl, ⟨hF, hO, ⟨dkN_sub (dkN_lit (x := (-1000001)) (-1000001) rfl) rfl, trivial⟩⟩, dkW_eq ht hW⟩, hS.F ht⟩) hS.2.2 dX1_gives_7
set_option maxHeartbeats 4000000 in
set_option maxRecDepth 100000 in
theorem c_X1_gives_15 (l : Launch) (g : dkG) (z : Nat) (I0 : dkI) (p0 : Int32) (p1 : Int32) (p2 : Int32) (dp0 : dkN [(11, 11)] p0) (dp1 : dkN [(0, 5)] p1) (dp2 : dkN [(6, 6)] p2)  (hO : dkOk I0) : Met l yX1_gives wsX1_gives (dkR 0) (dkPc g z [.ref (z + 338), .int p0, .int p1, .int p2] I0) (dkQi g z (fun r I1 => dkF [] I0 I1 ∧ dkOk I1 ∧ ((dkN [(-1000001, -1000001)] r ∧ True)))) 0 0 (dkA z) := by
  refine Met.ofW (cc := cX1_gives) (maxL := 5) (ret := (some .int)) (by decide) rfl ?_
  intro p e s m args below meth c s₁ B hml hv
  obtain ⟨ha, hW, hK, hT⟩ := hv
  have hx := B.exec
  have hb := B.bytes
  have hr := B.returns
  have hts := atoms_spec (ws := wsX1_gives) B.pre
  have hown : s.vm.findClass RX1 = some m.cls := findClass_of_methodNamed B.named
  have hlocks := B.notSynchronized
  have hS : va_S (dkA z) s.heap s.heap [] := va_S.rf
  have hF : dkF [] I0 I0 := dkF_rf _ _
  have hl := lv_entry ([.ref (z + 338), .int p0, .int p1, .int p2]) (n := 5) (Nat.le_of_ble_eq_true rfl)
  have hgo : entryFrame m args 5 = entryFrame m ([.ref (z + 338), .int p0, .int p1, .int p2] : List Value).toArray 5 := by rw [ha]
  rw [hgo, lg_entry_eq]
  generalize (lg_sl ([.ref (z + 338), .int p0, .int p1, .int p2]) ++ List.replicate (5 - (lg_sl ([.ref (z + 338), .int p0, .int p1, .int p2])).length) Slot.unset).toArray = ls at hl ⊢
  have hl : lv_has ls 5 [(0, .ref (z + 338)), (1, .int p0), (2, .int p1), (3, .int p2)] := hl
  refine lv_iload_n hx hb dX1_gives_0 rfl (lv_at hl 3 rfl) ?_
  refine lv_iconst (v := 5) hx hb dX1_gives_1 (by decide) ?_
  refine lv_icmp_le (tgt := 8) hx hb dX1_gives_2 (by decide) (fun c1 => ?_) (fun c1 => ?_)
  ·
    exact (dkN_nil (show dkN [] p2 from dkN_le1 0 dp2 (dkN_lit (x := 5) (5) rfl) (dkc_le c1) rfl)).elim
  ·
    refine lv_ldc (v := (-1000001)) hx hb hown (hts (.constant RX1 46 (-1000001)) (List.mem_of_getElem? (i := 1) rfl)) dX1_gives_5 ?_
    exact W.iret (v := (-1000001)) hx hb hr (fun t ht hW9 => ⟨⟨(-1000001), I0, rfl, ⟨hF, hO, ⟨dkN_sub (dkN_lit (x := (-1000001)) (-1000001) rfl) rfl, trivial⟩⟩, dkW_eq ht hW⟩, hS.F ht⟩) hS.2.2 dX1_gives_7
set_option maxHeartbeats 4000000 in
set_option maxRecDepth 100000 in
theorem c_X1_gives_16 (l : Launch) (g : dkG) (z : Nat) (I0 : dkI) (p0 : Int32) (p1 : Int32) (p2 : Int32) (dp0 : dkN [(13, 13)] p0) (dp1 : dkN [(0, 5)] p1) (dp2 : dkN [(6, 6)] p2)  (hO : dkOk I0) : Met l yX1_gives wsX1_gives (dkR 0) (dkPc g z [.ref (z + 338), .int p0, .int p1, .int p2] I0) (dkQi g z (fun r I1 => dkF [] I0 I1 ∧ dkOk I1 ∧ ((dkN [(-1000001, -1000001)] r ∧ True)))) 0 0 (dkA z) := by
  refine Met.ofW (cc := cX1_gives) (maxL := 5) (ret := (some .int)) (by decide) rfl ?_
  intro p e s m args below meth c s₁ B hml hv
  obtain ⟨ha, hW, hK, hT⟩ := hv
  have hx := B.exec
  have hb := B.bytes
  have hr := B.returns
  have hts := atoms_spec (ws := wsX1_gives) B.pre
  have hown : s.vm.findClass RX1 = some m.cls := findClass_of_methodNamed B.named
  have hlocks := B.notSynchronized
  have hS : va_S (dkA z) s.heap s.heap [] := va_S.rf
  have hF : dkF [] I0 I0 := dkF_rf _ _
  have hl := lv_entry ([.ref (z + 338), .int p0, .int p1, .int p2]) (n := 5) (Nat.le_of_ble_eq_true rfl)
  have hgo : entryFrame m args 5 = entryFrame m ([.ref (z + 338), .int p0, .int p1, .int p2] : List Value).toArray 5 := by rw [ha]
  rw [hgo, lg_entry_eq]
  generalize (lg_sl ([.ref (z + 338), .int p0, .int p1, .int p2]) ++ List.replicate (5 - (lg_sl ([.ref (z + 338), .int p0, .int p1, .int p2])).length) Slot.unset).toArray = ls at hl ⊢
  have hl : lv_has ls 5 [(0, .ref (z + 338)), (1, .int p0), (2, .int p1), (3, .int p2)] := hl
  refine lv_iload_n hx hb dX1_gives_0 rfl (lv_at hl 3 rfl) ?_
  refine lv_iconst (v := 5) hx hb dX1_gives_1 (by decide) ?_
  refine lv_icmp_le (tgt := 8) hx hb dX1_gives_2 (by decide) (fun c1 => ?_) (fun c1 => ?_)
  ·
    exact (dkN_nil (show dkN [] p2 from dkN_le1 0 dp2 (dkN_lit (x := 5) (5) rfl) (dkc_le c1) rfl)).elim
  ·
    refine lv_ldc (v := (-1000001)) hx hb hown (hts (.constant RX1 46 (-1000001)) (List.mem_of_getElem? (i := 1) rfl)) dX1_gives_5 ?_
    exact W.iret (v := (-1000001)) hx hb hr (fun t ht hW9 => ⟨⟨(-1000001), I0, rfl, ⟨hF, hO, ⟨dkN_sub (dkN_lit (x := (-1000001)) (-1000001) rfl) rfl, trivial⟩⟩, dkW_eq ht hW⟩, hS.F ht⟩) hS.2.2 dX1_gives_7
