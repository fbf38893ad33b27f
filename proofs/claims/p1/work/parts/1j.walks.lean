set_option maxHeartbeats 4000000 in
set_option maxRecDepth 100000 in
theorem c_X5_isMissing_4 (l : Launch) (g : dkG) (z : Nat) (I0 : dkI) (p0 : Int32) (dp0 : dkN [(0, 3)] p0) (n11_s : ∀ j, dkN [(-1, -1)] (I0 11 j)) : Met l yX5_isMissing wsX5_isMissing (dkR 0) (dkPc g z [.ref (z + 0), .int p0] I0) (dkQi g z (fun r I1 => dkN [(1, 1)] r ∧ dkF [] I0 I1 ∧ True)) 0 0 (dkA z) := by
  refine Met.ofW (cc := cX5_isMissing) (maxL := 2) (ret := (some .boolean)) (by decide) rfl ?_
  intro p e s m args below meth c s₁ B hml hv
  obtain ⟨ha, hW, hK⟩ := hv
  have hx := B.exec
  have hb := B.bytes
  have hr := B.returns
  have hts := atoms_spec (ws := wsX5_isMissing) B.pre
  have hown : s.vm.findClass RX5 = some m.cls := findClass_of_methodNamed B.named
  have hlocks := B.notSynchronized
  have hS : va_S (dkA z) s.heap s.heap [] := va_S.rf
  have hF : dkF [] I0 I0 := dkF_rf _ _
  have hl := lv_entry ([.ref (z + 0), .int p0]) (n := 2) (Nat.le_of_ble_eq_true rfl)
  have hgo : entryFrame m args 2 = entryFrame m ([.ref (z + 0), .int p0] : List Value).toArray 2 := by rw [ha]
  rw [hgo, lg_entry_eq]
  generalize (lg_sl ([.ref (z + 0), .int p0]) ++ List.replicate (2 - (lg_sl ([.ref (z + 0), .int p0])).length) Slot.unset).toArray = ls at hl ⊢
  have hl : lv_has ls 2 [(0, .ref (z + 0)), (1, .int p0)] := hl
  refine lv_aload_n hx hb dX5_isMissing_0 rfl (lv_at hl 0 rfl) ?_
  refine dk_get hx hb hts iX5_isMissing_5 hown hK (dk_at0 hW) rfl 2 (by decide) (hts (.fieldLink RX5 18 "DogKings" "sizes" "[I") (List.mem_of_getElem? (i := 1) rfl)) rfl dX5_isMissing_1 ?_
  refine lv_iload_n hx hb dX5_isMissing_4 rfl (lv_at hl 1 rfl) ?_
  refine dk_ild hx hb hK (dk_at11 hW) (dkN_in (n := 8) dp0 rfl) dX5_isMissing_5 ?_
  refine lv_topi (fun v1 ev1 => ?_)
  have dv1 : dkN [(-1, -1)] v1 := by rw [ev1]; exact (n11_s _)
  refine lv_iconst (v := (-1)) hx hb dX5_isMissing_6 (by decide) ?_
  refine lv_icmp_ne (tgt := 14) hx hb dX5_isMissing_7 (by decide) (fun c2 => ?_) (fun c2 => ?_)
  ·
    exact (dkN_nil (show dkN [] v1 from dkN_ne1 (-1) dv1 (dkN_lit (x := -1) (-1) rfl) (dk_ne c2) rfl)).elim
  ·
    refine lv_iconst (v := 1) hx hb dX5_isMissing_10 (by decide) ?_
    refine lv_goto (tgt := 15) hx hb dX5_isMissing_11 (by decide) ?_
    exact W.zret (v := 1) (ty := .boolean) hx hb hr rfl (fun t ht hW9 => ⟨⟨1, I0, rfl, ⟨dkN_sub (dkN_lit (x := 1) (1) rfl) rfl, hF, trivial⟩, dkW_eq ht hW⟩, hS.F ht⟩) hS.2.2 dX5_isMissing_15
set_option maxHeartbeats 4000000 in
set_option maxRecDepth 100000 in
theorem c_X5_rowsThatStand_0 (l : Launch) (g : dkG) (z : Nat) (I0 : dkI) (n11_s : ∀ j, dkN [(-1, -1)] (I0 11 j)) : Met l yX5_rowsThatStand wsX5_rowsThatStand (dkR 1) (dkPc g z [.ref (z + 0)] I0) (dkQi g z (fun r I1 => dkN [(0, 0)] r ∧ dkF [] I0 I1 ∧ True)) 0 0 (dkA z) := by
  refine Met.ofW (cc := cX5_rowsThatStand) (maxL := 3) (ret := (some .int)) (by decide) rfl ?_
  intro p e s m args below meth c s₁ B hml hv
  obtain ⟨ha, hW, hK⟩ := hv
  have hx := B.exec
  have hb := B.bytes
  have hr := B.returns
  have hts := atoms_spec (ws := wsX5_rowsThatStand) B.pre
  have hown : s.vm.findClass RX5 = some m.cls := findClass_of_methodNamed B.named
  have hlocks := B.notSynchronized
  have hS : va_S (dkA z) s.heap s.heap [] := va_S.rf
  have hF : dkF [] I0 I0 := dkF_rf _ _
  have hl := lv_entry ([.ref (z + 0)]) (n := 3) (Nat.le_of_ble_eq_true rfl)
  have hgo : entryFrame m args 3 = entryFrame m ([.ref (z + 0)] : List Value).toArray 3 := by rw [ha]
  rw [hgo, lg_entry_eq]
  generalize (lg_sl ([.ref (z + 0)]) ++ List.replicate (3 - (lg_sl ([.ref (z + 0)])).length) Slot.unset).toArray = ls at hl ⊢
  have hl : lv_has ls 3 [(0, .ref (z + 0))] := hl
  have C4 : ∀ (n : Nat), ∀ (I : dkI) (H : Heap) (locs : List Loc) (ls : Array Slot) (x4_1 : Int32) (x4_2 : Int32), (8 - x4_2.toInt).toNat < n → dkW g z I H → va_S (dkA z) s.heap H locs → dkF [] I0 I → dkN [(0, 0)] x4_1 → dkN [(0, 8)] x4_2 → lv_has ls 3 [(0, .ref (z + 0)), (1, .int x4_1), (2, .int x4_2)] → W p l e (headSpec wsX5_rowsThatStand (dkR 1)).room s m args below meth c H locs 0 0 (MQ below (dkQi g z (fun r I1 => dkN [(0, 0)] r ∧ dkF [] I0 I1 ∧ True)) args s 0 0 (dkA z)) (F0 m 4 ls []) := by
    intro n
    induction n with
    | zero => intro I H locs ls x4_1 x4_2 hn; exact absurd hn (Nat.not_lt_zero _)
    | succ n ih4 =>
      intro I4_ H locs ls x4_1 x4_2 hn4 hW hS hF_4 k4_0 k4_1 hl
      have hF := hF_4
      have C21 : ∀ (I : dkI) (H : Heap) (locs : List Loc) (ls : Array Slot), dkW g z I H → va_S (dkA z) s.heap H locs → dkF [] I0 I → dkN [(0, 0)] x4_1 → dkN [(0, 7)] x4_2 → lv_has ls 3 [(0, .ref (z + 0)), (1, .int x4_1), (2, .int x4_2)] → W p l e (headSpec wsX5_rowsThatStand (dkR 1)).room s m args below meth c H locs 0 0 (MQ below (dkQi g z (fun r I1 => dkN [(0, 0)] r ∧ dkF [] I0 I1 ∧ True)) args s 0 0 (dkA z)) (F0 m 21 ls []) := by
        intro I21_ H locs ls hW hS hF_21 r21_0 r21_1 hl
        have hF := hF_21
        obtain ⟨v1, ev1⟩ : ∃ y : Int32, y = x4_2 + 1 := ⟨_, rfl⟩
        have dv1 : dkN [(1, 8)] v1 := by rw [ev1]; exact dkN_add r21_1 (dkN_lit (x := 1) (1) rfl) rfl
        refine lv_iinc (v := v1) (lv' := [(2, .int v1), (0, .ref (z + 0)), (1, .int x4_1)]) hx hb dX5_rowsThatStand_21 hl (k := 2) rfl (by rw [ev1]; rfl) (by decide) rfl (fun ls hl => ?_)
        refine lv_goto (tgt := 4) hx hb dX5_rowsThatStand_24 (by decide) ?_
        exact ih4 I21_ _ _ ls x4_1 v1 (dk_near hn4 (by rw [ev1]; exact dk_inc r21_1 rfl) (dkN_lt r21_1 rfl)) hW hS hF (dkN_sub r21_0 rfl) (dkN_sub dv1 rfl) (lv_sub hl [1, 2, 0] rfl)
      refine lv_iload_n hx hb dX5_rowsThatStand_4 rfl (lv_at hl 2 rfl) ?_
      refine lv_bipush (v := 8) hx hb dX5_rowsThatStand_5 (by decide) ?_
      refine lv_icmp_ge (tgt := 27) hx hb dX5_rowsThatStand_7 (by decide) (fun c2 => ?_) (fun c2 => ?_)
      ·
        have d3 : dkN [(8, 8)] x4_2 := dkN_le2 0 (dkN_lit (x := 8) (8) rfl) k4_1 (dkc_le c2) rfl
        refine lv_iload_n hx hb dX5_rowsThatStand_27 rfl (lv_at hl 1 rfl) ?_
        exact W.iret (v := x4_1) hx hb hr (fun t ht hW9 => ⟨⟨x4_1, I4_, rfl, ⟨dkN_sub k4_0 rfl, hF, trivial⟩, dkW_eq ht hW⟩, hS.F ht⟩) hS.2.2 dX5_rowsThatStand_28
      ·
        have d4 : dkN [(0, 7)] x4_2 := dkN_le1 1 k4_1 (dkN_lit (x := 8) (8) rfl) (dkc_nle c2) rfl
        refine lv_aload_n hx hb dX5_rowsThatStand_10 rfl (lv_at hl 0 rfl) ?_
        refine lv_iload_n hx hb dX5_rowsThatStand_11 rfl (lv_at hl 2 rfl) ?_
        refine dk_Vi (As := [.int x4_2]) (rest := []) ⟨hx, hb, hml, hown, hts⟩ (c_X5_isMissing_0 l g z I4_ x4_2 d4 (fun j => by rw [hF_4 11 _ rfl]; exact n11_s j)) (cwV 1 hts gX5_rowsThatStand_X5_isMissing rfl rfl rfl (by decide +kernel) ⟨Nat.le_of_ble_eq_true rfl, Nat.le_of_ble_eq_true rfl⟩) (dk_at0 hW) rfl hK hW hS rfl hl.1 rfl (Nat.le_of_ble_eq_true rfl) dX5_rowsThatStand_12 ⟨Nat.zero_le _, Nat.zero_le _⟩ (fun v5 I5 H5 L5 hp5 hW hS => ?_)
        obtain ⟨dv5, hF5, -⟩ := hp5
        have hF := dkF_call hF hF5 rfl
        refine lv_if_ne (tgt := 21) hx hb dX5_rowsThatStand_15 (by decide) (fun c6 => ?_) (fun c6 => ?_)
        ·
          exact C21 I5 _ _ ls  hW hS hF (dkN_sub k4_0 rfl) (dkN_sub d4 rfl) (lv_sub hl [0, 1, 2] rfl)
        ·
          exact (dkN_nil (show dkN [] v5 from dkN_eq1 dv5 (dkN_lit (x := 0) (0) rfl) (congrArg Int32.toInt c6) rfl)).elim
  refine lv_iconst (v := 0) hx hb dX5_rowsThatStand_0 (by decide) ?_
  refine lv_istore_n (lv' := [(1, .int 0), (0, .ref (z + 0))]) hx hb dX5_rowsThatStand_1 rfl hl (by decide) rfl (fun ls hl => ?_)
  refine lv_iconst (v := 0) hx hb dX5_rowsThatStand_2 (by decide) ?_
  refine lv_istore_n (lv' := [(2, .int 0), (1, .int 0), (0, .ref (z + 0))]) hx hb dX5_rowsThatStand_3 rfl hl (by decide) rfl (fun ls hl => ?_)
  exact C4 _ I0 _ _ ls 0 0 (Nat.lt_succ_self _) hW hS hF (dkN_sub (dkN_lit (x := 0) (0) rfl) rfl) (dkN_sub (dkN_lit (x := 0) (0) rfl) rfl) (lv_sub hl [2, 1, 0] rfl)
set_option maxHeartbeats 4000000 in
set_option maxRecDepth 100000 in
theorem c_X4_allReigns_0 (l : Launch) (g : dkG) (z : Nat) (I0 : dkI) (n25_4 : dkN [(0, 0)] (I0 25 4)) : Met l yX4_allReigns wsX4_allReigns (dkR 0) (dkPc g z [.ref (z + 25)] I0) (dkQi g z (fun r I1 => dkN [(0, 0)] r ∧ dkF [] I0 I1 ∧ True)) 0 0 (dkA z) := by
  refine Met.ofW (cc := cX4_allReigns) (maxL := 3) (ret := (some .int)) (by decide) rfl ?_
  intro p e s m args below meth c s₁ B hml hv
  obtain ⟨ha, hW, hK⟩ := hv
  have hx := B.exec
  have hb := B.bytes
  have hr := B.returns
  have hts := atoms_spec (ws := wsX4_allReigns) B.pre
  have hown : s.vm.findClass RX4 = some m.cls := findClass_of_methodNamed B.named
  have hlocks := B.notSynchronized
  have hS : va_S (dkA z) s.heap s.heap [] := va_S.rf
  have hF : dkF [] I0 I0 := dkF_rf _ _
  have hl := lv_entry ([.ref (z + 25)]) (n := 3) (Nat.le_of_ble_eq_true rfl)
  have hgo : entryFrame m args 3 = entryFrame m ([.ref (z + 25)] : List Value).toArray 3 := by rw [ha]
  rw [hgo, lg_entry_eq]
  generalize (lg_sl ([.ref (z + 25)]) ++ List.replicate (3 - (lg_sl ([.ref (z + 25)])).length) Slot.unset).toArray = ls at hl ⊢
  have hl : lv_has ls 3 [(0, .ref (z + 25))] := hl
  have C4 : ∀ (I : dkI) (H : Heap) (locs : List Loc) (ls : Array Slot) (x4_1 : Int32) (x4_2 : Int32), dkW g z I H → va_S (dkA z) s.heap H locs → dkF [] I0 I → dkN [(0, 0)] x4_1 → dkN [(0, 0)] x4_2 → lv_has ls 3 [(0, .ref (z + 25)), (1, .int x4_1), (2, .int x4_2)] → W p l e (headSpec wsX4_allReigns (dkR 0)).room s m args below meth c H locs 0 0 (MQ below (dkQi g z (fun r I1 => dkN [(0, 0)] r ∧ dkF [] I0 I1 ∧ True)) args s 0 0 (dkA z)) (F0 m 4 ls []) := by
    intro I4_ H locs ls x4_1 x4_2 hW hS hF_4 k4_0 k4_1 hl
    have hF := hF_4
    refine lv_iload_n hx hb dX4_allReigns_4 rfl (lv_at hl 2 rfl) ?_
    refine lv_aload_n hx hb dX4_allReigns_5 rfl (lv_at hl 0 rfl) ?_
    refine dk_get hx hb hts iX4_allReigns_4 hown hK (dk_at25 hW) rfl 4 (by decide) (hts (.fieldLink RX4 55 "DogKings$Town" "people" "I") (List.mem_of_getElem? (i := 1) rfl)) rfl dX4_allReigns_6 ?_
    refine lv_topi (fun v1 ev1 => ?_)
    have dv1 : dkN [(0, 0)] v1 := by rw [ev1]; exact (by rw [hF_4 25 4 rfl]; exact n25_4)
    refine lv_icmp_ge (tgt := 27) hx hb dX4_allReigns_9 (by decide) (fun c2 => ?_) (fun c2 => ?_)
    ·
      refine lv_iload_n hx hb dX4_allReigns_27 rfl (lv_at hl 1 rfl) ?_
      exact W.iret (v := x4_1) hx hb hr (fun t ht hW9 => ⟨⟨x4_1, I4_, rfl, ⟨dkN_sub k4_0 rfl, hF, trivial⟩, dkW_eq ht hW⟩, hS.F ht⟩) hS.2.2 dX4_allReigns_28
    ·
      exact (dkN_nil (show dkN [] v1 from dkN_le2 1 k4_1 dv1 (dkc_nle c2) rfl)).elim
  refine lv_iconst (v := 0) hx hb dX4_allReigns_0 (by decide) ?_
  refine lv_istore_n (lv' := [(1, .int 0), (0, .ref (z + 25))]) hx hb dX4_allReigns_1 rfl hl (by decide) rfl (fun ls hl => ?_)
  refine lv_iconst (v := 0) hx hb dX4_allReigns_2 (by decide) ?_
  refine lv_istore_n (lv' := [(2, .int 0), (1, .int 0), (0, .ref (z + 25))]) hx hb dX4_allReigns_3 rfl hl (by decide) rfl (fun ls hl => ?_)
  exact C4 I0 _ _ ls 0 0 hW hS hF (dkN_sub (dkN_lit (x := 0) (0) rfl) rfl) (dkN_sub (dkN_lit (x := 0) (0) rfl) rfl) (lv_sub hl [2, 1, 0] rfl)
set_option maxHeartbeats 4000000 in
set_option maxRecDepth 100000 in
theorem c_X5_count_1 (l : Launch) (g : dkG) (z : Nat) (I0 : dkI) (p0 : Int32) (dp0 : dkN [(0, 9)] p0) (n11_s : ∀ j, dkN [(-1, -1)] (I0 11 j)) (n12_1 : dkN [(0, 0)] (I0 12 1)) (n25_0 : dkN [(0, 0)] (I0 25 0)) (n25_1 : dkN [(0, 0)] (I0 25 1)) (n25_11 : dkN [(0, 0)] (I0 25 11)) (n25_2 : dkN [(0, 0)] (I0 25 2)) (n25_3 : dkN [(0, 0)] (I0 25 3)) (n25_4 : dkN [(0, 0)] (I0 25 4)) (n59_2 : dkN [(0, 0)] (I0 59 2)) : Met l yX5_count wsX5_count (dkR 2) (dkPc g z [.ref (z + 0), .int p0] I0) (dkQi g z (fun r I1 => dkN [(0, 0)] r ∧ dkF [] I0 I1 ∧ True)) 0 0 (dkA z) := by
  refine Met.ofW (cc := cX5_count) (maxL := 2) (ret := (some .int)) (by decide) rfl ?_
  intro p e s m args below meth c s₁ B hml hv
  obtain ⟨ha, hW, hK⟩ := hv
  have hx := B.exec
  have hb := B.bytes
  have hr := B.returns
  have hts := atoms_spec (ws := wsX5_count) B.pre
  have hown : s.vm.findClass RX5 = some m.cls := findClass_of_methodNamed B.named
  have hlocks := B.notSynchronized
  have hS : va_S (dkA z) s.heap s.heap [] := va_S.rf
  have hF : dkF [] I0 I0 := dkF_rf _ _
  have hl := lv_entry ([.ref (z + 0), .int p0]) (n := 2) (Nat.le_of_ble_eq_true rfl)
  have hgo : entryFrame m args 2 = entryFrame m ([.ref (z + 0), .int p0] : List Value).toArray 2 := by rw [ha]
  rw [hgo, lg_entry_eq]
  generalize (lg_sl ([.ref (z + 0), .int p0]) ++ List.replicate (2 - (lg_sl ([.ref (z + 0), .int p0])).length) Slot.unset).toArray = ls at hl ⊢
  have hl : lv_has ls 2 [(0, .ref (z + 0)), (1, .int p0)] := hl
  refine lv_iload_n hx hb dX5_count_0 rfl (lv_at hl 1 rfl) ?_
  by_cases c1 : p0 = 0
  · have qc1 : p0.toInt = 0 := by rw [c1]; rfl
    have d2 : dkN [(0, 0)] p0 := dkN_lit (0) qc1
    refine lv_tableIn (tgt := 56) hx hb dX5_count_1 (by rw [qc1]; decide) (by rw [qc1]; decide) (by rw [qc1]; rfl) (by decide) ?_
    refine lv_aload_n hx hb dX5_count_56 rfl (lv_at hl 0 rfl) ?_
    refine dk_Vi (As := []) (rest := []) ⟨hx, hb, hml, hown, hts⟩ (c_X5_rowsThatStand_0 l g z I0 (fun j => by exact n11_s j)) (cwV 0 hts gX5_count_X5_rowsThatStand rfl rfl rfl (by decide +kernel) ⟨Nat.le_of_ble_eq_true rfl, Nat.le_of_ble_eq_true rfl⟩) (dk_at0 hW) rfl hK hW hS rfl hl.1 rfl (Nat.le_of_ble_eq_true rfl) dX5_count_57 ⟨Nat.zero_le _, Nat.zero_le _⟩ (fun v3 I3 H3 L3 hp3 hW hS => ?_)
    obtain ⟨dv3, hF3, -⟩ := hp3
    have hF := dkF_call hF hF3 rfl
    exact W.iret (v := v3) hx hb hr (fun t ht hW9 => ⟨⟨v3, I3, rfl, ⟨dkN_sub dv3 rfl, hF, trivial⟩, dkW_eq ht hW⟩, hS.F ht⟩) hS.2.2 dX5_count_60
  ·
    have d4 : dkN [(1, 9)] p0 := dkN_ne1 (0) dp0 (dkN_lit (x := 0) (0) rfl) (dk_ne c1) rfl
    by_cases c5 : p0 = 1
    · have qc5 : p0.toInt = 1 := by rw [c5]; rfl
      have d6 : dkN [(1, 1)] p0 := dkN_lit (1) qc5
      refine lv_tableIn (tgt := 61) hx hb dX5_count_1 (by rw [qc5]; decide) (by rw [qc5]; decide) (by rw [qc5]; rfl) (by decide) ?_
      refine lv_aload_n hx hb dX5_count_61 rfl (lv_at hl 0 rfl) ?_
      refine dk_get hx hb hts iX5_count_5 hown hK (dk_at0 hW) rfl 5 (by decide) (hts (.fieldLink RX5 31 "DogKings" "now" "LDogKings$Town;") (List.mem_of_getElem? (i := 1) rfl)) rfl dX5_count_62 ?_
      refine dk_get hx hb hts iX5_count_4 hown hK (dk_at25 hW) rfl 0 (by decide) (hts (.fieldLink RX5 274 "DogKings$Town" "places" "I") (List.mem_of_getElem? (i := 2) rfl)) rfl dX5_count_65 ?_
      refine lv_topi (fun v7 ev7 => ?_)
      have dv7 : dkN [(0, 0)] v7 := by rw [ev7]; exact n25_0
      exact W.iret (v := v7) hx hb hr (fun t ht hW9 => ⟨⟨v7, I0, rfl, ⟨dkN_sub dv7 rfl, hF, trivial⟩, dkW_eq ht hW⟩, hS.F ht⟩) hS.2.2 dX5_count_68
    ·
      have d8 : dkN [(2, 9)] p0 := dkN_ne1 (1) d4 (dkN_lit (x := 1) (1) rfl) (dk_ne c5) rfl
      by_cases c9 : p0 = 2
      · have qc9 : p0.toInt = 2 := by rw [c9]; rfl
        have d10 : dkN [(2, 2)] p0 := dkN_lit (2) qc9
        refine lv_tableIn (tgt := 69) hx hb dX5_count_1 (by rw [qc9]; decide) (by rw [qc9]; decide) (by rw [qc9]; rfl) (by decide) ?_
        refine lv_aload_n hx hb dX5_count_69 rfl (lv_at hl 0 rfl) ?_
        refine dk_get hx hb hts iX5_count_5 hown hK (dk_at0 hW) rfl 5 (by decide) (hts (.fieldLink RX5 31 "DogKings" "now" "LDogKings$Town;") (List.mem_of_getElem? (i := 1) rfl)) rfl dX5_count_70 ?_
        refine dk_get hx hb hts iX5_count_4 hown hK (dk_at25 hW) rfl 11 (by decide) (hts (.fieldLink RX5 120 "DogKings$Town" "dogs" "I") (List.mem_of_getElem? (i := 3) rfl)) rfl dX5_count_73 ?_
        refine lv_topi (fun v11 ev11 => ?_)
        have dv11 : dkN [(0, 0)] v11 := by rw [ev11]; exact n25_11
        exact W.iret (v := v11) hx hb hr (fun t ht hW9 => ⟨⟨v11, I0, rfl, ⟨dkN_sub dv11 rfl, hF, trivial⟩, dkW_eq ht hW⟩, hS.F ht⟩) hS.2.2 dX5_count_76
      ·
        have d12 : dkN [(3, 9)] p0 := dkN_ne1 (2) d8 (dkN_lit (x := 2) (2) rfl) (dk_ne c9) rfl
        by_cases c13 : p0 = 3
        · have qc13 : p0.toInt = 3 := by rw [c13]; rfl
          have d14 : dkN [(3, 3)] p0 := dkN_lit (3) qc13
          refine lv_tableIn (tgt := 77) hx hb dX5_count_1 (by rw [qc13]; decide) (by rw [qc13]; decide) (by rw [qc13]; rfl) (by decide) ?_
          refine lv_aload_n hx hb dX5_count_77 rfl (lv_at hl 0 rfl) ?_
          refine dk_get hx hb hts iX5_count_5 hown hK (dk_at0 hW) rfl 5 (by decide) (hts (.fieldLink RX5 31 "DogKings" "now" "LDogKings$Town;") (List.mem_of_getElem? (i := 1) rfl)) rfl dX5_count_78 ?_
          refine dk_get hx hb hts iX5_count_4 hown hK (dk_at25 hW) rfl 4 (by decide) (hts (.fieldLink RX5 277 "DogKings$Town" "people" "I") (List.mem_of_getElem? (i := 4) rfl)) rfl dX5_count_81 ?_
          refine lv_topi (fun v15 ev15 => ?_)
          have dv15 : dkN [(0, 0)] v15 := by rw [ev15]; exact n25_4
          exact W.iret (v := v15) hx hb hr (fun t ht hW9 => ⟨⟨v15, I0, rfl, ⟨dkN_sub dv15 rfl, hF, trivial⟩, dkW_eq ht hW⟩, hS.F ht⟩) hS.2.2 dX5_count_84
        ·
          have d16 : dkN [(4, 9)] p0 := dkN_ne1 (3) d12 (dkN_lit (x := 3) (3) rfl) (dk_ne c13) rfl
          by_cases c17 : p0 = 4
          · have qc17 : p0.toInt = 4 := by rw [c17]; rfl
            have d18 : dkN [(4, 4)] p0 := dkN_lit (4) qc17
            refine lv_tableIn (tgt := 85) hx hb dX5_count_1 (by rw [qc17]; decide) (by rw [qc17]; decide) (by rw [qc17]; rfl) (by decide) ?_
            refine lv_aload_n hx hb dX5_count_85 rfl (lv_at hl 0 rfl) ?_
            refine dk_get hx hb hts iX5_count_5 hown hK (dk_at0 hW) rfl 5 (by decide) (hts (.fieldLink RX5 31 "DogKings" "now" "LDogKings$Town;") (List.mem_of_getElem? (i := 1) rfl)) rfl dX5_count_86 ?_
            refine dk_get hx hb hts iX5_count_4 hown hK (dk_at25 hW) rfl 2 (by decide) (hts (.fieldLink RX5 130 "DogKings$Town" "friday" "I") (List.mem_of_getElem? (i := 5) rfl)) rfl dX5_count_89 ?_
            refine lv_topi (fun v19 ev19 => ?_)
            have dv19 : dkN [(0, 0)] v19 := by rw [ev19]; exact n25_2
            exact W.iret (v := v19) hx hb hr (fun t ht hW9 => ⟨⟨v19, I0, rfl, ⟨dkN_sub dv19 rfl, hF, trivial⟩, dkW_eq ht hW⟩, hS.F ht⟩) hS.2.2 dX5_count_92
          ·
            have d20 : dkN [(5, 9)] p0 := dkN_ne1 (4) d16 (dkN_lit (x := 4) (4) rfl) (dk_ne c17) rfl
            by_cases c21 : p0 = 5
            · have qc21 : p0.toInt = 5 := by rw [c21]; rfl
              have d22 : dkN [(5, 5)] p0 := dkN_lit (5) qc21
              refine lv_tableIn (tgt := 93) hx hb dX5_count_1 (by rw [qc21]; decide) (by rw [qc21]; decide) (by rw [qc21]; rfl) (by decide) ?_
              refine lv_aload_n hx hb dX5_count_93 rfl (lv_at hl 0 rfl) ?_
              refine dk_get hx hb hts iX5_count_5 hown hK (dk_at0 hW) rfl 5 (by decide) (hts (.fieldLink RX5 31 "DogKings" "now" "LDogKings$Town;") (List.mem_of_getElem? (i := 1) rfl)) rfl dX5_count_94 ?_
              refine dk_get hx hb hts iX5_count_4 hown hK (dk_at25 hW) rfl 3 (by decide) (hts (.fieldLink RX5 280 "DogKings$Town" "minute" "I") (List.mem_of_getElem? (i := 6) rfl)) rfl dX5_count_97 ?_
              refine lv_topi (fun v23 ev23 => ?_)
              have dv23 : dkN [(0, 0)] v23 := by rw [ev23]; exact n25_3
              exact W.iret (v := v23) hx hb hr (fun t ht hW9 => ⟨⟨v23, I0, rfl, ⟨dkN_sub dv23 rfl, hF, trivial⟩, dkW_eq ht hW⟩, hS.F ht⟩) hS.2.2 dX5_count_100
            ·
              have d24 : dkN [(6, 9)] p0 := dkN_ne1 (5) d20 (dkN_lit (x := 5) (5) rfl) (dk_ne c21) rfl
              by_cases c25 : p0 = 6
              · have qc25 : p0.toInt = 6 := by rw [c25]; rfl
                have d26 : dkN [(6, 6)] p0 := dkN_lit (6) qc25
                refine lv_tableIn (tgt := 101) hx hb dX5_count_1 (by rw [qc25]; decide) (by rw [qc25]; decide) (by rw [qc25]; rfl) (by decide) ?_
                refine lv_aload_n hx hb dX5_count_101 rfl (lv_at hl 0 rfl) ?_
                refine dk_get hx hb hts iX5_count_5 hown hK (dk_at0 hW) rfl 5 (by decide) (hts (.fieldLink RX5 31 "DogKings" "now" "LDogKings$Town;") (List.mem_of_getElem? (i := 1) rfl)) rfl dX5_count_102 ?_
                refine dk_get hx hb hts iX5_count_4 hown hK (dk_at25 hW) rfl 1 (by decide) (hts (.fieldLink RX5 283 "DogKings$Town" "fridayLasts" "I") (List.mem_of_getElem? (i := 7) rfl)) rfl dX5_count_105 ?_
                refine lv_topi (fun v27 ev27 => ?_)
                have dv27 : dkN [(0, 0)] v27 := by rw [ev27]; exact n25_1
                exact W.iret (v := v27) hx hb hr (fun t ht hW9 => ⟨⟨v27, I0, rfl, ⟨dkN_sub dv27 rfl, hF, trivial⟩, dkW_eq ht hW⟩, hS.F ht⟩) hS.2.2 dX5_count_108
              ·
                have d28 : dkN [(7, 9)] p0 := dkN_ne1 (6) d24 (dkN_lit (x := 6) (6) rfl) (dk_ne c25) rfl
                by_cases c29 : p0 = 7
                · have qc29 : p0.toInt = 7 := by rw [c29]; rfl
                  have d30 : dkN [(7, 7)] p0 := dkN_lit (7) qc29
                  refine lv_tableIn (tgt := 109) hx hb dX5_count_1 (by rw [qc29]; decide) (by rw [qc29]; decide) (by rw [qc29]; rfl) (by decide) ?_
                  refine lv_aload_n hx hb dX5_count_109 rfl (lv_at hl 0 rfl) ?_
                  refine dk_get hx hb hts iX5_count_5 hown hK (dk_at0 hW) rfl 7 (by decide) (hts (.fieldLink RX5 42 "DogKings" "acts" "LDogKings$Acts;") (List.mem_of_getElem? (i := 8) rfl)) rfl dX5_count_110 ?_
                  refine dk_get hx hb hts iX5_count_0 hown hK (dk_at59 hW) rfl 2 (by decide) (hts (.fieldLink RX5 158 "DogKings$Acts" "kept" "I") (List.mem_of_getElem? (i := 9) rfl)) rfl dX5_count_113 ?_
                  refine lv_topi (fun v31 ev31 => ?_)
                  have dv31 : dkN [(0, 0)] v31 := by rw [ev31]; exact n59_2
                  exact W.iret (v := v31) hx hb hr (fun t ht hW9 => ⟨⟨v31, I0, rfl, ⟨dkN_sub dv31 rfl, hF, trivial⟩, dkW_eq ht hW⟩, hS.F ht⟩) hS.2.2 dX5_count_116
                ·
                  have d32 : dkN [(8, 9)] p0 := dkN_ne1 (7) d28 (dkN_lit (x := 7) (7) rfl) (dk_ne c29) rfl
                  by_cases c33 : p0 = 8
                  · have qc33 : p0.toInt = 8 := by rw [c33]; rfl
                    have d34 : dkN [(8, 8)] p0 := dkN_lit (8) qc33
                    refine lv_tableIn (tgt := 117) hx hb dX5_count_1 (by rw [qc33]; decide) (by rw [qc33]; decide) (by rw [qc33]; rfl) (by decide) ?_
                    refine lv_aload_n hx hb dX5_count_117 rfl (lv_at hl 0 rfl) ?_
                    refine dk_get hx hb hts iX5_count_5 hown hK (dk_at0 hW) rfl 4 (by decide) (hts (.fieldLink RX5 24 "DogKings" "reader" "LDogKings$Reader;") (List.mem_of_getElem? (i := 10) rfl)) rfl dX5_count_118 ?_
                    refine dk_get hx hb hts iX5_count_2 hown hK (dk_at12 hW) rfl 1 (by decide) (hts (.fieldLink RX5 286 "DogKings$Reader" "bytes" "I") (List.mem_of_getElem? (i := 11) rfl)) rfl dX5_count_121 ?_
                    refine lv_topi (fun v35 ev35 => ?_)
                    have dv35 : dkN [(0, 0)] v35 := by rw [ev35]; exact n12_1
                    exact W.iret (v := v35) hx hb hr (fun t ht hW9 => ⟨⟨v35, I0, rfl, ⟨dkN_sub dv35 rfl, hF, trivial⟩, dkW_eq ht hW⟩, hS.F ht⟩) hS.2.2 dX5_count_124
                  ·
                    have d36 : dkN [(9, 9)] p0 := dkN_ne1 (8) d32 (dkN_lit (x := 8) (8) rfl) (dk_ne c33) rfl
                    by_cases c37 : p0 = 9
                    · have qc37 : p0.toInt = 9 := by rw [c37]; rfl
                      have d38 : dkN [(9, 9)] p0 := dkN_lit (9) qc37
                      refine lv_tableIn (tgt := 125) hx hb dX5_count_1 (by rw [qc37]; decide) (by rw [qc37]; decide) (by rw [qc37]; rfl) (by decide) ?_
                      refine lv_aload_n hx hb dX5_count_125 rfl (lv_at hl 0 rfl) ?_
                      refine dk_get hx hb hts iX5_count_5 hown hK (dk_at0 hW) rfl 5 (by decide) (hts (.fieldLink RX5 31 "DogKings" "now" "LDogKings$Town;") (List.mem_of_getElem? (i := 1) rfl)) rfl dX5_count_126 ?_
                      refine dk_Vi (As := []) (rest := []) ⟨hx, hb, hml, hown, hts⟩ (c_X4_allReigns_0 l g z I0 n25_4) (cwV 0 hts gX5_count_X4_allReigns rfl rfl rfl (by decide +kernel) ⟨Nat.le_of_ble_eq_true rfl, Nat.le_of_ble_eq_true rfl⟩) (dk_at25 hW) rfl hK hW hS rfl hl.1 rfl (Nat.le_of_ble_eq_true rfl) dX5_count_129 ⟨Nat.zero_le _, Nat.zero_le _⟩ (fun v39 I39 H39 L39 hp39 hW hS => ?_)
                      obtain ⟨dv39, hF39, -⟩ := hp39
                      have hF := dkF_call hF hF39 rfl
                      exact W.iret (v := v39) hx hb hr (fun t ht hW9 => ⟨⟨v39, I39, rfl, ⟨dkN_sub dv39 rfl, hF, trivial⟩, dkW_eq ht hW⟩, hS.F ht⟩) hS.2.2 dX5_count_132
                    · exact (dkN_nil (show dkN [] p0 from dkN_ne1 (9) d36 (dkN_lit (x := 9) (9) rfl) (dk_ne c37) rfl)).elim
set_option maxHeartbeats 4000000 in
set_option maxRecDepth 100000 in
theorem c_X6_reigns_0 (l : Launch) (g : dkG) (z : Nat) (I0 : dkI) (n346_4 : dkN [(0, 0)] (I0 346 4)) : Met l yX6_reigns wsX6_reigns (dkR 0) (dkPc g z [.ref (z + 340)] I0) (dkQi g z (fun r I1 => dkN [(0, 0)] r ∧ dkF [] I0 I1 ∧ True)) 0 0 (dkA z) := by
  refine Met.ofW (cc := cX6_reigns) (maxL := 3) (ret := (some .int)) (by decide) rfl ?_
  intro p e s m args below meth c s₁ B hml hv
  obtain ⟨ha, hW, hK⟩ := hv
  have hx := B.exec
  have hb := B.bytes
  have hr := B.returns
  have hts := atoms_spec (ws := wsX6_reigns) B.pre
  have hown : s.vm.findClass RX6 = some m.cls := findClass_of_methodNamed B.named
  have hlocks := B.notSynchronized
  have hS : va_S (dkA z) s.heap s.heap [] := va_S.rf
  have hF : dkF [] I0 I0 := dkF_rf _ _
  have hl := lv_entry ([.ref (z + 340)]) (n := 3) (Nat.le_of_ble_eq_true rfl)
  have hgo : entryFrame m args 3 = entryFrame m ([.ref (z + 340)] : List Value).toArray 3 := by rw [ha]
  rw [hgo, lg_entry_eq]
  generalize (lg_sl ([.ref (z + 340)]) ++ List.replicate (3 - (lg_sl ([.ref (z + 340)])).length) Slot.unset).toArray = ls at hl ⊢
  have hl : lv_has ls 3 [(0, .ref (z + 340))] := hl
  have C4 : ∀ (I : dkI) (H : Heap) (locs : List Loc) (ls : Array Slot) (x4_1 : Int32) (x4_2 : Int32), dkW g z I H → va_S (dkA z) s.heap H locs → dkF [] I0 I → dkN [(0, 0)] x4_1 → dkN [(0, 0)] x4_2 → lv_has ls 3 [(0, .ref (z + 340)), (1, .int x4_1), (2, .int x4_2)] → W p l e (headSpec wsX6_reigns (dkR 0)).room s m args below meth c H locs 0 0 (MQ below (dkQi g z (fun r I1 => dkN [(0, 0)] r ∧ dkF [] I0 I1 ∧ True)) args s 0 0 (dkA z)) (F0 m 4 ls []) := by
    intro I4_ H locs ls x4_1 x4_2 hW hS hF_4 k4_0 k4_1 hl
    have hF := hF_4
    refine lv_iload_n hx hb dX6_reigns_4 rfl (lv_at hl 2 rfl) ?_
    refine lv_aload_n hx hb dX6_reigns_5 rfl (lv_at hl 0 rfl) ?_
    refine dk_get hx hb hts iX6_reigns_6 hown hK (dk_at340 hW) rfl 13 (by decide) (hts (.fieldLink RX6 25 "DogKingsModel" "now" "[I") (List.mem_of_getElem? (i := 1) rfl)) rfl dX6_reigns_6 ?_
    refine lv_iconst (v := 4) hx hb dX6_reigns_9 (by decide) ?_
    refine dk_ild hx hb hK (dk_at346 hW) (dkN_in (n := 54) (dkN_lit (x := 4) (4) rfl) rfl) dX6_reigns_10 ?_
    refine lv_topi (fun v1 ev1 => ?_)
    have dv1 : dkN [(0, 0)] v1 := by rw [ev1]; exact (show dkN [(0, 0)] (I4_ 346 4) from (by rw [hF_4 346 4 rfl]; exact n346_4))
    refine lv_icmp_ge (tgt := 37) hx hb dX6_reigns_11 (by decide) (fun c2 => ?_) (fun c2 => ?_)
    ·
      refine lv_iload_n hx hb dX6_reigns_37 rfl (lv_at hl 1 rfl) ?_
      exact W.iret (v := x4_1) hx hb hr (fun t ht hW9 => ⟨⟨x4_1, I4_, rfl, ⟨dkN_sub k4_0 rfl, hF, trivial⟩, dkW_eq ht hW⟩, hS.F ht⟩) hS.2.2 dX6_reigns_38
    ·
      exact (dkN_nil (show dkN [] v1 from dkN_le2 1 k4_1 dv1 (dkc_nle c2) rfl)).elim
  refine lv_iconst (v := 0) hx hb dX6_reigns_0 (by decide) ?_
  refine lv_istore_n (lv' := [(1, .int 0), (0, .ref (z + 340))]) hx hb dX6_reigns_1 rfl hl (by decide) rfl (fun ls hl => ?_)
  refine lv_iconst (v := 0) hx hb dX6_reigns_2 (by decide) ?_
  refine lv_istore_n (lv' := [(2, .int 0), (1, .int 0), (0, .ref (z + 340))]) hx hb dX6_reigns_3 rfl hl (by decide) rfl (fun ls hl => ?_)
  exact C4 I0 _ _ ls 0 0 hW hS hF (dkN_sub (dkN_lit (x := 0) (0) rfl) rfl) (dkN_sub (dkN_lit (x := 0) (0) rfl) rfl) (lv_sub hl [2, 1, 0] rfl)
set_option maxHeartbeats 4000000 in
set_option maxRecDepth 100000 in
theorem c_X6_isMissing_1 (l : Launch) (g : dkG) (z : Nat) (I0 : dkI) (p0 : Int32) (dp0 : dkN [(0, 0)] p0) (n341_0 : dkN [(-1000000, -1000000)] (I0 341 0)) : Met l yX6_isMissing wsX6_isMissing (dkR 0) (dkPc g z [.ref (z + 340), .int p0] I0) (dkQi g z (fun r I1 => dkN [(1, 1)] r ∧ dkF [] I0 I1 ∧ True)) 0 0 (dkA z) := by
  refine Met.ofW (cc := cX6_isMissing) (maxL := 2) (ret := (some .boolean)) (by decide) rfl ?_
  intro p e s m args below meth c s₁ B hml hv
  obtain ⟨ha, hW, hK⟩ := hv
  have hx := B.exec
  have hb := B.bytes
  have hr := B.returns
  have hts := atoms_spec (ws := wsX6_isMissing) B.pre
  have hown : s.vm.findClass RX6 = some m.cls := findClass_of_methodNamed B.named
  have hlocks := B.notSynchronized
  have hS : va_S (dkA z) s.heap s.heap [] := va_S.rf
  have hF : dkF [] I0 I0 := dkF_rf _ _
  have hl := lv_entry ([.ref (z + 340), .int p0]) (n := 2) (Nat.le_of_ble_eq_true rfl)
  have hgo : entryFrame m args 2 = entryFrame m ([.ref (z + 340), .int p0] : List Value).toArray 2 := by rw [ha]
  rw [hgo, lg_entry_eq]
  generalize (lg_sl ([.ref (z + 340), .int p0]) ++ List.replicate (2 - (lg_sl ([.ref (z + 340), .int p0])).length) Slot.unset).toArray = ls at hl ⊢
  have hl : lv_has ls 2 [(0, .ref (z + 340)), (1, .int p0)] := hl
  refine lv_aload_n hx hb dX6_isMissing_0 rfl (lv_at hl 0 rfl) ?_
  refine dk_get hx hb hts iX6_isMissing_6 hown hK (dk_at340 hW) rfl 0 (by decide) (hts (.fieldLink RX6 7 "DogKingsModel" "lane" "[I") (List.mem_of_getElem? (i := 1) rfl)) rfl dX6_isMissing_1 ?_
  refine lv_iload_n hx hb dX6_isMissing_4 rfl (lv_at hl 1 rfl) ?_
  refine dk_ild hx hb hK (dk_at341 hW) (dkN_in (n := 8) dp0 rfl) dX6_isMissing_5 ?_
  refine lv_topi (fun v1 ev1 => ?_)
  have dv1 : dkN [(-1000000, -1000000)] v1 := by rw [ev1]; exact (by rw [dkN_cl (c := 0) dp0]; show dkN [(-1000000, -1000000)] (I0 341 0); exact n341_0)
  refine lv_ldc (v := (-1000000)) hx hb hown (hts (.constant RX6 50 (-1000000)) (List.mem_of_getElem? (i := 2) rfl)) dX6_isMissing_6 ?_
  refine lv_icmp_ne (tgt := 15) hx hb dX6_isMissing_8 (by decide) (fun c2 => ?_) (fun c2 => ?_)
  ·
    exact (dkN_nil (show dkN [] v1 from dkN_ne1 (-1000000) dv1 (dkN_lit (x := -1000000) (-1000000) rfl) (dk_ne c2) rfl)).elim
  ·
    refine lv_iconst (v := 1) hx hb dX6_isMissing_11 (by decide) ?_
    refine lv_goto (tgt := 16) hx hb dX6_isMissing_12 (by decide) ?_
    exact W.zret (v := 1) (ty := .boolean) hx hb hr rfl (fun t ht hW9 => ⟨⟨1, I0, rfl, ⟨dkN_sub (dkN_lit (x := 1) (1) rfl) rfl, hF, trivial⟩, dkW_eq ht hW⟩, hS.F ht⟩) hS.2.2 dX6_isMissing_16
set_option maxHeartbeats 4000000 in
set_option maxRecDepth 100000 in
theorem c_X6_isMissing_2 (l : Launch) (g : dkG) (z : Nat) (I0 : dkI) (p0 : Int32) (dp0 : dkN [(0, 1)] p0) (n341_s : ∀ j, dkN [(-1000000, -1000000)] (I0 341 j)) : Met l yX6_isMissing wsX6_isMissing (dkR 0) (dkPc g z [.ref (z + 340), .int p0] I0) (dkQi g z (fun r I1 => dkN [(1, 1)] r ∧ dkF [] I0 I1 ∧ True)) 0 0 (dkA z) := by
  refine Met.ofW (cc := cX6_isMissing) (maxL := 2) (ret := (some .boolean)) (by decide) rfl ?_
  intro p e s m args below meth c s₁ B hml hv
  obtain ⟨ha, hW, hK⟩ := hv
  have hx := B.exec
  have hb := B.bytes
  have hr := B.returns
  have hts := atoms_spec (ws := wsX6_isMissing) B.pre
  have hown : s.vm.findClass RX6 = some m.cls := findClass_of_methodNamed B.named
  have hlocks := B.notSynchronized
  have hS : va_S (dkA z) s.heap s.heap [] := va_S.rf
  have hF : dkF [] I0 I0 := dkF_rf _ _
  have hl := lv_entry ([.ref (z + 340), .int p0]) (n := 2) (Nat.le_of_ble_eq_true rfl)
  have hgo : entryFrame m args 2 = entryFrame m ([.ref (z + 340), .int p0] : List Value).toArray 2 := by rw [ha]
  rw [hgo, lg_entry_eq]
  generalize (lg_sl ([.ref (z + 340), .int p0]) ++ List.replicate (2 - (lg_sl ([.ref (z + 340), .int p0])).length) Slot.unset).toArray = ls at hl ⊢
  have hl : lv_has ls 2 [(0, .ref (z + 340)), (1, .int p0)] := hl
  refine lv_aload_n hx hb dX6_isMissing_0 rfl (lv_at hl 0 rfl) ?_
  refine dk_get hx hb hts iX6_isMissing_6 hown hK (dk_at340 hW) rfl 0 (by decide) (hts (.fieldLink RX6 7 "DogKingsModel" "lane" "[I") (List.mem_of_getElem? (i := 1) rfl)) rfl dX6_isMissing_1 ?_
  refine lv_iload_n hx hb dX6_isMissing_4 rfl (lv_at hl 1 rfl) ?_
  refine dk_ild hx hb hK (dk_at341 hW) (dkN_in (n := 8) dp0 rfl) dX6_isMissing_5 ?_
  refine lv_topi (fun v1 ev1 => ?_)
  have dv1 : dkN [(-1000000, -1000000)] v1 := by rw [ev1]; exact (n341_s _)
  refine lv_ldc (v := (-1000000)) hx hb hown (hts (.constant RX6 50 (-1000000)) (List.mem_of_getElem? (i := 2) rfl)) dX6_isMissing_6 ?_
  refine lv_icmp_ne (tgt := 15) hx hb dX6_isMissing_8 (by decide) (fun c2 => ?_) (fun c2 => ?_)
  ·
    exact (dkN_nil (show dkN [] v1 from dkN_ne1 (-1000000) dv1 (dkN_lit (x := -1000000) (-1000000) rfl) (dk_ne c2) rfl)).elim
  ·
    refine lv_iconst (v := 1) hx hb dX6_isMissing_11 (by decide) ?_
    refine lv_goto (tgt := 16) hx hb dX6_isMissing_12 (by decide) ?_
    exact W.zret (v := 1) (ty := .boolean) hx hb hr rfl (fun t ht hW9 => ⟨⟨1, I0, rfl, ⟨dkN_sub (dkN_lit (x := 1) (1) rfl) rfl, hF, trivial⟩, dkW_eq ht hW⟩, hS.F ht⟩) hS.2.2 dX6_isMissing_16
set_option maxHeartbeats 4000000 in
set_option maxRecDepth 100000 in
theorem c_X6_isMissing_3 (l : Launch) (g : dkG) (z : Nat) (I0 : dkI) (p0 : Int32) (dp0 : dkN [(0, 2)] p0) (n341_s : ∀ j, dkN [(-1000000, -1000000)] (I0 341 j)) : Met l yX6_isMissing wsX6_isMissing (dkR 0) (dkPc g z [.ref (z + 340), .int p0] I0) (dkQi g z (fun r I1 => dkN [(1, 1)] r ∧ dkF [] I0 I1 ∧ True)) 0 0 (dkA z) := by
  refine Met.ofW (cc := cX6_isMissing) (maxL := 2) (ret := (some .boolean)) (by decide) rfl ?_
  intro p e s m args below meth c s₁ B hml hv
  obtain ⟨ha, hW, hK⟩ := hv
  have hx := B.exec
  have hb := B.bytes
  have hr := B.returns
  have hts := atoms_spec (ws := wsX6_isMissing) B.pre
  have hown : s.vm.findClass RX6 = some m.cls := findClass_of_methodNamed B.named
  have hlocks := B.notSynchronized
  have hS : va_S (dkA z) s.heap s.heap [] := va_S.rf
  have hF : dkF [] I0 I0 := dkF_rf _ _
  have hl := lv_entry ([.ref (z + 340), .int p0]) (n := 2) (Nat.le_of_ble_eq_true rfl)
  have hgo : entryFrame m args 2 = entryFrame m ([.ref (z + 340), .int p0] : List Value).toArray 2 := by rw [ha]
  rw [hgo, lg_entry_eq]
  generalize (lg_sl ([.ref (z + 340), .int p0]) ++ List.replicate (2 - (lg_sl ([.ref (z + 340), .int p0])).length) Slot.unset).toArray = ls at hl ⊢
  have hl : lv_has ls 2 [(0, .ref (z + 340)), (1, .int p0)] := hl
  refine lv_aload_n hx hb dX6_isMissing_0 rfl (lv_at hl 0 rfl) ?_
  refine dk_get hx hb hts iX6_isMissing_6 hown hK (dk_at340 hW) rfl 0 (by decide) (hts (.fieldLink RX6 7 "DogKingsModel" "lane" "[I") (List.mem_of_getElem? (i := 1) rfl)) rfl dX6_isMissing_1 ?_
  refine lv_iload_n hx hb dX6_isMissing_4 rfl (lv_at hl 1 rfl) ?_
  refine dk_ild hx hb hK (dk_at341 hW) (dkN_in (n := 8) dp0 rfl) dX6_isMissing_5 ?_
  refine lv_topi (fun v1 ev1 => ?_)
  have dv1 : dkN [(-1000000, -1000000)] v1 := by rw [ev1]; exact (n341_s _)
  refine lv_ldc (v := (-1000000)) hx hb hown (hts (.constant RX6 50 (-1000000)) (List.mem_of_getElem? (i := 2) rfl)) dX6_isMissing_6 ?_
  refine lv_icmp_ne (tgt := 15) hx hb dX6_isMissing_8 (by decide) (fun c2 => ?_) (fun c2 => ?_)
  ·
    exact (dkN_nil (show dkN [] v1 from dkN_ne1 (-1000000) dv1 (dkN_lit (x := -1000000) (-1000000) rfl) (dk_ne c2) rfl)).elim
  ·
    refine lv_iconst (v := 1) hx hb dX6_isMissing_11 (by decide) ?_
    refine lv_goto (tgt := 16) hx hb dX6_isMissing_12 (by decide) ?_
    exact W.zret (v := 1) (ty := .boolean) hx hb hr rfl (fun t ht hW9 => ⟨⟨1, I0, rfl, ⟨dkN_sub (dkN_lit (x := 1) (1) rfl) rfl, hF, trivial⟩, dkW_eq ht hW⟩, hS.F ht⟩) hS.2.2 dX6_isMissing_16
set_option maxHeartbeats 4000000 in
set_option maxRecDepth 100000 in
theorem c_X6_isMissing_4 (l : Launch) (g : dkG) (z : Nat) (I0 : dkI) (p0 : Int32) (dp0 : dkN [(0, 3)] p0) (n341_s : ∀ j, dkN [(-1000000, -1000000)] (I0 341 j)) : Met l yX6_isMissing wsX6_isMissing (dkR 0) (dkPc g z [.ref (z + 340), .int p0] I0) (dkQi g z (fun r I1 => dkN [(1, 1)] r ∧ dkF [] I0 I1 ∧ True)) 0 0 (dkA z) := by
  refine Met.ofW (cc := cX6_isMissing) (maxL := 2) (ret := (some .boolean)) (by decide) rfl ?_
  intro p e s m args below meth c s₁ B hml hv
  obtain ⟨ha, hW, hK⟩ := hv
  have hx := B.exec
  have hb := B.bytes
  have hr := B.returns
  have hts := atoms_spec (ws := wsX6_isMissing) B.pre
  have hown : s.vm.findClass RX6 = some m.cls := findClass_of_methodNamed B.named
  have hlocks := B.notSynchronized
  have hS : va_S (dkA z) s.heap s.heap [] := va_S.rf
  have hF : dkF [] I0 I0 := dkF_rf _ _
  have hl := lv_entry ([.ref (z + 340), .int p0]) (n := 2) (Nat.le_of_ble_eq_true rfl)
  have hgo : entryFrame m args 2 = entryFrame m ([.ref (z + 340), .int p0] : List Value).toArray 2 := by rw [ha]
  rw [hgo, lg_entry_eq]
  generalize (lg_sl ([.ref (z + 340), .int p0]) ++ List.replicate (2 - (lg_sl ([.ref (z + 340), .int p0])).length) Slot.unset).toArray = ls at hl ⊢
  have hl : lv_has ls 2 [(0, .ref (z + 340)), (1, .int p0)] := hl
  refine lv_aload_n hx hb dX6_isMissing_0 rfl (lv_at hl 0 rfl) ?_
  refine dk_get hx hb hts iX6_isMissing_6 hown hK (dk_at340 hW) rfl 0 (by decide) (hts (.fieldLink RX6 7 "DogKingsModel" "lane" "[I") (List.mem_of_getElem? (i := 1) rfl)) rfl dX6_isMissing_1 ?_
  refine lv_iload_n hx hb dX6_isMissing_4 rfl (lv_at hl 1 rfl) ?_
  refine dk_ild hx hb hK (dk_at341 hW) (dkN_in (n := 8) dp0 rfl) dX6_isMissing_5 ?_
  refine lv_topi (fun v1 ev1 => ?_)
  have dv1 : dkN [(-1000000, -1000000)] v1 := by rw [ev1]; exact (n341_s _)
  refine lv_ldc (v := (-1000000)) hx hb hown (hts (.constant RX6 50 (-1000000)) (List.mem_of_getElem? (i := 2) rfl)) dX6_isMissing_6 ?_
  refine lv_icmp_ne (tgt := 15) hx hb dX6_isMissing_8 (by decide) (fun c2 => ?_) (fun c2 => ?_)
  ·
    exact (dkN_nil (show dkN [] v1 from dkN_ne1 (-1000000) dv1 (dkN_lit (x := -1000000) (-1000000) rfl) (dk_ne c2) rfl)).elim
  ·
    refine lv_iconst (v := 1) hx hb dX6_isMissing_11 (by decide) ?_
    refine lv_goto (tgt := 16) hx hb dX6_isMissing_12 (by decide) ?_
    exact W.zret (v := 1) (ty := .boolean) hx hb hr rfl (fun t ht hW9 => ⟨⟨1, I0, rfl, ⟨dkN_sub (dkN_lit (x := 1) (1) rfl) rfl, hF, trivial⟩, dkW_eq ht hW⟩, hS.F ht⟩) hS.2.2 dX6_isMissing_16
set_option maxHeartbeats 4000000 in
set_option maxRecDepth 100000 in
theorem c_X6_isMissing_5 (l : Launch) (g : dkG) (z : Nat) (I0 : dkI) (p0 : Int32) (dp0 : dkN [(0, 4)] p0) (n341_s : ∀ j, dkN [(-1000000, -1000000)] (I0 341 j)) : Met l yX6_isMissing wsX6_isMissing (dkR 0) (dkPc g z [.ref (z + 340), .int p0] I0) (dkQi g z (fun r I1 => dkN [(1, 1)] r ∧ dkF [] I0 I1 ∧ True)) 0 0 (dkA z) := by
  refine Met.ofW (cc := cX6_isMissing) (maxL := 2) (ret := (some .boolean)) (by decide) rfl ?_
  intro p e s m args below meth c s₁ B hml hv
  obtain ⟨ha, hW, hK⟩ := hv
  have hx := B.exec
  have hb := B.bytes
  have hr := B.returns
  have hts := atoms_spec (ws := wsX6_isMissing) B.pre
  have hown : s.vm.findClass RX6 = some m.cls := findClass_of_methodNamed B.named
  have hlocks := B.notSynchronized
  have hS : va_S (dkA z) s.heap s.heap [] := va_S.rf
  have hF : dkF [] I0 I0 := dkF_rf _ _
  have hl := lv_entry ([.ref (z + 340), .int p0]) (n := 2) (Nat.le_of_ble_eq_true rfl)
  have hgo : entryFrame m args 2 = entryFrame m ([.ref (z + 340), .int p0] : List Value).toArray 2 := by rw [ha]
  rw [hgo, lg_entry_eq]
  generalize (lg_sl ([.ref (z + 340), .int p0]) ++ List.replicate (2 - (lg_sl ([.ref (z + 340), .int p0])).length) Slot.unset).toArray = ls at hl ⊢
  have hl : lv_has ls 2 [(0, .ref (z + 340)), (1, .int p0)] := hl
  refine lv_aload_n hx hb dX6_isMissing_0 rfl (lv_at hl 0 rfl) ?_
  refine dk_get hx hb hts iX6_isMissing_6 hown hK (dk_at340 hW) rfl 0 (by decide) (hts (.fieldLink RX6 7 "DogKingsModel" "lane" "[I") (List.mem_of_getElem? (i := 1) rfl)) rfl dX6_isMissing_1 ?_
  refine lv_iload_n hx hb dX6_isMissing_4 rfl (lv_at hl 1 rfl) ?_
  refine dk_ild hx hb hK (dk_at341 hW) (dkN_in (n := 8) dp0 rfl) dX6_isMissing_5 ?_
  refine lv_topi (fun v1 ev1 => ?_)
  have dv1 : dkN [(-1000000, -1000000)] v1 := by rw [ev1]; exact (n341_s _)
  refine lv_ldc (v := (-1000000)) hx hb hown (hts (.constant RX6 50 (-1000000)) (List.mem_of_getElem? (i := 2) rfl)) dX6_isMissing_6 ?_
  refine lv_icmp_ne (tgt := 15) hx hb dX6_isMissing_8 (by decide) (fun c2 => ?_) (fun c2 => ?_)
  ·
    exact (dkN_nil (show dkN [] v1 from dkN_ne1 (-1000000) dv1 (dkN_lit (x := -1000000) (-1000000) rfl) (dk_ne c2) rfl)).elim
  ·
    refine lv_iconst (v := 1) hx hb dX6_isMissing_11 (by decide) ?_
    refine lv_goto (tgt := 16) hx hb dX6_isMissing_12 (by decide) ?_
    exact W.zret (v := 1) (ty := .boolean) hx hb hr rfl (fun t ht hW9 => ⟨⟨1, I0, rfl, ⟨dkN_sub (dkN_lit (x := 1) (1) rfl) rfl, hF, trivial⟩, dkW_eq ht hW⟩, hS.F ht⟩) hS.2.2 dX6_isMissing_16
set_option maxHeartbeats 4000000 in
set_option maxRecDepth 100000 in
theorem c_X6_isMissing_6 (l : Launch) (g : dkG) (z : Nat) (I0 : dkI) (p0 : Int32) (dp0 : dkN [(0, 5)] p0) (n341_s : ∀ j, dkN [(-1000000, -1000000)] (I0 341 j)) : Met l yX6_isMissing wsX6_isMissing (dkR 0) (dkPc g z [.ref (z + 340), .int p0] I0) (dkQi g z (fun r I1 => dkN [(1, 1)] r ∧ dkF [] I0 I1 ∧ True)) 0 0 (dkA z) := by
  refine Met.ofW (cc := cX6_isMissing) (maxL := 2) (ret := (some .boolean)) (by decide) rfl ?_
  intro p e s m args below meth c s₁ B hml hv
  obtain ⟨ha, hW, hK⟩ := hv
  have hx := B.exec
  have hb := B.bytes
  have hr := B.returns
  have hts := atoms_spec (ws := wsX6_isMissing) B.pre
  have hown : s.vm.findClass RX6 = some m.cls := findClass_of_methodNamed B.named
  have hlocks := B.notSynchronized
  have hS : va_S (dkA z) s.heap s.heap [] := va_S.rf
  have hF : dkF [] I0 I0 := dkF_rf _ _
  have hl := lv_entry ([.ref (z + 340), .int p0]) (n := 2) (Nat.le_of_ble_eq_true rfl)
  have hgo : entryFrame m args 2 = entryFrame m ([.ref (z + 340), .int p0] : List Value).toArray 2 := by rw [ha]
  rw [hgo, lg_entry_eq]
  generalize (lg_sl ([.ref (z + 340), .int p0]) ++ List.replicate (2 - (lg_sl ([.ref (z + 340), .int p0])).length) Slot.unset).toArray = ls at hl ⊢
  have hl : lv_has ls 2 [(0, .ref (z + 340)), (1, .int p0)] := hl
  refine lv_aload_n hx hb dX6_isMissing_0 rfl (lv_at hl 0 rfl) ?_
  refine dk_get hx hb hts iX6_isMissing_6 hown hK (dk_at340 hW) rfl 0 (by decide) (hts (.fieldLink RX6 7 "DogKingsModel" "lane" "[I") (List.mem_of_getElem? (i := 1) rfl)) rfl dX6_isMissing_1 ?_
  refine lv_iload_n hx hb dX6_isMissing_4 rfl (lv_at hl 1 rfl) ?_
  refine dk_ild hx hb hK (dk_at341 hW) (dkN_in (n := 8) dp0 rfl) dX6_isMissing_5 ?_
  refine lv_topi (fun v1 ev1 => ?_)
  have dv1 : dkN [(-1000000, -1000000)] v1 := by rw [ev1]; exact (n341_s _)
  refine lv_ldc (v := (-1000000)) hx hb hown (hts (.constant RX6 50 (-1000000)) (List.mem_of_getElem? (i := 2) rfl)) dX6_isMissing_6 ?_
  refine lv_icmp_ne (tgt := 15) hx hb dX6_isMissing_8 (by decide) (fun c2 => ?_) (fun c2 => ?_)
  ·
    exact (dkN_nil (show dkN [] v1 from dkN_ne1 (-1000000) dv1 (dkN_lit (x := -1000000) (-1000000) rfl) (dk_ne c2) rfl)).elim
  ·
    refine lv_iconst (v := 1) hx hb dX6_isMissing_11 (by decide) ?_
    refine lv_goto (tgt := 16) hx hb dX6_isMissing_12 (by decide) ?_
    exact W.zret (v := 1) (ty := .boolean) hx hb hr rfl (fun t ht hW9 => ⟨⟨1, I0, rfl, ⟨dkN_sub (dkN_lit (x := 1) (1) rfl) rfl, hF, trivial⟩, dkW_eq ht hW⟩, hS.F ht⟩) hS.2.2 dX6_isMissing_16
set_option maxHeartbeats 4000000 in
set_option maxRecDepth 100000 in
theorem c_X6_isMissing_7 (l : Launch) (g : dkG) (z : Nat) (I0 : dkI) (p0 : Int32) (dp0 : dkN [(0, 6)] p0) (n341_s : ∀ j, dkN [(-1000000, -1000000)] (I0 341 j)) : Met l yX6_isMissing wsX6_isMissing (dkR 0) (dkPc g z [.ref (z + 340), .int p0] I0) (dkQi g z (fun r I1 => dkN [(1, 1)] r ∧ dkF [] I0 I1 ∧ True)) 0 0 (dkA z) := by
  refine Met.ofW (cc := cX6_isMissing) (maxL := 2) (ret := (some .boolean)) (by decide) rfl ?_
  intro p e s m args below meth c s₁ B hml hv
  obtain ⟨ha, hW, hK⟩ := hv
  have hx := B.exec
  have hb := B.bytes
  have hr := B.returns
  have hts := atoms_spec (ws := wsX6_isMissing) B.pre
  have hown : s.vm.findClass RX6 = some m.cls := findClass_of_methodNamed B.named
  have hlocks := B.notSynchronized
  have hS : va_S (dkA z) s.heap s.heap [] := va_S.rf
  have hF : dkF [] I0 I0 := dkF_rf _ _
  have hl := lv_entry ([.ref (z + 340), .int p0]) (n := 2) (Nat.le_of_ble_eq_true rfl)
  have hgo : entryFrame m args 2 = entryFrame m ([.ref (z + 340), .int p0] : List Value).toArray 2 := by rw [ha]
  rw [hgo, lg_entry_eq]
  generalize (lg_sl ([.ref (z + 340), .int p0]) ++ List.replicate (2 - (lg_sl ([.ref (z + 340), .int p0])).length) Slot.unset).toArray = ls at hl ⊢
  have hl : lv_has ls 2 [(0, .ref (z + 340)), (1, .int p0)] := hl
  refine lv_aload_n hx hb dX6_isMissing_0 rfl (lv_at hl 0 rfl) ?_
  refine dk_get hx hb hts iX6_isMissing_6 hown hK (dk_at340 hW) rfl 0 (by decide) (hts (.fieldLink RX6 7 "DogKingsModel" "lane" "[I") (List.mem_of_getElem? (i := 1) rfl)) rfl dX6_isMissing_1 ?_
  refine lv_iload_n hx hb dX6_isMissing_4 rfl (lv_at hl 1 rfl) ?_
  refine dk_ild hx hb hK (dk_at341 hW) (dkN_in (n := 8) dp0 rfl) dX6_isMissing_5 ?_
  refine lv_topi (fun v1 ev1 => ?_)
  have dv1 : dkN [(-1000000, -1000000)] v1 := by rw [ev1]; exact (n341_s _)
  refine lv_ldc (v := (-1000000)) hx hb hown (hts (.constant RX6 50 (-1000000)) (List.mem_of_getElem? (i := 2) rfl)) dX6_isMissing_6 ?_
  refine lv_icmp_ne (tgt := 15) hx hb dX6_isMissing_8 (by decide) (fun c2 => ?_) (fun c2 => ?_)
  ·
    exact (dkN_nil (show dkN [] v1 from dkN_ne1 (-1000000) dv1 (dkN_lit (x := -1000000) (-1000000) rfl) (dk_ne c2) rfl)).elim
  ·
    refine lv_iconst (v := 1) hx hb dX6_isMissing_11 (by decide) ?_
    refine lv_goto (tgt := 16) hx hb dX6_isMissing_12 (by decide) ?_
    exact W.zret (v := 1) (ty := .boolean) hx hb hr rfl (fun t ht hW9 => ⟨⟨1, I0, rfl, ⟨dkN_sub (dkN_lit (x := 1) (1) rfl) rfl, hF, trivial⟩, dkW_eq ht hW⟩, hS.F ht⟩) hS.2.2 dX6_isMissing_16
set_option maxHeartbeats 4000000 in
set_option maxRecDepth 100000 in
theorem c_X6_count_1 (l : Launch) (g : dkG) (z : Nat) (I0 : dkI) (p0 : Int32) (dp0 : dkN [(0, 9)] p0) (n340_17 : dkN [(0, 0)] (I0 340 17)) (n340_6 : dkN [(0, 0)] (I0 340 6)) (n341_s : ∀ j, dkN [(-1000000, -1000000)] (I0 341 j)) (n346_0 : dkN [(0, 0)] (I0 346 0)) (n346_1 : dkN [(0, 0)] (I0 346 1)) (n346_2 : dkN [(0, 0)] (I0 346 2)) (n346_3 : dkN [(0, 0)] (I0 346 3)) (n346_4 : dkN [(0, 0)] (I0 346 4)) (n346_5 : dkN [(0, 0)] (I0 346 5)) : Met l yX6_count wsX6_count (dkR 1) (dkPc g z [.ref (z + 340), .int p0] I0) (dkQi g z (fun r I1 => dkN [(0, 0)] r ∧ dkF [] I0 I1 ∧ True)) 0 0 (dkA z) := by
  refine Met.ofW (cc := cX6_count) (maxL := 4) (ret := (some .int)) (by decide) rfl ?_
  intro p e s m args below meth c s₁ B hml hv
  obtain ⟨ha, hW, hK⟩ := hv
  have hx := B.exec
  have hb := B.bytes
  have hr := B.returns
  have hts := atoms_spec (ws := wsX6_count) B.pre
  have hown : s.vm.findClass RX6 = some m.cls := findClass_of_methodNamed B.named
  have hlocks := B.notSynchronized
  have hS : va_S (dkA z) s.heap s.heap [] := va_S.rf
  have hF : dkF [] I0 I0 := dkF_rf _ _
  have hl := lv_entry ([.ref (z + 340), .int p0]) (n := 4) (Nat.le_of_ble_eq_true rfl)
  have hgo : entryFrame m args 4 = entryFrame m ([.ref (z + 340), .int p0] : List Value).toArray 4 := by rw [ha]
  rw [hgo, lg_entry_eq]
  generalize (lg_sl ([.ref (z + 340), .int p0]) ++ List.replicate (4 - (lg_sl ([.ref (z + 340), .int p0])).length) Slot.unset).toArray = ls at hl ⊢
  have hl : lv_has ls 4 [(0, .ref (z + 340)), (1, .int p0)] := hl
  have C58 : ∀ (n : Nat), ∀ (I : dkI) (H : Heap) (locs : List Loc) (ls : Array Slot) (x58_2 : Int32) (x58_3 : Int32), (8 - x58_3.toInt).toNat < n → dkW g z I H → va_S (dkA z) s.heap H locs → dkF [] I0 I → dkN [(0, 0)] x58_2 → dkN [(0, 8)] x58_3 → dkN [(0, 0)] p0 → lv_has ls 4 [(0, .ref (z + 340)), (1, .int p0), (2, .int x58_2), (3, .int x58_3)] → W p l e (headSpec wsX6_count (dkR 1)).room s m args below meth c H locs 0 0 (MQ below (dkQi g z (fun r I1 => dkN [(0, 0)] r ∧ dkF [] I0 I1 ∧ True)) args s 0 0 (dkA z)) (F0 m 58 ls []) := by
    intro n
    induction n with
    | zero => intro I H locs ls x58_2 x58_3 hn; exact absurd hn (Nat.not_lt_zero _)
    | succ n ih58 =>
      intro I58_ H locs ls x58_2 x58_3 hn58 hW hS hF_58 k58_0 k58_1 r58_0 hl
      have hF := hF_58
      have C78 : ∀ (I : dkI) (H : Heap) (locs : List Loc) (ls : Array Slot) (x78_s0 : Int32), dkW g z I H → va_S (dkA z) s.heap H locs → dkF [] I0 I → dkN [(0, 0)] x78_s0 → dkN [(0, 0)] p0 → dkN [(0, 0)] x58_2 → dkN [(0, 7)] x58_3 → lv_has ls 4 [(0, .ref (z + 340)), (1, .int p0), (2, .int x58_2), (3, .int x58_3)] → W p l e (headSpec wsX6_count (dkR 1)).room s m args below meth c H locs 0 0 (MQ below (dkQi g z (fun r I1 => dkN [(0, 0)] r ∧ dkF [] I0 I1 ∧ True)) args s 0 0 (dkA z)) (F0 m 78 ls [.int x78_s0, .int x58_2]) := by
        intro I78_ H locs ls x78_s0 hW hS hF_78 k78_0 r78_0 r78_1 r78_2 hl
        have hF := hF_78
        refine lv_iadd hx hb dX6_count_78 ?_
        refine lv_topi (fun v1 ev1 => ?_)
        have dv1 : dkN [(0, 0)] v1 := by rw [ev1]; exact dkN_add r78_1 k78_0 rfl
        refine lv_istore_n (lv' := [(2, .int v1), (0, .ref (z + 340)), (1, .int p0), (3, .int x58_3)]) hx hb dX6_count_79 rfl hl (by decide) rfl (fun ls hl => ?_)
        obtain ⟨v2, ev2⟩ : ∃ y : Int32, y = x58_3 + 1 := ⟨_, rfl⟩
        have dv2 : dkN [(1, 8)] v2 := by rw [ev2]; exact dkN_add r78_2 (dkN_lit (x := 1) (1) rfl) rfl
        refine lv_iinc (v := v2) (lv' := [(3, .int v2), (2, .int v1), (0, .ref (z + 340)), (1, .int p0)]) hx hb dX6_count_80 hl (k := 3) rfl (by rw [ev2]; rfl) (by decide) rfl (fun ls hl => ?_)
        refine lv_goto (tgt := 58) hx hb dX6_count_83 (by decide) ?_
        exact ih58 I78_ _ _ ls v1 v2 (dk_near hn58 (by rw [ev2]; exact dk_inc r78_2 rfl) (dkN_lt r78_2 rfl)) hW hS hF (dkN_sub dv1 rfl) (dkN_sub dv2 rfl) (dkN_sub r78_0 rfl) (lv_sub hl [2, 3, 1, 0] rfl)
      refine lv_iload_n hx hb dX6_count_58 rfl (lv_at hl 3 rfl) ?_
      refine lv_bipush (v := 8) hx hb dX6_count_59 (by decide) ?_
      refine lv_icmp_ge (tgt := 86) hx hb dX6_count_61 (by decide) (fun c3 => ?_) (fun c3 => ?_)
      ·
        have d4 : dkN [(8, 8)] x58_3 := dkN_le2 0 (dkN_lit (x := 8) (8) rfl) k58_1 (dkc_le c3) rfl
        refine lv_iload_n hx hb dX6_count_86 rfl (lv_at hl 2 rfl) ?_
        exact W.iret (v := x58_2) hx hb hr (fun t ht hW9 => ⟨⟨x58_2, I58_, rfl, ⟨dkN_sub k58_0 rfl, hF, trivial⟩, dkW_eq ht hW⟩, hS.F ht⟩) hS.2.2 dX6_count_87
      ·
        have d5 : dkN [(0, 7)] x58_3 := dkN_le1 1 k58_1 (dkN_lit (x := 8) (8) rfl) (dkc_nle c3) rfl
        refine lv_iload_n hx hb dX6_count_64 rfl (lv_at hl 2 rfl) ?_
        refine lv_aload_n hx hb dX6_count_65 rfl (lv_at hl 0 rfl) ?_
        refine lv_iload_n hx hb dX6_count_66 rfl (lv_at hl 3 rfl) ?_
        refine dk_Vi (As := [.int x58_3]) (rest := [.int x58_2]) ⟨hx, hb, hml, hown, hts⟩ (c_X6_isMissing_0 l g z I58_ x58_3 d5 (fun j => by rw [hF_58 341 _ rfl]; exact n341_s j)) (cwV 1 hts gX6_count_X6_isMissing rfl rfl rfl (by decide +kernel) ⟨Nat.le_of_ble_eq_true rfl, Nat.le_of_ble_eq_true rfl⟩) (dk_at340 hW) rfl hK hW hS rfl hl.1 rfl (Nat.le_of_ble_eq_true rfl) dX6_count_67 ⟨Nat.zero_le _, Nat.zero_le _⟩ (fun v6 I6 H6 L6 hp6 hW hS => ?_)
        obtain ⟨dv6, hF6, -⟩ := hp6
        have hF := dkF_call hF hF6 rfl
        refine lv_if_eq (tgt := 77) hx hb dX6_count_70 (by decide) (fun c7 => ?_) (fun c7 => ?_)
        ·
          exact (dkN_nil (show dkN [] v6 from dkN_eq1 dv6 (dkN_lit (x := 0) (0) rfl) (congrArg Int32.toInt c7) rfl)).elim
        ·
          refine lv_iconst (v := 0) hx hb dX6_count_73 (by decide) ?_
          refine lv_goto (tgt := 78) hx hb dX6_count_74 (by decide) ?_
          exact C78 I6 _ _ ls 0 hW hS hF (dkN_sub (dkN_lit (x := 0) (0) rfl) rfl) (dkN_sub r58_0 rfl) (dkN_sub k58_0 rfl) (dkN_sub d5 rfl) (lv_sub hl [0, 1, 2, 3] rfl)
  refine lv_iconst (v := 0) hx hb dX6_count_0 (by decide) ?_
  refine lv_istore_n (lv' := [(2, .int 0), (0, .ref (z + 340)), (1, .int p0)]) hx hb dX6_count_1 rfl hl (by decide) rfl (fun ls hl => ?_)
  refine lv_iload_n hx hb dX6_count_2 rfl (lv_at hl 2 rfl) ?_
  by_cases c8 : p0 = 0
  · have qc8 : p0.toInt = 0 := by rw [c8]; rfl
    have d9 : dkN [(0, 0)] p0 := dkN_lit (0) qc8
    refine lv_tableIn (tgt := 56) hx hb dX6_count_3 (by rw [qc8]; decide) (by rw [qc8]; decide) (by rw [qc8]; rfl) (by decide) ?_
    refine lv_iconst (v := 0) hx hb dX6_count_56 (by decide) ?_
    refine lv_istore_n (lv' := [(3, .int 0), (2, .int 0), (0, .ref (z + 340)), (1, .int p0)]) hx hb dX6_count_57 rfl hl (by decide) rfl (fun ls hl => ?_)
    exact C58 _ I0 _ _ ls 0 0 (Nat.lt_succ_self _) hW hS hF (dkN_sub (dkN_lit (x := 0) (0) rfl) rfl) (dkN_sub (dkN_lit (x := 0) (0) rfl) rfl) (dkN_sub d9 rfl) (lv_sub hl [2, 3, 1, 0] rfl)
  ·
    have d10 : dkN [(1, 9)] p0 := dkN_ne1 (0) dp0 (dkN_lit (x := 0) (0) rfl) (dk_ne c8) rfl
    by_cases c11 : p0 = 1
    · have qc11 : p0.toInt = 1 := by rw [c11]; rfl
      have d12 : dkN [(1, 1)] p0 := dkN_lit (1) qc11
      refine lv_tableIn (tgt := 88) hx hb dX6_count_3 (by rw [qc11]; decide) (by rw [qc11]; decide) (by rw [qc11]; rfl) (by decide) ?_
      refine lv_aload_n hx hb dX6_count_88 rfl (lv_at hl 1 rfl) ?_
      refine dk_get hx hb hts iX6_count_6 hown hK (dk_at340 hW) rfl 13 (by decide) (hts (.fieldLink RX6 25 "DogKingsModel" "now" "[I") (List.mem_of_getElem? (i := 1) rfl)) rfl dX6_count_89 ?_
      refine lv_iconst (v := 0) hx hb dX6_count_92 (by decide) ?_
      refine dk_ild hx hb hK (dk_at346 hW) (dkN_in (n := 54) (dkN_lit (x := 0) (0) rfl) rfl) dX6_count_93 ?_
      refine lv_topi (fun v13 ev13 => ?_)
      have dv13 : dkN [(0, 0)] v13 := by rw [ev13]; exact (show dkN [(0, 0)] (I0 346 0) from n346_0)
      exact W.iret (v := v13) hx hb hr (fun t ht hW9 => ⟨⟨v13, I0, rfl, ⟨dkN_sub dv13 rfl, hF, trivial⟩, dkW_eq ht hW⟩, hS.F ht⟩) hS.2.2 dX6_count_94
    ·
      have d14 : dkN [(2, 9)] p0 := dkN_ne1 (1) d10 (dkN_lit (x := 1) (1) rfl) (dk_ne c11) rfl
      by_cases c15 : p0 = 2
      · have qc15 : p0.toInt = 2 := by rw [c15]; rfl
        have d16 : dkN [(2, 2)] p0 := dkN_lit (2) qc15
        refine lv_tableIn (tgt := 95) hx hb dX6_count_3 (by rw [qc15]; decide) (by rw [qc15]; decide) (by rw [qc15]; rfl) (by decide) ?_
        refine lv_aload_n hx hb dX6_count_95 rfl (lv_at hl 1 rfl) ?_
        refine dk_get hx hb hts iX6_count_6 hown hK (dk_at340 hW) rfl 13 (by decide) (hts (.fieldLink RX6 25 "DogKingsModel" "now" "[I") (List.mem_of_getElem? (i := 1) rfl)) rfl dX6_count_96 ?_
        refine lv_iconst (v := 5) hx hb dX6_count_99 (by decide) ?_
        refine dk_ild hx hb hK (dk_at346 hW) (dkN_in (n := 54) (dkN_lit (x := 5) (5) rfl) rfl) dX6_count_100 ?_
        refine lv_topi (fun v17 ev17 => ?_)
        have dv17 : dkN [(0, 0)] v17 := by rw [ev17]; exact (show dkN [(0, 0)] (I0 346 5) from n346_5)
        exact W.iret (v := v17) hx hb hr (fun t ht hW9 => ⟨⟨v17, I0, rfl, ⟨dkN_sub dv17 rfl, hF, trivial⟩, dkW_eq ht hW⟩, hS.F ht⟩) hS.2.2 dX6_count_101
      ·
        have d18 : dkN [(3, 9)] p0 := dkN_ne1 (2) d14 (dkN_lit (x := 2) (2) rfl) (dk_ne c15) rfl
        by_cases c19 : p0 = 3
        · have qc19 : p0.toInt = 3 := by rw [c19]; rfl
          have d20 : dkN [(3, 3)] p0 := dkN_lit (3) qc19
          refine lv_tableIn (tgt := 102) hx hb dX6_count_3 (by rw [qc19]; decide) (by rw [qc19]; decide) (by rw [qc19]; rfl) (by decide) ?_
          refine lv_aload_n hx hb dX6_count_102 rfl (lv_at hl 1 rfl) ?_
          refine dk_get hx hb hts iX6_count_6 hown hK (dk_at340 hW) rfl 13 (by decide) (hts (.fieldLink RX6 25 "DogKingsModel" "now" "[I") (List.mem_of_getElem? (i := 1) rfl)) rfl dX6_count_103 ?_
          refine lv_iconst (v := 4) hx hb dX6_count_106 (by decide) ?_
          refine dk_ild hx hb hK (dk_at346 hW) (dkN_in (n := 54) (dkN_lit (x := 4) (4) rfl) rfl) dX6_count_107 ?_
          refine lv_topi (fun v21 ev21 => ?_)
          have dv21 : dkN [(0, 0)] v21 := by rw [ev21]; exact (show dkN [(0, 0)] (I0 346 4) from n346_4)
          exact W.iret (v := v21) hx hb hr (fun t ht hW9 => ⟨⟨v21, I0, rfl, ⟨dkN_sub dv21 rfl, hF, trivial⟩, dkW_eq ht hW⟩, hS.F ht⟩) hS.2.2 dX6_count_108
        ·
          have d22 : dkN [(4, 9)] p0 := dkN_ne1 (3) d18 (dkN_lit (x := 3) (3) rfl) (dk_ne c19) rfl
          by_cases c23 : p0 = 4
          · have qc23 : p0.toInt = 4 := by rw [c23]; rfl
            have d24 : dkN [(4, 4)] p0 := dkN_lit (4) qc23
            refine lv_tableIn (tgt := 109) hx hb dX6_count_3 (by rw [qc23]; decide) (by rw [qc23]; decide) (by rw [qc23]; rfl) (by decide) ?_
            refine lv_aload_n hx hb dX6_count_109 rfl (lv_at hl 1 rfl) ?_
            refine dk_get hx hb hts iX6_count_6 hown hK (dk_at340 hW) rfl 13 (by decide) (hts (.fieldLink RX6 25 "DogKingsModel" "now" "[I") (List.mem_of_getElem? (i := 1) rfl)) rfl dX6_count_110 ?_
            refine lv_iconst (v := 2) hx hb dX6_count_113 (by decide) ?_
            refine dk_ild hx hb hK (dk_at346 hW) (dkN_in (n := 54) (dkN_lit (x := 2) (2) rfl) rfl) dX6_count_114 ?_
            refine lv_topi (fun v25 ev25 => ?_)
            have dv25 : dkN [(0, 0)] v25 := by rw [ev25]; exact (show dkN [(0, 0)] (I0 346 2) from n346_2)
            exact W.iret (v := v25) hx hb hr (fun t ht hW9 => ⟨⟨v25, I0, rfl, ⟨dkN_sub dv25 rfl, hF, trivial⟩, dkW_eq ht hW⟩, hS.F ht⟩) hS.2.2 dX6_count_115
          ·
            have d26 : dkN [(5, 9)] p0 := dkN_ne1 (4) d22 (dkN_lit (x := 4) (4) rfl) (dk_ne c23) rfl
            by_cases c27 : p0 = 5
            · have qc27 : p0.toInt = 5 := by rw [c27]; rfl
              have d28 : dkN [(5, 5)] p0 := dkN_lit (5) qc27
              refine lv_tableIn (tgt := 116) hx hb dX6_count_3 (by rw [qc27]; decide) (by rw [qc27]; decide) (by rw [qc27]; rfl) (by decide) ?_
              refine lv_aload_n hx hb dX6_count_116 rfl (lv_at hl 1 rfl) ?_
              refine dk_get hx hb hts iX6_count_6 hown hK (dk_at340 hW) rfl 13 (by decide) (hts (.fieldLink RX6 25 "DogKingsModel" "now" "[I") (List.mem_of_getElem? (i := 1) rfl)) rfl dX6_count_117 ?_
              refine lv_iconst (v := 3) hx hb dX6_count_120 (by decide) ?_
              refine dk_ild hx hb hK (dk_at346 hW) (dkN_in (n := 54) (dkN_lit (x := 3) (3) rfl) rfl) dX6_count_121 ?_
              refine lv_topi (fun v29 ev29 => ?_)
              have dv29 : dkN [(0, 0)] v29 := by rw [ev29]; exact (show dkN [(0, 0)] (I0 346 3) from n346_3)
              exact W.iret (v := v29) hx hb hr (fun t ht hW9 => ⟨⟨v29, I0, rfl, ⟨dkN_sub dv29 rfl, hF, trivial⟩, dkW_eq ht hW⟩, hS.F ht⟩) hS.2.2 dX6_count_122
            ·
              have d30 : dkN [(6, 9)] p0 := dkN_ne1 (5) d26 (dkN_lit (x := 5) (5) rfl) (dk_ne c27) rfl
              by_cases c31 : p0 = 6
              · have qc31 : p0.toInt = 6 := by rw [c31]; rfl
                have d32 : dkN [(6, 6)] p0 := dkN_lit (6) qc31
                refine lv_tableIn (tgt := 123) hx hb dX6_count_3 (by rw [qc31]; decide) (by rw [qc31]; decide) (by rw [qc31]; rfl) (by decide) ?_
                refine lv_aload_n hx hb dX6_count_123 rfl (lv_at hl 1 rfl) ?_
                refine dk_get hx hb hts iX6_count_6 hown hK (dk_at340 hW) rfl 13 (by decide) (hts (.fieldLink RX6 25 "DogKingsModel" "now" "[I") (List.mem_of_getElem? (i := 1) rfl)) rfl dX6_count_124 ?_
                refine lv_iconst (v := 1) hx hb dX6_count_127 (by decide) ?_
                refine dk_ild hx hb hK (dk_at346 hW) (dkN_in (n := 54) (dkN_lit (x := 1) (1) rfl) rfl) dX6_count_128 ?_
                refine lv_topi (fun v33 ev33 => ?_)
                have dv33 : dkN [(0, 0)] v33 := by rw [ev33]; exact (show dkN [(0, 0)] (I0 346 1) from n346_1)
                exact W.iret (v := v33) hx hb hr (fun t ht hW9 => ⟨⟨v33, I0, rfl, ⟨dkN_sub dv33 rfl, hF, trivial⟩, dkW_eq ht hW⟩, hS.F ht⟩) hS.2.2 dX6_count_129
              ·
                have d34 : dkN [(7, 9)] p0 := dkN_ne1 (6) d30 (dkN_lit (x := 6) (6) rfl) (dk_ne c31) rfl
                by_cases c35 : p0 = 7
                · have qc35 : p0.toInt = 7 := by rw [c35]; rfl
                  have d36 : dkN [(7, 7)] p0 := dkN_lit (7) qc35
                  refine lv_tableIn (tgt := 130) hx hb dX6_count_3 (by rw [qc35]; decide) (by rw [qc35]; decide) (by rw [qc35]; rfl) (by decide) ?_
                  refine lv_aload_n hx hb dX6_count_130 rfl (lv_at hl 1 rfl) ?_
                  refine dk_get hx hb hts iX6_count_6 hown hK (dk_at340 hW) rfl 17 (by decide) (hts (.fieldLink RX6 142 "DogKingsModel" "acts" "I") (List.mem_of_getElem? (i := 2) rfl)) rfl dX6_count_131 ?_
                  refine lv_topi (fun v37 ev37 => ?_)
                  have dv37 : dkN [(0, 0)] v37 := by rw [ev37]; exact n340_17
                  exact W.iret (v := v37) hx hb hr (fun t ht hW9 => ⟨⟨v37, I0, rfl, ⟨dkN_sub dv37 rfl, hF, trivial⟩, dkW_eq ht hW⟩, hS.F ht⟩) hS.2.2 dX6_count_134
                ·
                  have d38 : dkN [(8, 9)] p0 := dkN_ne1 (7) d34 (dkN_lit (x := 7) (7) rfl) (dk_ne c35) rfl
                  by_cases c39 : p0 = 8
                  · have qc39 : p0.toInt = 8 := by rw [c39]; rfl
                    have d40 : dkN [(8, 8)] p0 := dkN_lit (8) qc39
                    refine lv_tableIn (tgt := 135) hx hb dX6_count_3 (by rw [qc39]; decide) (by rw [qc39]; decide) (by rw [qc39]; rfl) (by decide) ?_
                    refine lv_aload_n hx hb dX6_count_135 rfl (lv_at hl 1 rfl) ?_
                    refine dk_get hx hb hts iX6_count_6 hown hK (dk_at340 hW) rfl 6 (by decide) (hts (.fieldLink RX6 82 "DogKingsModel" "taped" "I") (List.mem_of_getElem? (i := 3) rfl)) rfl dX6_count_136 ?_
                    refine lv_topi (fun v41 ev41 => ?_)
                    have dv41 : dkN [(0, 0)] v41 := by rw [ev41]; exact n340_6
                    exact W.iret (v := v41) hx hb hr (fun t ht hW9 => ⟨⟨v41, I0, rfl, ⟨dkN_sub dv41 rfl, hF, trivial⟩, dkW_eq ht hW⟩, hS.F ht⟩) hS.2.2 dX6_count_139
                  ·
                    have d42 : dkN [(9, 9)] p0 := dkN_ne1 (8) d38 (dkN_lit (x := 8) (8) rfl) (dk_ne c39) rfl
                    by_cases c43 : p0 = 9
                    · have qc43 : p0.toInt = 9 := by rw [c43]; rfl
                      have d44 : dkN [(9, 9)] p0 := dkN_lit (9) qc43
                      refine lv_tableIn (tgt := 140) hx hb dX6_count_3 (by rw [qc43]; decide) (by rw [qc43]; decide) (by rw [qc43]; rfl) (by decide) ?_
                      refine lv_aload_n hx hb dX6_count_140 rfl (lv_at hl 1 rfl) ?_
                      refine dk_Vi (As := []) (rest := []) ⟨hx, hb, hml, hown, hts⟩ (c_X6_reigns_0 l g z I0 n346_4) (cwV 0 hts gX6_count_X6_reigns rfl rfl rfl (by decide +kernel) ⟨Nat.le_of_ble_eq_true rfl, Nat.le_of_ble_eq_true rfl⟩) (dk_at340 hW) rfl hK hW hS rfl hl.1 rfl (Nat.le_of_ble_eq_true rfl) dX6_count_141 ⟨Nat.zero_le _, Nat.zero_le _⟩ (fun v45 I45 H45 L45 hp45 hW hS => ?_)
                      obtain ⟨dv45, hF45, -⟩ := hp45
                      have hF := dkF_call hF hF45 rfl
                      exact W.iret (v := v45) hx hb hr (fun t ht hW9 => ⟨⟨v45, I45, rfl, ⟨dkN_sub dv45 rfl, hF, trivial⟩, dkW_eq ht hW⟩, hS.F ht⟩) hS.2.2 dX6_count_144
                    · exact (dkN_nil (show dkN [] p0 from dkN_ne1 (9) d42 (dkN_lit (x := 9) (9) rfl) (dk_ne c43) rfl)).elim
set_option maxHeartbeats 4000000 in
set_option maxRecDepth 100000 in
theorem c_X5_status_0 (l : Launch) (g : dkG) (z : Nat) (I0 : dkI) (n0_3 : dkN [(0, 0)] (I0 0 3)) : Met l yX5_status wsX5_status (dkR 0) (dkPc g z [.ref (z + 0)] I0) (dkQi g z (fun r I1 => dkN [(0, 0)] r ∧ dkF [] I0 I1 ∧ True)) 0 0 (dkA z) := by
  refine Met.ofW (cc := cX5_status) (maxL := 1) (ret := (some .int)) (by decide) rfl ?_
  intro p e s m args below meth c s₁ B hml hv
  obtain ⟨ha, hW, hK⟩ := hv
  have hx := B.exec
  have hb := B.bytes
  have hr := B.returns
  have hts := atoms_spec (ws := wsX5_status) B.pre
  have hown : s.vm.findClass RX5 = some m.cls := findClass_of_methodNamed B.named
  have hlocks := B.notSynchronized
  have hS : va_S (dkA z) s.heap s.heap [] := va_S.rf
  have hF : dkF [] I0 I0 := dkF_rf _ _
  have hl := lv_entry ([.ref (z + 0)]) (n := 1) (Nat.le_of_ble_eq_true rfl)
  have hgo : entryFrame m args 1 = entryFrame m ([.ref (z + 0)] : List Value).toArray 1 := by rw [ha]
  rw [hgo, lg_entry_eq]
  generalize (lg_sl ([.ref (z + 0)]) ++ List.replicate (1 - (lg_sl ([.ref (z + 0)])).length) Slot.unset).toArray = ls at hl ⊢
  have hl : lv_has ls 1 [(0, .ref (z + 0))] := hl
  refine lv_aload_n hx hb dX5_status_0 rfl (lv_at hl 0 rfl) ?_
  refine dk_get hx hb hts iX5_status_5 hown hK (dk_at0 hW) rfl 3 (by decide) (hts (.fieldLink RX5 292 "DogKings" "finding" "I") (List.mem_of_getElem? (i := 1) rfl)) rfl dX5_status_1 ?_
  refine lv_topi (fun v1 ev1 => ?_)
  have dv1 : dkN [(0, 0)] v1 := by rw [ev1]; exact n0_3
  exact W.iret (v := v1) hx hb hr (fun t ht hW9 => ⟨⟨v1, I0, rfl, ⟨dkN_sub dv1 rfl, hF, trivial⟩, dkW_eq ht hW⟩, hS.F ht⟩) hS.2.2 dX5_status_4
set_option maxHeartbeats 4000000 in
set_option maxRecDepth 100000 in
theorem c_X6_status_0 (l : Launch) (g : dkG) (z : Nat) (I0 : dkI) (n340_4 : dkN [(0, 0)] (I0 340 4)) : Met l yX6_status wsX6_status (dkR 0) (dkPc g z [.ref (z + 340)] I0) (dkQi g z (fun r I1 => dkN [(0, 0)] r ∧ dkF [] I0 I1 ∧ True)) 0 0 (dkA z) := by
  refine Met.ofW (cc := cX6_status) (maxL := 1) (ret := (some .int)) (by decide) rfl ?_
  intro p e s m args below meth c s₁ B hml hv
  obtain ⟨ha, hW, hK⟩ := hv
  have hx := B.exec
  have hb := B.bytes
  have hr := B.returns
  have hts := atoms_spec (ws := wsX6_status) B.pre
  have hown : s.vm.findClass RX6 = some m.cls := findClass_of_methodNamed B.named
  have hlocks := B.notSynchronized
  have hS : va_S (dkA z) s.heap s.heap [] := va_S.rf
  have hF : dkF [] I0 I0 := dkF_rf _ _
  have hl := lv_entry ([.ref (z + 340)]) (n := 1) (Nat.le_of_ble_eq_true rfl)
  have hgo : entryFrame m args 1 = entryFrame m ([.ref (z + 340)] : List Value).toArray 1 := by rw [ha]
  rw [hgo, lg_entry_eq]
  generalize (lg_sl ([.ref (z + 340)]) ++ List.replicate (1 - (lg_sl ([.ref (z + 340)])).length) Slot.unset).toArray = ls at hl ⊢
  have hl : lv_has ls 1 [(0, .ref (z + 340))] := hl
  refine lv_aload_n hx hb dX6_status_0 rfl (lv_at hl 0 rfl) ?_
  refine dk_get hx hb hts iX6_status_6 hown hK (dk_at340 hW) rfl 4 (by decide) (hts (.fieldLink RX6 51 "DogKingsModel" "status" "I") (List.mem_of_getElem? (i := 1) rfl)) rfl dX6_status_1 ?_
  refine lv_topi (fun v1 ev1 => ?_)
  have dv1 : dkN [(0, 0)] v1 := by rw [ev1]; exact n340_4
  exact W.iret (v := v1) hx hb hr (fun t ht hW9 => ⟨⟨v1, I0, rfl, ⟨dkN_sub dv1 rfl, hF, trivial⟩, dkW_eq ht hW⟩, hS.F ht⟩) hS.2.2 dX6_status_4
