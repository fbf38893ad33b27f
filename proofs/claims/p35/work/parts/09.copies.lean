set_option maxHeartbeats 4000000 in
set_option maxRecDepth 100000 in
theorem c_X6_copies (l : Launch) (g : dkG) (z : Nat) (I0 : dkI) {kf kt nf nt : Nat} (p0 p1 : Int32) {A B : Nat} (hA : p0.toNatClampNeg = A) (hB : p1.toNatClampNeg = B) (bA : 0 ≤ p0.toInt ∧ A + 54 ≤ nf) (bB : 0 ≤ p1.toInt ∧ B + 54 ≤ nt) (hne : kf ≠ kt) (hkf : kf < 354) (hkt : kt < 354) (hn : nf ≤ 2000 ∧ nt ≤ 2000) (hcf : ∀ f, dkC g z kf f = dkArr g.2.1 nf f) (hct : ∀ f, dkC g z kt f = dkArr g.2.1 nt f) : Met l yX6_copies wsX6_copies (dkR 0) (dkPc g z [.ref (z + kf), .int p0, .ref (z + kt), .int p1] I0) (dkQv g z (fun I1 => I1 = dkCp I0 kf kt A B)) 0 0 (dkA z) := by
  refine Met.ofW (cc := cX6_copies) (maxL := 5) (ret := none) (by decide) rfl ?_
  intro p e s m args below meth c s₁ B' hml hv
  obtain ⟨ha, hW, hK, hT⟩ := hv
  have hx := B'.exec
  have hb := B'.bytes
  have hr := B'.returns
  have hts := atoms_spec (ws := wsX6_copies) B'.pre
  have hown : s.vm.findClass RX6 = some m.cls := findClass_of_methodNamed B'.named
  have hlocks := B'.notSynchronized
  have hS : va_S (dkA z) s.heap s.heap [] := va_S.rf
  have hl := lv_entry ([.ref (z + kf), .int p0, .ref (z + kt), .int p1]) (n := 5) (Nat.le_of_ble_eq_true rfl)
  have hgo : entryFrame m args 5 = entryFrame m ([.ref (z + kf), .int p0, .ref (z + kt), .int p1] : List Value).toArray 5 := by rw [ha]
  rw [hgo, lg_entry_eq]
  generalize (lg_sl ([.ref (z + kf), .int p0, .ref (z + kt), .int p1]) ++ List.replicate (5 - (lg_sl ([.ref (z + kf), .int p0, .ref (z + kt), .int p1])).length) Slot.unset).toArray = ls at hl ⊢
  have hl : lv_has ls 5 [(0, .ref (z + kf)), (1, .int p0), (2, .ref (z + kt)), (3, .int p1)] := hl
  have C3 : ∀ (n : Nat), ∀ (I : dkI) (H : Heap) (locs : List Loc) (ls : Array Slot) (x3_4 : Int32), (54 - x3_4.toInt).toNat < n → dkW g z I H → va_S (dkA z) s.heap H locs → I = dkCpn I0 kf kt A B x3_4.toNatClampNeg → dkN [(0, 54)] x3_4 → lv_has ls 5 [(0, .ref (z + kf)), (1, .int p0), (2, .ref (z + kt)), (3, .int p1), (4, .int x3_4)] → W p l e (headSpec wsX6_copies (dkR 0)).room s m args below meth c H locs 0 0 (MQ below (dkQv g z (fun I1 => I1 = dkCp I0 kf kt A B)) args s 0 0 (dkA z)) (F0 m 3 ls []) := by
    intro n
    induction n with
    | zero => intro I H locs ls x3_4 hn; exact absurd hn (Nat.not_lt_zero _)
    | succ n ih3 =>
      intro I3_ H locs ls x3_4 hn3 hW hS hI k3_0 hl
      refine lv_iload hx hb dX6_copies_3 (lv_at hl 4 rfl) ?_
      refine lv_bipush (v := 54) hx hb dX6_copies_5 (by decide) ?_
      refine lv_icmp_ge (tgt := 28) hx hb dX6_copies_7 (by decide) (fun c1 => ?_) (fun c1 => ?_)
      ·
        have d2 : dkN [(54, 54)] x3_4 := dkN_le2 0 (dkN_lit (x := 54) (54) rfl) k3_0 (dkc_le c1) rfl
        have e54 : x3_4.toNatClampNeg = 54 := dkN_cl d2
        rw [e54] at hI
        exact W.vret hx hb hr (fun t ht hW9 => ⟨⟨I3_, rfl, hI, dkW_eq ht hW⟩, hS.F ht⟩) hS.2.2 dX6_copies_28
      ·
        have d3 : dkN [(0, 53)] x3_4 := dkN_le1 1 k3_0 (dkN_lit (x := 54) (54) rfl) (dkc_nle c1) rfl
        have b3 := dk_clr (lo := 0) (hi := 53) d3 rfl
        have n3 : 0 ≤ x3_4.toInt := by
          have := dkN_ge d3 rfl
          exact dk_nlt this
        have m3 := dk_cln n3
        have sB := dk_sum (a := p1) (x := x3_4) bB.1 hB n3 (by omega)
        have sA := dk_sum (a := p0) (x := x3_4) bA.1 hA n3 (by omega)
        refine lv_aload_n hx hb dX6_copies_10 rfl (lv_at hl 2 rfl) ?_
        refine lv_iload_n hx hb dX6_copies_11 rfl (lv_at hl 3 rfl) ?_
        refine lv_iload hx hb dX6_copies_12 (lv_at hl 4 rfl) ?_
        refine lv_iadd hx hb dX6_copies_14 ?_
        refine lv_aload_n hx hb dX6_copies_15 rfl (lv_at hl 0 rfl) ?_
        refine lv_iload_n hx hb dX6_copies_16 rfl (lv_at hl 1 rfl) ?_
        refine lv_iload hx hb dX6_copies_17 (lv_at hl 4 rfl) ?_
        refine lv_iadd hx hb dX6_copies_19 ?_
        refine dk_ild (k := kf) (n := nf) (f := I3_ kf) hx hb hK (by rw [← hcf]; exact hW kf hkf) (vp_in_iff.mpr ⟨by omega, by omega⟩) dX6_copies_20 ?_
        refine lv_topi (fun v6 ev6 => ?_)
        refine dk_ist (k := kt) (n := nt) hx hb hK hW hct hkt hS (vp_in_iff.mpr ⟨by omega, by omega⟩) dX6_copies_21 (fun I7 H7 L7 eI7 hW hS => ?_)
        rw [sB.2] at eI7
        rw [sA.2] at ev6
        have hI7 := dkCpn_step hne hI eI7 ev6
        obtain ⟨v8, ev8⟩ : ∃ y : Int32, y = x3_4 + 1 := ⟨_, rfl⟩
        have dv8 : dkN [(1, 54)] v8 := by rw [ev8]; exact dkN_add d3 (dkN_lit (x := 1) (1) rfl) rfl
        have i8 : v8.toInt = x3_4.toInt + 1 := by rw [ev8]; exact dk_inc d3 rfl
        have m8 := dk_cln (i := v8) (by omega)
        refine lv_iinc (v := v8) (lv' := [(4, .int v8), (0, .ref (z + kf)), (1, .int p0), (2, .ref (z + kt)), (3, .int p1)]) hx hb dX6_copies_22 hl (k := 4) rfl (by rw [ev8]; rfl) (by decide) rfl (fun ls hl => ?_)
        refine lv_goto (tgt := 3) hx hb dX6_copies_25 (by decide) ?_
        exact ih3 I7 _ _ ls v8 (dk_near hn3 i8 (dkN_lt d3 rfl)) hW hS (by rw [show v8.toNatClampNeg = x3_4.toNatClampNeg + 1 by omega]; exact hI7) (dkN_sub dv8 rfl) (lv_sub hl [1, 2, 3, 4, 0] rfl)
  refine lv_iconst (v := 0) hx hb dX6_copies_0 (by decide) ?_
  refine lv_istore (lv' := [(4, .int 0), (0, .ref (z + kf)), (1, .int p0), (2, .ref (z + kt)), (3, .int p1)]) hx hb dX6_copies_1 hl (by decide) rfl (fun ls hl => ?_)
  exact C3 _ I0 _ _ ls 0 (Nat.lt_succ_self _) hW hS (dkCpn_0 I0 kf kt A B) (dkN_sub (dkN_lit (x := 0) (0) rfl) rfl) (lv_sub hl [1, 2, 3, 4, 0] rfl)
set_option maxHeartbeats 4000000 in
set_option maxRecDepth 100000 in
theorem c_X6_notes (l : Launch) (g : dkG) (z : Nat) (I0 : dkI)  (hO : dkOk I0) (hP : dkPP I0) : Met l yX6_notes wsX6_notes (dkR 1) (dkPc g z [.ref (z + 340)] I0) (dkQv g z (fun I1 => dkF [(340, 340, 17, 17), (349, 349, 0, 1295)] I0 I1 ∧ dkOk I1 ∧ dkPP I1 ∧ ((dkN [(1, 24)] (I1 340 17) ∧ True)))) 0 0 (dkA z) := by
  refine Met.ofW (cc := cX6_notes) (maxL := 2) (ret := none) (by decide) rfl ?_
  intro p e s m args below meth c s₁ B hml hv
  obtain ⟨ha, hW, hK, hT⟩ := hv
  have hx := B.exec
  have hb := B.bytes
  have hr := B.returns
  have hts := atoms_spec (ws := wsX6_notes) B.pre
  have hown : s.vm.findClass RX6 = some m.cls := findClass_of_methodNamed B.named
  have hlocks := B.notSynchronized
  have hS : va_S (dkA z) s.heap s.heap [] := va_S.rf
  have hF : dkF [(340, 340, 17, 17), (349, 349, 0, 1295)] I0 I0 := dkF_rf _ _
  have hl := lv_entry ([.ref (z + 340)]) (n := 2) (Nat.le_of_ble_eq_true rfl)
  have hgo : entryFrame m args 2 = entryFrame m ([.ref (z + 340)] : List Value).toArray 2 := by rw [ha]
  rw [hgo, lg_entry_eq]
  generalize (lg_sl ([.ref (z + 340)]) ++ List.replicate (2 - (lg_sl ([.ref (z + 340)])).length) Slot.unset).toArray = ls at hl ⊢
  have hl : lv_has ls 2 [(0, .ref (z + 340))] := hl
  have C49 : ∀ (I : dkI) (H : Heap) (locs : List Loc) (ls : Array Slot), dkW g z I H → va_S (dkA z) s.heap H locs → dkF [(340, 340, 17, 17), (349, 349, 0, 1295)] I0 I → dkOk I → dkPP I → dkN [(0, 23)] (I 340 17) → lv_has ls 2 [(0, .ref (z + 340))] → W p l e (headSpec wsX6_notes (dkR 1)).room s m args below meth c H locs 0 0 (MQ below (dkQv g z (fun I1 => dkF [(340, 340, 17, 17), (349, 349, 0, 1295)] I0 I1 ∧ dkOk I1 ∧ dkPP I1 ∧ ((dkN [(1, 24)] (I1 340 17) ∧ True)))) args s 0 0 (dkA z)) (F0 m 49 ls []) := by
    intro I49_ H locs ls hW hS hF_49 hO hP f49_0 hl
    have hF := hF_49
    refine lv_aload_n hx hb dX6_notes_49 rfl (lv_at hl 0 rfl) ?_
    refine dk_get (k := 340) hx hb hts iX6_notes_6 hown hK (dk_at340 hW) rfl 13 (by decide) (hts (.fieldLink RX6 25 "DogKingsModel" "now" "[I") (List.mem_of_getElem? (i := 3) rfl)) rfl dX6_notes_50 ?_
    refine lv_iconst (v := 0) hx hb dX6_notes_53 (by decide) ?_
    refine lv_aload_n hx hb dX6_notes_54 rfl (lv_at hl 0 rfl) ?_
    refine dk_get (k := 340) hx hb hts iX6_notes_6 hown hK (dk_at340 hW) rfl 16 (by decide) (hts (.fieldLink RX6 34 "DogKingsModel" "past" "[I") (List.mem_of_getElem? (i := 2) rfl)) rfl dX6_notes_55 ?_
    refine lv_bipush (v := 54) hx hb dX6_notes_58 (by decide) ?_
    refine lv_aload_n hx hb dX6_notes_60 rfl (lv_at hl 0 rfl) ?_
    refine dk_get (k := 340) hx hb hts iX6_notes_6 hown hK (dk_at340 hW) rfl 17 (by decide) (hts (.fieldLink RX6 142 "DogKingsModel" "acts" "I") (List.mem_of_getElem? (i := 1) rfl)) rfl dX6_notes_61 ?_
    refine lv_topi (fun v1 ev1 => ?_)
    have dv1 : dkN [(0, 23)] v1 := by rw [ev1]; exact f49_0
    refine lv_imul hx hb dX6_notes_64 ?_
    refine lv_topi (fun v2 ev2 => ?_)
    have dv2 : dkN [(0, 1242)] v2 := by rw [ev2]; exact dkN_mulL 54 (by decide) (dkN_lit (x := 54) (54) rfl) dv1 rfl
    refine dk_Sv (As := [.ref (z + 346), .int 0, .ref (z + 349), .int v2]) (rest := []) ⟨hx, hb, hml, hown, hts⟩ (c_X6_copies l g z I49_ (kf := 346) (kt := 349) (nf := 54) (nt := 1296) 0 v2 (A := 0) (B := v2.toNatClampNeg) rfl rfl (by decide) (dk_cl54 dv2 rfl) (by decide) (by decide) (by decide) (by decide) (fun _ => rfl) (fun _ => rfl)) (va_cwS 4 hts gX6_notes_X6_copies rfl rfl rfl (by decide +kernel) ⟨Nat.le_of_ble_eq_true rfl, Nat.le_of_ble_eq_true rfl⟩) hK hT hW hS rfl hl.1 rfl (Nat.le_of_ble_eq_true rfl) dX6_notes_65 ⟨Nat.zero_le _, Nat.zero_le _⟩ (fun I3 H3 L3 eI3 hW hS => ?_)
    have eI3 : I3 = dkCp I49_ 346 349 0 v2.toNatClampNeg := eI3
    have hO := dkO_cp hO eI3 (by decide) (by decide) (by decide) (dkZ_mul ev2 dv1 rfl)
    have hF := dkF_cp (lo := 0) (hi := 1242) hF eI3 (dk_clr dv2 rfl) rfl
    refine lv_aload_n hx hb dX6_notes_68 rfl (lv_at hl 0 rfl) ?_
    refine lv_dup hx hb dX6_notes_69 rfl ?_
    refine dk_get (k := 340) hx hb hts iX6_notes_6 hown hK (dk_at340 hW) rfl 17 (by decide) (hts (.fieldLink RX6 142 "DogKingsModel" "acts" "I") (List.mem_of_getElem? (i := 1) rfl)) rfl dX6_notes_70 ?_
    refine lv_topi (fun v4 ev4 => ?_)
    have dv4 : dkN [(0, 23)] v4 := by rw [ev4]; exact (by rw [(dkCp_n eI3 (by decide))]; exact f49_0)
    refine lv_iconst (v := 1) hx hb dX6_notes_73 (by decide) ?_
    refine lv_iadd hx hb dX6_notes_74 ?_
    refine lv_topi (fun v5 ev5 => ?_)
    have dv5 : dkN [(1, 24)] v5 := by rw [ev5]; exact dkN_add dv4 (dkN_lit (x := 1) (1) rfl) rfl
    refine dk_put (k := 340) hx hb hts iX6_notes_6 tyX6 tyX6_ok nmX6 hown hK hW (dk_at340 hW) hS rfl 17 (by decide) (hts (.fieldLink RX6 142 "DogKingsModel" "acts" "I") (List.mem_of_getElem? (i := 1) rfl)) rfl rfl (Nat.le_of_ble_eq_true rfl) rfl dX6_notes_75 (fun I6 H6 L6 eI6 hW hS => ?_)
    have eI6 : I6 = dkU I3 340 17 v5 := eI6
    have hO := dkO_set hO eI6 (dkN_sub dv5 rfl)
    have hF := dkF_set hF eI6 rfl
    have hP2 := dkPP_note hP dv1 ev1 ev2 eI3 ev4 ev5 eI6
    exact W.vret hx hb hr (fun t ht hW9 => ⟨⟨I6, rfl, ⟨hF, hO, hP2, ⟨(show dkN [(1, 24)] (I6 340 17) from dkN_sub (by rw [eI6, dkU_ss]; exact dv5) rfl), trivial⟩⟩, dkW_eq ht hW⟩, hS.F ht⟩) hS.2.2 dX6_notes_78
  have C11 : ∀ (n : Nat), ∀ (I : dkI) (H : Heap) (locs : List Loc) (ls : Array Slot) (x11_1 : Int32), (1242 - x11_1.toInt).toNat < n → dkW g z I H → va_S (dkA z) s.heap H locs → dkF [(340, 340, 17, 17), (349, 349, 0, 1295)] I0 I → dkOk I → I = dkShn I0 x11_1.toNatClampNeg → dkN [(0, 1242)] x11_1 → dkN [(24, 24)] (I 340 17) → lv_has ls 2 [(0, .ref (z + 340)), (1, .int x11_1)] → W p l e (headSpec wsX6_notes (dkR 1)).room s m args below meth c H locs 0 0 (MQ below (dkQv g z (fun I1 => dkF [(340, 340, 17, 17), (349, 349, 0, 1295)] I0 I1 ∧ dkOk I1 ∧ dkPP I1 ∧ ((dkN [(1, 24)] (I1 340 17) ∧ True)))) args s 0 0 (dkA z)) (F0 m 11 ls []) := by
    intro n
    induction n with
    | zero => intro I H locs ls x11_1 hn; exact absurd hn (Nat.not_lt_zero _)
    | succ n ih11 =>
      intro I11_ H locs ls x11_1 hn11 hW hS hF_11 hO hI k11_0 f11_0 hl
      have hF := hF_11
      refine lv_iload_n hx hb dX6_notes_11 rfl (lv_at hl 1 rfl) ?_
      refine lv_sipush (v := 1242) hx hb dX6_notes_12 (by decide) ?_
      refine lv_icmp_ge (tgt := 39) hx hb dX6_notes_15 (by decide) (fun c7 => ?_) (fun c7 => ?_)
      ·
        have d8 : dkN [(1242, 1242)] x11_1 := dkN_le2 0 (dkN_lit (x := 1242) (1242) rfl) k11_0 (dkc_le c7) rfl
        refine lv_aload_n hx hb dX6_notes_39 rfl (lv_at hl 0 rfl) ?_
        refine lv_dup hx hb dX6_notes_40 rfl ?_
        refine dk_get (k := 340) hx hb hts iX6_notes_6 hown hK (dk_at340 hW) rfl 17 (by decide) (hts (.fieldLink RX6 142 "DogKingsModel" "acts" "I") (List.mem_of_getElem? (i := 1) rfl)) rfl dX6_notes_41 ?_
        refine lv_topi (fun v9 ev9 => ?_)
        have dv9 : dkN [(24, 24)] v9 := by rw [ev9]; exact f11_0
        refine lv_iconst (v := 1) hx hb dX6_notes_44 (by decide) ?_
        refine lv_isub hx hb dX6_notes_45 ?_
        refine lv_topi (fun v10 ev10 => ?_)
        have dv10 : dkN [(23, 23)] v10 := by rw [ev10]; exact dkN_subt dv9 (dkN_lit (x := 1) (1) rfl) rfl
        refine dk_put (k := 340) hx hb hts iX6_notes_6 tyX6 tyX6_ok nmX6 hown hK hW (dk_at340 hW) hS rfl 17 (by decide) (hts (.fieldLink RX6 142 "DogKingsModel" "acts" "I") (List.mem_of_getElem? (i := 1) rfl)) rfl rfl (Nat.le_of_ble_eq_true rfl) rfl dX6_notes_46 (fun I11 H11 L11 eI11 hW hS => ?_)
        have eI11 : I11 = dkU I11_ 340 17 v10 := eI11
        have hO := dkO_set hO eI11 (dkN_sub dv10 rfl)
        have hF := dkF_set hF eI11 rfl
        have hP2 := dkPP_shift hP (dkN_cl d8) hI dv9 ev9 ev10 eI11
        exact C49 I11 _ _ ls hW hS hF hO hP2 (show dkN [(0, 23)] (I11 340 17) from dkN_sub (by rw [eI11, dkU_ss]; exact dv10) rfl) (lv_sub hl [0] rfl)
      ·
        have d12 : dkN [(0, 1241)] x11_1 := dkN_le1 1 k11_0 (dkN_lit (x := 1242) (1242) rfl) (dkc_nle c7) rfl
        refine lv_aload_n hx hb dX6_notes_18 rfl (lv_at hl 0 rfl) ?_
        refine dk_get (k := 340) hx hb hts iX6_notes_6 hown hK (dk_at340 hW) rfl 16 (by decide) (hts (.fieldLink RX6 34 "DogKingsModel" "past" "[I") (List.mem_of_getElem? (i := 2) rfl)) rfl dX6_notes_19 ?_
        refine lv_iload_n hx hb dX6_notes_22 rfl (lv_at hl 1 rfl) ?_
        refine lv_aload_n hx hb dX6_notes_23 rfl (lv_at hl 0 rfl) ?_
        refine dk_get (k := 340) hx hb hts iX6_notes_6 hown hK (dk_at340 hW) rfl 16 (by decide) (hts (.fieldLink RX6 34 "DogKingsModel" "past" "[I") (List.mem_of_getElem? (i := 2) rfl)) rfl dX6_notes_24 ?_
        refine lv_iload_n hx hb dX6_notes_27 rfl (lv_at hl 1 rfl) ?_
        refine lv_bipush (v := 54) hx hb dX6_notes_28 (by decide) ?_
        refine lv_iadd hx hb dX6_notes_30 ?_
        refine lv_topi (fun v13 ev13 => ?_)
        have dv13 : dkN [(54, 1295)] v13 := by rw [ev13]; exact dkN_add d12 (dkN_lit (x := 54) (54) rfl) rfl
        refine dk_ild (k := 349) hx hb hK (dk_at349 hW) (dkN_in (n := 1296) dv13 rfl) dX6_notes_31 ?_
        refine lv_topi (fun v14 ev14 => ?_)
        refine dk_ist (k := 349) hx hb hK hW (fun _ => rfl) (by decide) hS (dkN_in (n := 1296) d12 rfl) dX6_notes_32 (fun I15 H15 L15 eI15 hW hS => ?_)
        have hO := dkO_set hO eI15 (by rw [ev14, ev13]; exact dkO_sh hO (k := 349) (by decide) d12 rfl rfl)
        have hF := dkF_set hF eI15 (dkIn_v d12 rfl)
        obtain ⟨v16, ev16⟩ : ∃ y : Int32, y = x11_1 + 1 := ⟨_, rfl⟩
        have dv16 : dkN [(1, 1242)] v16 := by rw [ev16]; exact dkN_add d12 (dkN_lit (x := 1) (1) rfl) rfl
        refine lv_iinc (v := v16) (lv' := [(1, .int v16), (0, .ref (z + 340))]) hx hb dX6_notes_33 hl (k := 1) rfl (by rw [ev16]; rfl) (by decide) rfl (fun ls hl => ?_)
        refine lv_goto (tgt := 11) hx hb dX6_notes_36 (by decide) ?_
        have n9 : 0 ≤ x11_1.toInt := dk_nlt (dkN_ge d12 rfl)
        have b9 := dk_clr (lo := 0) (hi := 1241) d12 rfl
        have m9 := dk_cln n9
        have s9 : v13.toNatClampNeg = x11_1.toNatClampNeg + 54 := by rw [ev13]; exact (dk_sum (a := x11_1) (x := 54) n9 rfl (by decide) (by show (x11_1.toNatClampNeg : Int) + 54 ≤ _; omega)).2
        have i9 : v16.toInt = x11_1.toInt + 1 := by rw [ev16]; exact dk_inc d12 rfl
        have m8 := dk_cln (i := v16) (by omega)
        rw [s9] at ev14
        have hI2 := dkShn_step hI eI15 ev14
        exact ih11 I15 _ _ ls v16 (dk_near hn11 (by rw [ev16]; exact dk_inc d12 rfl) (dkN_lt d12 rfl)) hW hS hF hO (by rw [show v16.toNatClampNeg = x11_1.toNatClampNeg + 1 by omega]; exact hI2) (dkN_sub dv16 rfl) (show dkN [(24, 24)] (I15 340 17) from dkN_sub (by rw [eI15, dkU_n (by decide)]; exact f11_0) rfl) (lv_sub hl [1, 0] rfl)
  refine lv_aload_n hx hb dX6_notes_0 rfl (lv_at hl 0 rfl) ?_
  refine dk_get (k := 340) hx hb hts iX6_notes_6 hown hK (dk_at340 hW) rfl 17 (by decide) (hts (.fieldLink RX6 142 "DogKingsModel" "acts" "I") (List.mem_of_getElem? (i := 1) rfl)) rfl dX6_notes_1 ?_
  refine lv_topi (fun v17 ev17 => ?_)
  have dv17 : dkN [(0, 24)] v17 := by rw [ev17]; exact (hO 340 17)
  refine lv_bipush (v := 24) hx hb dX6_notes_4 (by decide) ?_
  refine lv_icmp_ne (tgt := 49) hx hb dX6_notes_6 (by decide) (fun c18 => ?_) (fun c18 => ?_)
  ·
    have d19 : dkN [(0, 23)] v17 := dkN_ne1 (24) dv17 (dkN_lit (x := 24) (24) rfl) (dk_ne c18) rfl
    have f20 : dkN [(0, 23)] (I0 340 17) := by rw [← ev17]; exact d19
    exact C49 I0 _ _ ls hW hS hF hO hP (show dkN [(0, 23)] (I0 340 17) from dkN_sub f20 rfl) (lv_sub hl [0] rfl)
  ·
    have d21 : dkN [(24, 24)] v17 := dkN_eq1 dv17 (dkN_lit (x := 24) (24) rfl) (congrArg Int32.toInt c18) rfl
    have f22 : dkN [(24, 24)] (I0 340 17) := by rw [← ev17]; exact d21
    refine lv_iconst (v := 0) hx hb dX6_notes_9 (by decide) ?_
    refine lv_istore_n (lv' := [(1, .int 0), (0, .ref (z + 340))]) hx hb dX6_notes_10 rfl hl (by decide) rfl (fun ls hl => ?_)
    exact C11 _ I0 _ _ ls 0 (Nat.lt_succ_self _) hW hS hF hO (dkShn_0 I0) (dkN_sub (dkN_lit (x := 0) (0) rfl) rfl) (show dkN [(24, 24)] (I0 340 17) from dkN_sub f22 rfl) (lv_sub hl [1, 0] rfl)
