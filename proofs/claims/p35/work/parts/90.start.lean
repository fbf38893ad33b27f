/-! THE CLAIM OUT OF ONE WALK OF THE LAW'S BODY. Your part is whole_start (and what it stands on); all else here is the same for every law, but numbers. -/
def R_law : String := "DogKingsLaw"
def lw_P (b : Addr) (xs : List Int32) (args : Array Value) (s : State) : Prop := args = #[.ref b] ∧ s.IntsAt b xs ∧ xs.length ≤ 448 ∧ (Jvm.Cond.and given_1 narrow_1).before args s = true
def lw_Q (_ : Array Value) (s : State) (o : Outcome) (t : State) : Prop := o = .returned (some (.int 1)) ∧ Framed s o t [] 600000 7302250
def lw_Z (below : List Frame) (a : Array Value) (s : State) : State → Prop := fun t => ∃ o, t.status = .running ∧ Ended t below o ∧ lw_Q a s o t
/-- the law's own end, with 1 on the stack, nothing written that was there before, its room as the claim has it -/
theorem lw_ret {p : Program} {l : Launch} {e : Env} {s : State} {m : MethodId} {below : List Frame} {meth : Method} {c : Code} {b : Nat} (hx : p.tables.exec = Jvm.exec) (hb : c.code = code) (hr : meth.sig.returnType = ret) (hlocks : meth.locks = false) {pc : Nat} {H : Heap} {ls : Array Slot} (hdg : decode code pc = .ok (.ireturn, 1)) : W p l e room_1 s m #[Value.ref b] below meth c H [] 600000 7302250 (lw_Z below #[Value.ref b] s) (F0 m pc ls [.int 1]) := by
  intro T hT X
  obtain ⟨fs, hret, hrun, hended, hW, hframe⟩ := X.leave (v := some (.int 1)) (hlocks := hlocks) (fun h => by rw [hr] at h; cases h)
  have hmeth' : T.vm.method? m = some meth := X.method'
  refine ⟨T.setFrames fs, ?_, .returned (some (.int 1)), hrun, hended, rfl, ⟨_, rfl⟩, hW, hframe⟩
  jvm_step X.here [X.here.top, hx, hb, hdg, hmeth', hr, ret, narrow_b1]
  (try refine ⟨rfl, ?_⟩); (try refine ⟨rfl, ?_⟩)
  first | (intro acts; rw [hret _ acts rfl rfl rfl]) | rw [hret _ _ rfl rfl rfl]
  exact Steps.refl _
/-- what holds at the law's entry: the machine, the code, the tables' words (any of lw_tbl by 'hts w (by decide +kernel)'), the script of L ints xs at the cell b, what the Statement gives of the start (any of its parts by flat_of_before) -/
def lw_At (p : Program) (s : State) (m : MethodId) (meth : Method) (c : Code) (b L : Nat) (xs : Nat → Int32) : Prop :=
  p.tables.exec = Jvm.exec ∧ c.code = code ∧ meth.sig.returnType = ret ∧ c.maxLocals = 4 ∧ s.vm.findClass R_law = some m.cls ∧ (∀ w ∈ lw_tbl, w.before #[Value.ref b] s = true) ∧ va_X b L xs s s.heap ∧ b < s.heap.size ∧ meth.locks = false ∧ (Jvm.Cond.and given_1 narrow_1).before #[Value.ref b] s = true
set_option maxHeartbeats 4000000 in
set_option maxRecDepth 100000 in
theorem whole_start {p : Program} {e : Env} {s : State} {m : MethodId} {below : List Frame} {meth : Method} {c : Code} (l : Launch) {b L : Nat} {xs : Nat → Int32} (hL : L ≤ 448) (C0 : lw_At p s m meth c b L xs) : W p l e room_1 s m #[Value.ref b] below meth c s.heap [] 0 0 (lw_Z below #[Value.ref b] s) (entryFrame m ([Value.ref b] : List Value).toArray 4) := by
  obtain ⟨hx, hb, hr, hml, hown, hts0, hX, hbl, hlocks, hgv⟩ := id C0
  have hown : s.vm.findClass RL = some m.cls := hown
  have hts : ∀ w ∈ wsL_law, w.before #[Value.ref b] s = true := fun w h => hts0 w (wsL_law_in w h)
  obtain ⟨c0, i0, k0⟩ := u_known (C := RX0) (T := TX0) (N := 3) (n := 3) hts inlX0 (hts (.instantiable RX0 3) (List.mem_of_getElem? (i := 27) rfl))
  obtain ⟨c1, i1, k1⟩ := u_known (C := RX1) (T := TX1) (N := 3) (n := 3) hts inlX1 (hts (.instantiable RX1 3) (List.mem_of_getElem? (i := 35) rfl))
  obtain ⟨c2, i2, k2⟩ := u_known (C := RX2) (T := TX2) (N := 6) (n := 6) hts inlX2 (hts (.instantiable RX2 6) (List.mem_of_getElem? (i := 18) rfl))
  obtain ⟨c3, i3, k3⟩ := u_known (C := RX3) (T := TX3) (N := 4) (n := 4) hts inlX3 (hts (.instantiable RX3 4) (List.mem_of_getElem? (i := 31) rfl))
  obtain ⟨c4, i4, k4⟩ := u_known (C := RX4) (T := TX4) (N := 19) (n := 19) hts inlX4 (hts (.instantiable RX4 19) (List.mem_of_getElem? (i := 22) rfl))
  obtain ⟨c5, i5, k5⟩ := u_known (C := RX5) (T := TX5) (N := 10) (n := 10) hts inlX5 (hts (.instantiable RX5 10) (List.mem_of_getElem? (i := 1) rfl))
  obtain ⟨c6, i6, k6⟩ := u_known (C := RX6) (T := TX6) (N := 26) (n := 26) hts inlX6 (hts (.instantiable RX6 26) (List.mem_of_getElem? (i := 4) rfl))
  obtain ⟨cI, kI, pI, eI1, eI2, eI3⟩ := Cond.arrayClass_spec (hts (.arrayClass .int) (List.mem_of_getElem? (i := 13) rfl))
  obtain ⟨cZ, kZ, pZ, eZ1, eZ2, eZ3⟩ := Cond.arrayClass_spec (hts (.arrayClass .boolean) (List.mem_of_getElem? (i := 91) rfl))
  have hAO := hts0 (.arrayOver (.object "DogKings$Town")) (List.mem_of_getElem? (i := 219) (by decide +kernel))
  have hAA := hts0 (.arrayOver (.array .int)) (List.mem_of_getElem? (i := 90) (by decide +kernel))
  obtain ⟨pT, cT, kT, eT1, -, eT2, eT3, eT4⟩ := Cond.arrayOver_spec hAO
  obtain ⟨pA, cA, kA, eA1, -, eA2, eA3, eA4⟩ := arrayOverA_spec hAA
  obtain ⟨dC, dI, hKc⟩ : ∃ (dC : Nat → ClassId) (dI : Nat → Nat → Nat), ∀ (k : Nat) (q : vw_C), vwCl[k]? = some q → u_Kn s q.1 q.2.1 q.2.2 (dC k) (dI k) := by
    refine ⟨fun k => if k = 0 then c0 else if k = 1 then c1 else if k = 2 then c2 else if k = 3 then c3 else if k = 4 then c4 else if k = 5 then c5 else c6, fun k => if k = 0 then i0 else if k = 1 then i1 else if k = 2 then i2 else if k = 3 then i3 else if k = 4 then i4 else if k = 5 then i5 else i6, ?_⟩
    intro k q hq
    match k, hq with
    | 0, hq => cases hq; exact k0
    | 1, hq => cases hq; exact k1
    | 2, hq => cases hq; exact k2
    | 3, hq => cases hq; exact k3
    | 4, hq => cases hq; exact k4
    | 5, hq => cases hq; exact k5
    | 6, hq => cases hq; exact k6
    | k + 7, hq => simp [vwCl] at hq
  obtain ⟨g, hg⟩ : ∃ g : dkG, g = ((dC, dI), cI, cZ, cT, cA) := ⟨_, rfl⟩
  have hK : dkK g s := by
    rw [hg]
    refine ⟨⟨hKc, fun k q h => ?_⟩, fun q hq => ?_, va_AO.of hAO, hAA⟩
    · match k, h with
      | 0, h => cases h; exact ⟨fun n z => ⟨fun k h => (by cases h), kI, eI2, pI, eI3⟩, eI1⟩
      | 1, h => cases h; exact ⟨fun n z => ⟨fun k h => (by cases h), kZ, eZ2, pZ, eZ3⟩, eZ1⟩
      | 2, h => cases h; exact ⟨fun n z => ⟨fun k h => (by cases h), kT, eT2, pT, eT3⟩, kT, pT, eT2, eT3, eT1, eT4⟩
      | 3, h => cases h; exact ⟨fun n z => ⟨fun k h => (by cases h), kA, eA2, pA, eA3⟩, eA4⟩
      | k + 4, h => simp at h
    · rcases List.mem_cons.mp hq with rfl | hq
      · exact va_Nw.of rfl (hts0 (.methodLinkNest RX5 23 yX2_init RX5) (List.mem_of_getElem? (i := 93) (by decide +kernel)))
      · rcases List.mem_cons.mp hq with rfl | hq
        · exact va_Nw.of rfl (hts0 (.methodLinkNest RX2 17 yX4_init RX5) (List.mem_of_getElem? (i := 99) (by decide +kernel)))
        · rcases List.mem_cons.mp hq with rfl | hq
          · exact va_Nw.of rfl (hts0 (.methodLinkNest RX5 30 yX4_init RX5) (List.mem_of_getElem? (i := 218) (by decide +kernel)))
          · rcases List.mem_cons.mp hq with rfl | hq
            · exact va_Nw.of rfl (hts0 (.methodLinkNest RX0 15 yX4_init RX5) (List.mem_of_getElem? (i := 227) (by decide +kernel)))
            · rcases List.mem_cons.mp hq with rfl | hq
              · exact va_Nw.of rfl (hts0 (.methodLinkNest RX3 11 yX4_init RX5) (List.mem_of_getElem? (i := 246) (by decide +kernel)))
              · rcases List.mem_cons.mp hq with rfl | hq
                · exact va_Nw.of rfl (hts0 (.methodLinkNest RX4 70 yX5_setOfAll RX5) (List.mem_of_getElem? (i := 427) (by decide +kernel)))
                · rcases List.mem_cons.mp hq with rfl | hq
                  · exact va_Nw.of rfl (hts0 (.methodLinkNest RX4 74 yX5_holds RX5) (List.mem_of_getElem? (i := 472) (by decide +kernel)))
                  · rcases List.mem_cons.mp hq with rfl | hq
                    · exact va_Nw.of rfl (hts0 (.methodLinkNest RX4 112 yX5_isA RX5) (List.mem_of_getElem? (i := 479) (by decide +kernel)))
                    · rcases List.mem_cons.mp hq with rfl | hq
                      · exact va_Nw.of rfl (hts0 (.methodLinkNest RX3 65 yX5_setOfAll RX5) (List.mem_of_getElem? (i := 649) (by decide +kernel)))
                      · rcases List.mem_cons.mp hq with rfl | hq
                        · exact va_Nw.of rfl (hts0 (.methodLinkNest RX3 74 yX5_holds RX5) (List.mem_of_getElem? (i := 651) (by decide +kernel)))
                        · rcases List.mem_cons.mp hq with rfl | hq
                          · exact va_Nw.of rfl (hts0 (.methodLinkNest RX5 216 yX3_outcome RX5) (List.mem_of_getElem? (i := 663) (by decide +kernel)))
                          · rcases List.mem_cons.mp hq with rfl | hq
                            · exact va_Nw.of rfl (hts0 (.methodLinkNest RX3 126 yX5_power RX5) (List.mem_of_getElem? (i := 731) (by decide +kernel)))
                            · cases hq
  obtain ⟨z, hz0⟩ : ∃ z, z = s.heap.size := ⟨_, rfl⟩
  obtain ⟨H, hH⟩ : ∃ H, H = s.heap := ⟨_, rfl⟩
  have hS : va_S (dkA z) s.heap H [] := by rw [hH]; exact va_S.rf
  have hz : H.size = z + 0 := by rw [hH, hz0]; rfl
  have hl := lv_entry ([.ref b]) (n := 4) (Nat.le_of_ble_eq_true rfl)
  rw [lg_entry_eq]
  generalize (lg_sl ([.ref b]) ++ List.replicate (4 - (lg_sl ([.ref b])).length) Slot.unset).toArray = ls at hl ⊢
  have hl : lv_has ls 4 [(0, .ref b)] := hl
  refine dk_heap hH ?_
  refine dk_new (h := z + 0) (ci := 5) (fs := [.null, .null, .null, .int 0, .null, .null, .null, .null, .null, .null]) (C := RX5) (T := TX5) (N := 10) hx hb hts inlX5 tyX5 tyX5_ok hown (hts (.classLink RL 7 RX5) (List.mem_of_getElem? (i := 0) rfl)) (hts (.instantiable RX5 10) (List.mem_of_getElem? (i := 1) rfl)) (hts (.initialized RX5) (List.mem_of_getElem? (i := 2) rfl)) hK hS hz rfl dk_df5 (Nat.le_of_ble_eq_true rfl) (Nat.le_of_ble_eq_true rfl) dL_law_0 (fun H h0 ho hz hS => ?_)
  have hz : H.size = z + (0 + 1) := hz
  refine lv_dup hx hb dL_law_3 rfl ?_
  refine dk_I (As := []) (rest := [.ref (z + 0)]) ⟨hx, hb, hml, hown, hts⟩ (c_X5_init l g z) (cwI 0 hts gL_law_X5_init rfl rfl rfl (hts (.initialized RX5) (List.mem_of_getElem? (i := 2) rfl)) (hts (.methodLink RL 9 yX5_init) (List.mem_of_getElem? (i := 6) rfl)) (hts (.instanceMethod yX5_init) (List.mem_of_getElem? (i := 7) rfl)) rfl (by decide +kernel) ⟨Nat.le_of_ble_eq_true rfl, Nat.le_of_ble_eq_true rfl⟩) ⟨h0, hz⟩ hK hS dk_A0 rfl hl.1 rfl (Nat.le_of_ble_eq_true rfl) dL_law_4 ⟨Nat.le_of_ble_eq_true rfl, Nat.le_of_ble_eq_true rfl⟩ (fun H L9 hp ho hS => ?_)
  obtain ⟨r0, hz9⟩ := hp
  have hz : H.size = z + 340 := hz9
  refine lv_astore_n (lv' := [(1, .ref (z + 0)), (0, .ref b)]) hx hb dL_law_7 rfl hl (by decide) rfl (fun ls hl => ?_)
  refine dk_new (h := z + 340) (ci := 6) (fs := [.null, .null, .null, .null, .int 0, .null, .int 0, .int 0, .int 0, .int 0, .int 0, .int 0, .int 0, .null, .null, .null, .null, .int 0, .null, .null, .int 0, .int 0, .int 0, .null, .null, .int 0]) (C := RX6) (T := TX6) (N := 26) hx hb hts inlX6 tyX6 tyX6_ok hown (hts (.classLink RL 10 RX6) (List.mem_of_getElem? (i := 3) rfl)) (hts (.instantiable RX6 26) (List.mem_of_getElem? (i := 4) rfl)) (hts (.initialized RX6) (List.mem_of_getElem? (i := 5) rfl)) hK hS hz rfl dk_df6 (Nat.le_of_ble_eq_true rfl) (Nat.le_of_ble_eq_true rfl) dL_law_8 (fun H h1 ho hz hS => ?_)
  have r0 := r0.kLt ho (by decide)
  have hz : H.size = z + (340 + 1) := hz
  refine lv_dup hx hb dL_law_11 rfl ?_
  refine dk_I (As := []) (rest := [.ref (z + 340)]) ⟨hx, hb, hml, hown, hts⟩ (c_X6_init l g z) (cwI 0 hts gL_law_X6_init rfl rfl rfl (hts (.initialized RX6) (List.mem_of_getElem? (i := 5) rfl)) (hts (.methodLink RL 12 yX6_init) (List.mem_of_getElem? (i := 77) rfl)) (hts (.instanceMethod yX6_init) (List.mem_of_getElem? (i := 78) rfl)) rfl (by decide +kernel) ⟨Nat.le_of_ble_eq_true rfl, Nat.le_of_ble_eq_true rfl⟩) ⟨h1, hz⟩ hK hS dk_A0 rfl hl.1 rfl (Nat.le_of_ble_eq_true rfl) dL_law_12 ⟨Nat.le_of_ble_eq_true rfl, Nat.le_of_ble_eq_true rfl⟩ (fun H L9 hp ho hS => ?_)
  obtain ⟨r1, hz9⟩ := hp
  have r0 := r0.kCa ho (by decide)
  refine lv_astore_n (lv' := [(2, .ref (z + 340)), (1, .ref (z + 0)), (0, .ref b)]) hx hb dL_law_15 rfl hl (by decide) rfl (fun ls hl => ?_)
  have hW : dkW g z dkI0 H := fun k hk => dkReg.app (b := 340) r0 r1 k (Nat.zero_le _) hk
  refine lv_iconst (v := 0) hx hb dL_law_16 (by decide) ?_
  refine lv_istore_n (lv' := [(3, .int 0), (2, .ref (z + 340)), (1, .ref (z + 0)), (0, .ref b)]) hx hb dL_law_17 rfl hl (by decide) rfl (fun ls hl => ?_)
  have hbA : ¬ dkA z b := by unfold dkA; omega
  have hA9 : ∀ a : Nat, a < s.heap.size → ¬ dkA z a := fun a h => by unfold dkA; omega
  have hgf := flat_of_before _ hgv
  have hTS : dkSA "SIZE_BODY" dkSz z s := by
    obtain ⟨t9, ht9, hT9⟩ := va_Tof (N := 6) (f := dkSz) (A := dkA z) (by decide) (hgf (.arrayOf (.static "DogKings$Asks" "SIZE_BODY" "[I") .int) (by decide +kernel)) (va_eqt (hgf (.eq (.length (.static "DogKings$Asks" "SIZE_BODY" "[I")) (.int 6)) (by decide +kernel))) (fun j hj => by
      rcases (by omega : j = 0 ∨ j = 1 ∨ j = 2 ∨ j = 3 ∨ j = 4 ∨ j = 5) with rfl | rfl | rfl | rfl | rfl | rfl
      · exact va_eqt (hgf (.eq (.elem (.static "DogKings$Asks" "SIZE_BODY" "[I") (.int 0)) (.int 10)) (by decide +kernel))
      · exact va_eqt (hgf (.eq (.elem (.static "DogKings$Asks" "SIZE_BODY" "[I") (.int 1)) (.int 11)) (by decide +kernel))
      · exact va_eqt (hgf (.eq (.elem (.static "DogKings$Asks" "SIZE_BODY" "[I") (.int 2)) (.int 12)) (by decide +kernel))
      · exact va_eqt (hgf (.eq (.elem (.static "DogKings$Asks" "SIZE_BODY" "[I") (.int 3)) (.int 11)) (by decide +kernel))
      · exact va_eqt (hgf (.eq (.elem (.static "DogKings$Asks" "SIZE_BODY" "[I") (.int 4)) (.int 13)) (by decide +kernel))
      · exact va_eqt (hgf (.eq (.elem (.static "DogKings$Asks" "SIZE_BODY" "[I") (.int 5)) (.int 14)) (by decide +kernel))) hA9
    exact ⟨t9, va_Zref (hts0 (.laysStatic "DogKings$Asks" "SIZE_BODY" "[I") (List.mem_of_getElem? (i := 794) (by decide +kernel))) (hts0 (.initialized "DogKings$Asks") (List.mem_of_getElem? (i := 76) (by decide +kernel))) ht9 hA9, hT9⟩
  have hTM : dkSA "MARK_BODY" dkMk z s := by
    obtain ⟨t9, ht9, hT9⟩ := va_Tof (N := 6) (f := dkMk) (A := dkA z) (by decide) (hgf (.arrayOf (.static "DogKings$Asks" "MARK_BODY" "[I") .int) (by decide +kernel)) (va_eqt (hgf (.eq (.length (.static "DogKings$Asks" "MARK_BODY" "[I")) (.int 6)) (by decide +kernel))) (fun j hj => by
      rcases (by omega : j = 0 ∨ j = 1 ∨ j = 2 ∨ j = 3 ∨ j = 4 ∨ j = 5) with rfl | rfl | rfl | rfl | rfl | rfl
      · exact va_eqt (hgf (.eq (.elem (.static "DogKings$Asks" "MARK_BODY" "[I") (.int 0)) (.int 20)) (by decide +kernel))
      · exact va_eqt (hgf (.eq (.elem (.static "DogKings$Asks" "MARK_BODY" "[I") (.int 1)) (.int 21)) (by decide +kernel))
      · exact va_eqt (hgf (.eq (.elem (.static "DogKings$Asks" "MARK_BODY" "[I") (.int 2)) (.int 24)) (by decide +kernel))
      · exact va_eqt (hgf (.eq (.elem (.static "DogKings$Asks" "MARK_BODY" "[I") (.int 3)) (.int 22)) (by decide +kernel))
      · exact va_eqt (hgf (.eq (.elem (.static "DogKings$Asks" "MARK_BODY" "[I") (.int 4)) (.int 23)) (by decide +kernel))
      · exact va_eqt (hgf (.eq (.elem (.static "DogKings$Asks" "MARK_BODY" "[I") (.int 5)) (.int 23)) (by decide +kernel))) hA9
    exact ⟨t9, va_Zref (hts0 (.laysStatic "DogKings$Asks" "MARK_BODY" "[I") (List.mem_of_getElem? (i := 800) (by decide +kernel))) (hts0 (.initialized "DogKings$Asks") (List.mem_of_getElem? (i := 76) (by decide +kernel))) ht9 hA9, hT9⟩
  have hT : dkST z s := ⟨hTS, hTM⟩
  have hlen : (Int32.ofNat L).toInt = (L : Int) := dk_ofNat (by omega)
  have hstop : ∀ (H : Heap) (locs : List Loc) (ls : Array Slot), va_S (dkA z) s.heap H locs → W p l e room_1 s m #[Value.ref b] below meth c H locs (0 + 1 + 339 + 1 + 13) (0 + 10 + 2701 + 26 + 2055) (lw_Z below #[Value.ref b] s) (F0 m 1308 ls []) := by
    intro H locs ls hS
    refine lv_iconst (v := 1) hx hb dL_law_1308 (by decide) ?_
    refine va_forget (fun q hq => by have := hS.2.2 q hq; rw [← hz0]; exact this) ?_
    refine W.widen (k := 600000) (n := 7302250) (by decide) (by decide) ?_
    exact lw_ret hx hb hr hlocks dL_law_1309
  have K : ∀ (n : Nat) (I : dkI) (H : Heap) (locs : List Loc) (ls : Array Slot) (x : Int32), (449 - x.toInt).toNat < n → 0 ≤ x.toInt → x.toInt ≤ 448 → dkW g z I H → dkInv I → va_S (dkA z) s.heap H locs → lv_has ls 4 [(3, .int x), (2, .ref (z + 340)), (1, .ref (z + 0)), (0, .ref b)] → W p l e room_1 s m #[Value.ref b] below meth c H locs (0 + 1 + 339 + 1 + 13) (0 + 10 + 2701 + 26 + 2055) (lw_Z below #[Value.ref b] s) (F0 m 18 ls []) := by
    intro n
    induction n with
    | zero => intro I H locs ls x hn; exact absurd hn (Nat.not_lt_zero _)
    | succ n ih =>
      intro I H locs ls x hn hx0 hxN hW hI hS hl
      refine lv_iload_n hx hb dL_law_18 rfl (lv_at hl 0 rfl) ?_
      refine lv_aload_n hx hb dL_law_19 rfl (lv_at hl 3 rfl) ?_
      refine va_slen hx hb hX hbl hbA hS dL_law_20 ?_
      refine lv_bipush (v := 7) hx hb dL_law_21 (by decide) ?_
      refine lv_isub hx hb dL_law_23 ?_
      refine lv_icmp_gt (tgt := 1308) hx hb dL_law_24 (by decide) (fun c1 => ?_) (fun c1 => ?_)
      · exact hstop _ _ ls hS
      have hx1 : x.toInt + 7 ≤ (L : Int) := by
        have h9 := dk_nlt c1
        have e9 : (Int32.ofNat L - 7).toInt = (L : Int) - 7 := by rw [Int32.toInt_sub, hlen]; exact dk_bm (by show _ ≤ (L : Int) - 7; omega) (by show (L : Int) - 7 ≤ _; omega)
        omega
      have hend : ∀ (I : dkI) (H : Heap) (locs : List Loc) (ls : Array Slot), dkW g z I H → dkInv I → va_S (dkA z) s.heap H locs → lv_has ls 4 [(3, .int x), (2, .ref (z + 340)), (1, .ref (z + 0)), (0, .ref b)] → W p l e room_1 s m #[Value.ref b] below meth c H locs (0 + 1 + 339 + 1 + 13) (0 + 10 + 2701 + 26 + 2055) (lw_Z below #[Value.ref b] s) (F0 m 1302 ls []) := by
        intro I H locs ls hW hI hS hl
        obtain ⟨y, ey⟩ : ∃ y : Int32, y = x + 7 := ⟨_, rfl⟩
        have e8 : y.toInt = x.toInt + 7 := by rw [ey, Int32.toInt_add]; exact dk_bm (by show _ ≤ x.toInt + 7; omega) (by show x.toInt + 7 ≤ _; omega)
        refine lv_iinc (v := y) (lv' := [(3, .int y), (2, .ref (z + 340)), (1, .ref (z + 0)), (0, .ref b)]) hx hb dL_law_1302 hl (k := 0) rfl (by rw [ey]; rfl) (by decide) rfl (fun ls hl => ?_)
        refine lv_goto (tgt := 18) hx hb dL_law_1305 (by decide) ?_
        exact ih I _ _ ls y (by omega) (by omega) (by omega) hW hI hS hl
      refine lv_aload_n hx hb dL_law_27 rfl (lv_at hl 3 rfl) ?_
      refine lv_iload_n hx hb dL_law_28 rfl (lv_at hl 0 rfl) ?_
      refine va_sld hx hb hX hbl hbA hS (vp_in_iff.mpr ⟨by omega, by omega⟩) dL_law_29 ?_
      refine lv_bipush (v := 63) hx hb dL_law_30 (by decide) ?_
      refine lv_iand hx hb dL_law_32 ?_
      refine lv_topi (fun v ev => ?_)
      have dv : dkN [(0, 63)] v := by rw [ev]; exact dkN_and (dkN_lit (x := 63) 63 rfl) rfl
      by_cases q0 : v = 0
      · have t0 : v.toInt = 0 := by rw [q0]; rfl
        refine lv_tableIn (tgt := 192) hx hb dL_law_33 (by rw [t0]; decide) (by rw [t0]; decide) (by rw [t0]; rfl) (by decide) ?_
        exact k_row l hz0 hx hb hml hown hts hX hbl hL hx0 hx1 hK hT hW hI hS hl hend
      have dv : dkN [(1, 63)] v := dkN_ne1 (0) dv (dkN_lit (x := 0) (0) rfl) (dk_ne q0) rfl
      by_cases q1 : v = 1
      · have t1 : v.toInt = 1 := by rw [q1]; rfl
        refine lv_tableIn (tgt := 235) hx hb dL_law_33 (by rw [t1]; decide) (by rw [t1]; decide) (by rw [t1]; rfl) (by decide) ?_
        exact k_set l hz0 hx hb hml hown hts hX hbl hL hx0 hx1 hK hT hW hI hS hl hend
      have dv : dkN [(2, 63)] v := dkN_ne1 (1) dv (dkN_lit (x := 1) (1) rfl) (dk_ne q1) rfl
      by_cases q2 : v = 2
      · have t2 : v.toInt = 2 := by rw [q2]; rfl
        refine lv_tableIn (tgt := 278) hx hb dL_law_33 (by rw [t2]; decide) (by rw [t2]; decide) (by rw [t2]; rfl) (by decide) ?_
        exact k_copy l hz0 hx hb hml hown hts hX hbl hL hx0 hx1 hK hT hW hI hS hl hend
      have dv : dkN [(3, 63)] v := dkN_ne1 (2) dv (dkN_lit (x := 2) (2) rfl) (dk_ne q2) rfl
      by_cases q3 : v = 3
      · have t3 : v.toInt = 3 := by rw [q3]; rfl
        refine lv_tableIn (tgt := 341) hx hb dL_law_33 (by rw [t3]; decide) (by rw [t3]; decide) (by rw [t3]; rfl) (by decide) ?_
        exact k_drop l hz0 hx hb hml hown hts hX hbl hL hx0 hx1 hK hT hW hI hS hl hend
      have dv : dkN [(4, 63)] v := dkN_ne1 (3) dv (dkN_lit (x := 3) (3) rfl) (dk_ne q3) rfl
      by_cases q4 : v = 4
      · have t4 : v.toInt = 4 := by rw [q4]; rfl
        refine lv_tableIn (tgt := 364) hx hb dL_law_33 (by rw [t4]; decide) (by rw [t4]; decide) (by rw [t4]; rfl) (by decide) ?_
        exact k_feed l hz0 hx hb hml hown hts hX hbl hL hx0 hx1 hK hT hW hI hS hl hend
      have dv : dkN [(5, 63)] v := dkN_ne1 (4) dv (dkN_lit (x := 4) (4) rfl) (dk_ne q4) rfl
      by_cases q5 : v = 5
      · have t5 : v.toInt = 5 := by rw [q5]; rfl
        refine lv_tableIn (tgt := 387) hx hb dL_law_33 (by rw [t5]; decide) (by rw [t5]; decide) (by rw [t5]; rfl) (by decide) ?_
        exact k_town l hz0 hx hb hml hown hts hX hbl hL hx0 hx1 hK hT hW hI hS hl hend
      have dv : dkN [(6, 63)] v := dkN_ne1 (5) dv (dkN_lit (x := 5) (5) rfl) (dk_ne q5) rfl
      by_cases q6 : v = 6
      · have t6 : v.toInt = 6 := by rw [q6]; rfl
        refine lv_tableIn (tgt := 400) hx hb dL_law_33 (by rw [t6]; decide) (by rw [t6]; decide) (by rw [t6]; rfl) (by decide) ?_
        exact k_fault l hz0 hx hb hml hown hts hX hbl hL hx0 hx1 hK hT hW hI hS hl hend
      have dv : dkN [(7, 63)] v := dkN_ne1 (6) dv (dkN_lit (x := 6) (6) rfl) (dk_ne q6) rfl
      by_cases q7 : v = 7
      · have t7 : v.toInt = 7 := by rw [q7]; rfl
        refine lv_tableIn (tgt := 413) hx hb dL_law_33 (by rw [t7]; decide) (by rw [t7]; decide) (by rw [t7]; rfl) (by decide) ?_
        exact k_minutes l hz0 hx hb hml hown hts hX hbl hL hx0 hx1 hK hT hW hI hS hl hend
      have dv : dkN [(8, 63)] v := dkN_ne1 (7) dv (dkN_lit (x := 7) (7) rfl) (dk_ne q7) rfl
      by_cases q8 : v = 8
      · have t8 : v.toInt = 8 := by rw [q8]; rfl
        refine lv_tableIn (tgt := 436) hx hb dL_law_33 (by rw [t8]; decide) (by rw [t8]; decide) (by rw [t8]; rfl) (by decide) ?_
        exact k_bones l hz0 hx hb hml hown hts hX hbl hL hx0 hx1 hK hT hW hI hS hl hend
      have dv : dkN [(9, 63)] v := dkN_ne1 (8) dv (dkN_lit (x := 8) (8) rfl) (dk_ne q8) rfl
      by_cases q9 : v = 9
      · have t9 : v.toInt = 9 := by rw [q9]; rfl
        refine lv_tableIn (tgt := 469) hx hb dL_law_33 (by rw [t9]; decide) (by rw [t9]; decide) (by rw [t9]; rfl) (by decide) ?_
        exact k_walk l hz0 hx hb hml hown hts hX hbl hL hx0 hx1 hK hT hW hI hS hl hend
      have dv : dkN [(10, 63)] v := dkN_ne1 (9) dv (dkN_lit (x := 9) (9) rfl) (dk_ne q9) rfl
      by_cases q10 : v = 10
      · have t10 : v.toInt = 10 := by rw [q10]; rfl
        refine lv_tableIn (tgt := 502) hx hb dL_law_33 (by rw [t10]; decide) (by rw [t10]; decide) (by rw [t10]; rfl) (by decide) ?_
        exact k_put l hz0 hx hb hml hown hts hX hbl hL hx0 hx1 hK hT hW hI hS hl hend
      have dv : dkN [(11, 63)] v := dkN_ne1 (10) dv (dkN_lit (x := 10) (10) rfl) (dk_ne q10) rfl
      by_cases q11 : v = 11
      · have t11 : v.toInt = 11 := by rw [q11]; rfl
        refine lv_tableIn (tgt := 535) hx hb dL_law_33 (by rw [t11]; decide) (by rw [t11]; decide) (by rw [t11]; rfl) (by decide) ?_
        exact k_undo l hz0 hx hb hml hown hts hX hbl hL hx0 hx1 hK hT hW hI hS hl hend
      have dv : dkN [(12, 63)] v := dkN_ne1 (11) dv (dkN_lit (x := 11) (11) rfl) (dk_ne q11) rfl
      by_cases q12 : v = 12
      · have t12 : v.toInt = 12 := by rw [q12]; rfl
        refine lv_tableIn (tgt := 548) hx hb dL_law_33 (by rw [t12]; decide) (by rw [t12]; decide) (by rw [t12]; rfl) (by decide) ?_
        exact k_dog l hz0 hx hb hml hown hts hX hbl hL hx0 hx1 hK hT hW hI hS hl hend
      have dv : dkN [(13, 63)] v := dkN_ne1 (12) dv (dkN_lit (x := 12) (12) rfl) (dk_ne q12) rfl
      by_cases q13 : v = 13
      · have t13 : v.toInt = 13 := by rw [q13]; rfl
        refine lv_tableIn (tgt := 581) hx hb dL_law_33 (by rw [t13]; decide) (by rw [t13]; decide) (by rw [t13]; rfl) (by decide) ?_
        exact k_person l hz0 hx hb hml hown hts hX hbl hL hx0 hx1 hK hT hW hI hS hl hend
      have dv : dkN [(14, 63)] v := dkN_ne1 (13) dv (dkN_lit (x := 13) (13) rfl) (dk_ne q13) rfl
      by_cases q14 : v = 14
      · have t14 : v.toInt = 14 := by rw [q14]; rfl
        refine lv_tableIn (tgt := 614) hx hb dL_law_33 (by rw [t14]; decide) (by rw [t14]; decide) (by rw [t14]; rfl) (by decide) ?_
        exact k_ahead l hz0 hx hb hml hown hts hX hbl hL hx0 hx1 hK hT hW hI hS hl hend
      have dv : dkN [(15, 63)] v := dkN_ne1 (14) dv (dkN_lit (x := 14) (14) rfl) (dk_ne q14) rfl
      by_cases q15 : v = 15
      · have t15 : v.toInt = 15 := by rw [q15]; rfl
        refine lv_tableIn (tgt := 647) hx hb dL_law_33 (by rw [t15]; decide) (by rw [t15]; decide) (by rw [t15]; rfl) (by decide) ?_
        exact k_goes l hz0 hx hb hml hown hts hX hbl hL hx0 hx1 hK hT hW hI hS hl hend
      have dv : dkN [(16, 63)] v := dkN_ne1 (15) dv (dkN_lit (x := 15) (15) rfl) (dk_ne q15) rfl
      by_cases q16 : v = 16
      · have t16 : v.toInt = 16 := by rw [q16]; rfl
        refine lv_tableIn (tgt := 680) hx hb dL_law_33 (by rw [t16]; decide) (by rw [t16]; decide) (by rw [t16]; rfl) (by decide) ?_
        exact k_crowned l hz0 hx hb hml hown hts hX hbl hL hx0 hx1 hK hT hW hI hS hl hend
      have dv : dkN [(17, 63)] v := dkN_ne1 (16) dv (dkN_lit (x := 16) (16) rfl) (dk_ne q16) rfl
      by_cases q17 : v = 17
      · have t17 : v.toInt = 17 := by rw [q17]; rfl
        refine lv_tableIn (tgt := 703) hx hb dL_law_33 (by rw [t17]; decide) (by rw [t17]; decide) (by rw [t17]; rfl) (by decide) ?_
        exact k_heir l hz0 hx hb hml hown hts hX hbl hL hx0 hx1 hK hT hW hI hS hl hend
      have dv : dkN [(18, 63)] v := dkN_ne1 (17) dv (dkN_lit (x := 17) (17) rfl) (dk_ne q17) rfl
      by_cases q18 : v = 18
      · have t18 : v.toInt = 18 := by rw [q18]; rfl
        refine lv_tableIn (tgt := 726) hx hb dL_law_33 (by rw [t18]; decide) (by rw [t18]; decide) (by rw [t18]; rfl) (by decide) ?_
        exact k_least l hz0 hx hb hml hown hts hX hbl hL hx0 hx1 hK hT hW hI hS hl hend
      have dv : dkN [(19, 63)] v := dkN_ne1 (18) dv (dkN_lit (x := 18) (18) rfl) (dk_ne q18) rfl
      by_cases q19 : v = 19
      · have t19 : v.toInt = 19 := by rw [q19]; rfl
        refine lv_tableIn (tgt := 749) hx hb dL_law_33 (by rw [t19]; decide) (by rw [t19]; decide) (by rw [t19]; rfl) (by decide) ?_
        exact k_walks l hz0 hx hb hml hown hts hX hbl hL hx0 hx1 hK hT hW hI hS hl hend
      have dv : dkN [(20, 63)] v := dkN_ne1 (19) dv (dkN_lit (x := 19) (19) rfl) (dk_ne q19) rfl
      by_cases q20 : v = 20
      · have t20 : v.toInt = 20 := by rw [q20]; rfl
        refine lv_tableIn (tgt := 772) hx hb dL_law_33 (by rw [t20]; decide) (by rw [t20]; decide) (by rw [t20]; rfl) (by decide) ?_
        exact k_cats l hz0 hx hb hml hown hts hX hbl hL hx0 hx1 hK hT hW hI hS hl hend
      have dv : dkN [(21, 63)] v := dkN_ne1 (20) dv (dkN_lit (x := 20) (20) rfl) (dk_ne q20) rfl
      by_cases q21 : v = 21
      · have t21 : v.toInt = 21 := by rw [q21]; rfl
        refine lv_tableIn (tgt := 805) hx hb dL_law_33 (by rw [t21]; decide) (by rw [t21]; decide) (by rw [t21]; rfl) (by decide) ?_
        exact k_shows l hz0 hx hb hml hown hts hX hbl hL hx0 hx1 hK hT hW hI hS hl hend
      have dv : dkN [(22, 63)] v := dkN_ne1 (21) dv (dkN_lit (x := 21) (21) rfl) (dk_ne q21) rfl
      by_cases q22 : v = 22
      · have t22 : v.toInt = 22 := by rw [q22]; rfl
        refine lv_tableIn (tgt := 848) hx hb dL_law_33 (by rw [t22]; decide) (by rw [t22]; decide) (by rw [t22]; rfl) (by decide) ?_
        exact k_packs l hz0 hx hb hml hown hts hX hbl hL hx0 hx1 hK hT hW hI hS hl hend
      have dv : dkN [(23, 63)] v := dkN_ne1 (22) dv (dkN_lit (x := 22) (22) rfl) (dk_ne q22) rfl
      by_cases q23 : v = 23
      · have t23 : v.toInt = 23 := by rw [q23]; rfl
        refine lv_tableIn (tgt := 871) hx hb dL_law_33 (by rw [t23]; decide) (by rw [t23]; decide) (by rw [t23]; rfl) (by decide) ?_
        exact k_hangs l hz0 hx hb hml hown hts hX hbl hL hx0 hx1 hK hT hW hI hS hl hend
      have dv : dkN [(24, 63)] v := dkN_ne1 (23) dv (dkN_lit (x := 23) (23) rfl) (dk_ne q23) rfl
      by_cases q24 : v = 24
      · have t24 : v.toInt = 24 := by rw [q24]; rfl
        refine lv_tableIn (tgt := 884) hx hb dL_law_33 (by rw [t24]; decide) (by rw [t24]; decide) (by rw [t24]; rfl) (by decide) ?_
        exact k_fits l hz0 hx hb hml hown hts hX hbl hL hx0 hx1 hK hT hW hI hS hl hend
      have dv : dkN [(25, 63)] v := dkN_ne1 (24) dv (dkN_lit (x := 24) (24) rfl) (dk_ne q24) rfl
      by_cases q25 : v = 25
      · have t25 : v.toInt = 25 := by rw [q25]; rfl
        refine lv_tableIn (tgt := 947) hx hb dL_law_33 (by rw [t25]; decide) (by rw [t25]; decide) (by rw [t25]; rfl) (by decide) ?_
        exact k_suits l hz0 hx hb hml hown hts hX hbl hL hx0 hx1 hK hT hW hI hS hl hend
      have dv : dkN [(26, 63)] v := dkN_ne1 (25) dv (dkN_lit (x := 25) (25) rfl) (dk_ne q25) rfl
      by_cases q26 : v = 26
      · have t26 : v.toInt = 26 := by rw [q26]; rfl
        refine lv_tableIn (tgt := 1022) hx hb dL_law_33 (by rw [t26]; decide) (by rw [t26]; decide) (by rw [t26]; rfl) (by decide) ?_
        exact k_asleep l hz0 hx hb hml hown hts hX hbl hL hx0 hx1 hK hT hW hI hS hl hend
      have dv : dkN [(27, 63)] v := dkN_ne1 (26) dv (dkN_lit (x := 26) (26) rfl) (dk_ne q26) rfl
      by_cases q27 : v = 27
      · have t27 : v.toInt = 27 := by rw [q27]; rfl
        refine lv_tableIn (tgt := 1065) hx hb dL_law_33 (by rw [t27]; decide) (by rw [t27]; decide) (by rw [t27]; rfl) (by decide) ?_
        exact k_drawn l hz0 hx hb hml hown hts hX hbl hL hx0 hx1 hK hT hW hI hS hl hend
      have dv : dkN [(28, 63)] v := dkN_ne1 (27) dv (dkN_lit (x := 27) (27) rfl) (dk_ne q27) rfl
      by_cases q28 : v = 28
      · have t28 : v.toInt = 28 := by rw [q28]; rfl
        refine lv_tableIn (tgt := 1108) hx hb dL_law_33 (by rw [t28]; decide) (by rw [t28]; decide) (by rw [t28]; rfl) (by decide) ?_
        exact k_image l hz0 hx hb hml hown hts hX hbl hL hx0 hx1 hK hT hW hI hS hl hend
      have dv : dkN [(29, 63)] v := dkN_ne1 (28) dv (dkN_lit (x := 28) (28) rfl) (dk_ne q28) rfl
      by_cases q29 : v = 29
      · have t29 : v.toInt = 29 := by rw [q29]; rfl
        refine lv_tableIn (tgt := 1131) hx hb dL_law_33 (by rw [t29]; decide) (by rw [t29]; decide) (by rw [t29]; rfl) (by decide) ?_
        exact k_restore l hz0 hx hb hml hown hts hX hbl hL hx0 hx1 hK hT hW hI hS hl hend
      have dv : dkN [(30, 63)] v := dkN_ne1 (29) dv (dkN_lit (x := 29) (29) rfl) (dk_ne q29) rfl
      by_cases q30 : v = 30
      · have t30 : v.toInt = 30 := by rw [q30]; rfl
        refine lv_tableIn (tgt := 1154) hx hb dL_law_33 (by rw [t30]; decide) (by rw [t30]; decide) (by rw [t30]; rfl) (by decide) ?_
        exact k_kind l hz0 hx hb hml hown hts hX hbl hL hx0 hx1 hK hT hW hI hS hl hend
      have dv : dkN [(31, 63)] v := dkN_ne1 (30) dv (dkN_lit (x := 30) (30) rfl) (dk_ne q30) rfl
      by_cases q31 : v = 31
      · have t31 : v.toInt = 31 := by rw [q31]; rfl
        refine lv_tableIn (tgt := 1177) hx hb dL_law_33 (by rw [t31]; decide) (by rw [t31]; decide) (by rw [t31]; rfl) (by decide) ?_
        exact k_as l hz0 hx hb hml hown hts hX hbl hL hx0 hx1 hK hT hW hI hS hl hend
      have dv : dkN [(32, 63)] v := dkN_ne1 (31) dv (dkN_lit (x := 31) (31) rfl) (dk_ne q31) rfl
      by_cases q32 : v = 32
      · have t32 : v.toInt = 32 := by rw [q32]; rfl
        refine lv_tableIn (tgt := 1210) hx hb dL_law_33 (by rw [t32]; decide) (by rw [t32]; decide) (by rw [t32]; rfl) (by decide) ?_
        exact k_ask l hz0 hx hb hml hown hts hX hbl hL hx0 hx1 hK hT hW hI hS hl hend
      have dv : dkN [(33, 63)] v := dkN_ne1 (32) dv (dkN_lit (x := 32) (32) rfl) (dk_ne q32) rfl
      by_cases q33 : v = 33
      · have t33 : v.toInt = 33 := by rw [q33]; rfl
        refine lv_tableIn (tgt := 1243) hx hb dL_law_33 (by rw [t33]; decide) (by rw [t33]; decide) (by rw [t33]; rfl) (by decide) ?_
        exact k_trace l hz0 hx hb hml hown hts hX hbl hL hx0 hx1 hK hT hW hI hS hl hend
      have dv : dkN [(34, 63)] v := dkN_ne1 (33) dv (dkN_lit (x := 33) (33) rfl) (dk_ne q33) rfl
      by_cases q34 : v = 34
      · have t34 : v.toInt = 34 := by rw [q34]; rfl
        refine lv_tableIn (tgt := 1266) hx hb dL_law_33 (by rw [t34]; decide) (by rw [t34]; decide) (by rw [t34]; rfl) (by decide) ?_
        exact k_count l hz0 hx hb hml hown hts hX hbl hL hx0 hx1 hK hT hW hI hS hl hend
      have dv : dkN [(35, 63)] v := dkN_ne1 (34) dv (dkN_lit (x := 34) (34) rfl) (dk_ne q34) rfl
      by_cases q35 : v = 35
      · have t35 : v.toInt = 35 := by rw [q35]; rfl
        refine lv_tableIn (tgt := 1289) hx hb dL_law_33 (by rw [t35]; decide) (by rw [t35]; decide) (by rw [t35]; rfl) (by decide) ?_
        exact k_status l hz0 hx hb hml hown hts hX hbl hL hx0 hx1 hK hT hW hI hS hl hend
      have dv : dkN [(36, 63)] v := dkN_ne1 (35) dv (dkN_lit (x := 35) (35) rfl) (dk_ne q35) rfl
      refine lv_tableOut (tgt := 1302) hx hb dL_law_33 (dkN_out dv rfl) (by decide) ?_
      exact hend I _ _ ls hW hI hS hl
  exact K _ dkI0 _ _ ls 0 (Nat.lt_succ_self _) (by decide) (by decide) hW dkInv_0 hS hl
