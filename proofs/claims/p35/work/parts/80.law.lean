theorem dk_ofNat {L : Nat} (h : L ≤ 2000) : (Int32.ofNat L).toInt = (L : Int) := by rw [Int32.toInt_ofNat_small (by omega)]
theorem dk_lawIn {x : Int32} {L k N : Nat} (h0 : 0 ≤ x.toInt) (h1 : x.toInt + 7 ≤ (L : Int)) (hL : L ≤ N) (hk : k < 7) (hN : N ≤ 2000 := by decide) : vp_in (x + Int32.ofNat k) L := by
  have e1 := dk_ofNat (L := k) (by omega)
  have e2 : (x + Int32.ofNat k).toInt = x.toInt + (k : Int) := by rw [Int32.toInt_add, e1]; exact dk_bm (by omega) (by omega)
  exact vp_in_iff.mpr ⟨by omega, by omega⟩
theorem dk_cond {c : Bool} {S T : dkS} {x : Int32} (h1 : dkN S x) (h2 : dkN T x) : dkN (bif c then S else T) x := by
  cases c
  · exact h2
  · exact h1
theorem dk_z {S : dkS} (h : (S.any fun p => decide (p.1 ≤ 0) && decide (0 ≤ p.2)) = true) : dkN S 0 := by
  obtain ⟨p, hp, h1⟩ := List.any_eq_true.mp h
  rw [Bool.and_eq_true] at h1
  exact ⟨p, hp, of_decide_eq_true h1.1, of_decide_eq_true h1.2⟩
theorem dkO_z (k j : Nat) (h : k ≠ 341) : dkN (dkB k j) 0 := by
  unfold dkB dkBT dkBW
  rw [show Nat.beq k 341 = false by rw [← Bool.not_eq_true, Nat.beq_eq]; exact h]
  repeat' (first | exact dk_z rfl | refine dk_cond ?_ ?_)
theorem dkO_0 : dkOk dkI0 := by
  intro k j
  by_cases h1 : k = 11
  · subst h1
    exact dkHas_of (a := -1) (b := -1) rfl (show (-1 : Int) ≤ (-1 : Int32).toInt by decide) (show (-1 : Int32).toInt ≤ (-1 : Int) by decide)
  by_cases h2 : k = 341
  · subst h2
    exact dkHas_of (a := -1000000) (b := -1000000) rfl (show (-1000000 : Int) ≤ (-1000000 : Int32).toInt by decide) (show (-1000000 : Int32).toInt ≤ (-1000000 : Int) by decide)
  have e : dkI0 k j = 0 := by unfold dkI0; rw [if_neg h1, if_neg h2]
  rw [e]
  exact dkO_z k j h2
theorem dkPP_0 : dkPP dkI0 := ⟨Or.inl (dkN_lit 0 rfl), fun i hi => absurd hi (Nat.not_lt_zero _), fun i _ hk => absurd rfl hk⟩
def dkInv (I : dkI) : Prop := dkOk I ∧ dkPP I ∧ dkRel I
theorem dkInv_0 : dkInv dkI0 := ⟨dkO_0, dkPP_0, dkRel_0⟩

set_option maxHeartbeats 4000000 in
set_option maxRecDepth 100000 in
theorem k_row {p : Program} {e : Env} {s : State} {m : MethodId} {below : List Frame} {meth : Method} {c : Code} (l : Launch) {b L z : Nat} {xs : Nat → Int32} {g : dkG} {Q : State → Prop} {H : Heap} {locs : List Loc} {ls : Array Slot} {I : dkI} {x : Int32} (hz0 : z = s.heap.size) (hx : p.tables.exec = Jvm.exec) (hb : c.code = code) (hml : c.maxLocals = 4) (hown : s.vm.findClass RL = some m.cls) (hts : ∀ w ∈ wsL_law, w.before #[Value.ref b] s = true) (hX : va_X b L xs s s.heap) (hbl : b < s.heap.size) (hL : L ≤ 448) (hx0 : 0 ≤ x.toInt) (hx1 : x.toInt + 7 ≤ (L : Int)) (hK : dkK g s) (hT : dkST z s) (hW : dkW g z I H) (hI : dkInv I) (hS : va_S (dkA z) s.heap H locs) (hl : lv_has ls 4 [(3, .int x), (2, .ref (z + 340)), (1, .ref (z + 0)), (0, .ref b)]) (hend : ∀ (I : dkI) (H : Heap) (locs : List Loc) (ls : Array Slot), dkW g z I H → dkInv I → va_S (dkA z) s.heap H locs → lv_has ls 4 [(3, .int x), (2, .ref (z + 340)), (1, .ref (z + 0)), (0, .ref b)] → W p l e room_1 s m #[Value.ref b] below meth c H locs (0 + 1 + 339 + 1 + 13) (0 + 10 + 2701 + 26 + 2055) Q (F0 m 1302 ls [])) : W p l e room_1 s m #[Value.ref b] below meth c H locs (0 + 1 + 339 + 1 + 13) (0 + 10 + 2701 + 26 + 2055) Q (F0 m 192 ls []) := by
  have hbA : ¬ dkA z b := by unfold dkA; omega
  obtain ⟨hO, hP, hR⟩ := hI
  have hO0 := hO
  have hP0 := hP
  have hin : ∀ k : Nat, k < 7 → vp_in (x + Int32.ofNat k) L := fun k hk => dk_lawIn hx0 hx1 hL hk
  obtain ⟨a1, ha1⟩ : ∃ y : Int32, xs (Int32.toNatClampNeg (x + 1)) = y := ⟨_, rfl⟩
  obtain ⟨a2, ha2⟩ : ∃ y : Int32, xs (Int32.toNatClampNeg (x + 2)) = y := ⟨_, rfl⟩
  obtain ⟨a3, ha3⟩ : ∃ y : Int32, xs (Int32.toNatClampNeg (x + 3)) = y := ⟨_, rfl⟩
  refine lv_aload_n hx hb dL_law_192 rfl (lv_at hl 2 rfl) ?_
  refine lv_aload_n hx hb dL_law_193 rfl (lv_at hl 3 rfl) ?_
  refine lv_iload_n hx hb dL_law_194 rfl (lv_at hl 0 rfl) ?_
  refine lv_iconst (v := 1) hx hb dL_law_195 (by decide) ?_
  refine lv_iadd hx hb dL_law_196 ?_
  refine va_sld hx hb hX hbl hbA hS (hin 1 (by decide)) dL_law_197 ?_
  rw [ha1]
  refine lv_aload_n hx hb dL_law_198 rfl (lv_at hl 3 rfl) ?_
  refine lv_iload_n hx hb dL_law_199 rfl (lv_at hl 0 rfl) ?_
  refine lv_iconst (v := 2) hx hb dL_law_200 (by decide) ?_
  refine lv_iadd hx hb dL_law_201 ?_
  refine va_sld hx hb hX hbl hbA hS (hin 2 (by decide)) dL_law_202 ?_
  rw [ha2]
  refine lv_aload_n hx hb dL_law_203 rfl (lv_at hl 3 rfl) ?_
  refine lv_iload_n hx hb dL_law_204 rfl (lv_at hl 0 rfl) ?_
  refine lv_iconst (v := 3) hx hb dL_law_205 (by decide) ?_
  refine lv_iadd hx hb dL_law_206 ?_
  refine va_sld hx hb hX hbl hbA hS (hin 3 (by decide)) dL_law_207 ?_
  rw [ha3]
  refine dk_Vi (As := [.int a1, .int a2, .int a3]) (rest := []) ⟨hx, hb, hml, hown, hts⟩ (c_X5_row_0 l g z I a1 a2 a3 hO) (cwV 3 hts gL_law_X5_row rfl rfl rfl (by decide +kernel) ⟨Nat.le_of_ble_eq_true rfl, Nat.le_of_ble_eq_true rfl⟩) (dk_at0 hW) rfl hK hT hW hS rfl hl.1 rfl (Nat.le_of_ble_eq_true rfl) dL_law_208 ⟨Nat.le_of_ble_eq_true rfl, Nat.le_of_ble_eq_true rfl⟩ (fun v1 I1 H L hp1 hW hS => ?_)
  obtain ⟨hF1, hO, hc1⟩ := hp1
  have hP := dkPP_F hP hF1 rfl
  refine lv_pop hx hb dL_law_211 rfl ?_
  refine lv_aload_n hx hb dL_law_212 rfl (lv_at hl 1 rfl) ?_
  refine lv_aload_n hx hb dL_law_213 rfl (lv_at hl 3 rfl) ?_
  refine lv_iload_n hx hb dL_law_214 rfl (lv_at hl 0 rfl) ?_
  refine lv_iconst (v := 1) hx hb dL_law_215 (by decide) ?_
  refine lv_iadd hx hb dL_law_216 ?_
  refine va_sld hx hb hX hbl hbA hS (hin 1 (by decide)) dL_law_217 ?_
  rw [ha1]
  refine lv_aload_n hx hb dL_law_218 rfl (lv_at hl 3 rfl) ?_
  refine lv_iload_n hx hb dL_law_219 rfl (lv_at hl 0 rfl) ?_
  refine lv_iconst (v := 2) hx hb dL_law_220 (by decide) ?_
  refine lv_iadd hx hb dL_law_221 ?_
  refine va_sld hx hb hX hbl hbA hS (hin 2 (by decide)) dL_law_222 ?_
  rw [ha2]
  refine lv_aload_n hx hb dL_law_223 rfl (lv_at hl 3 rfl) ?_
  refine lv_iload_n hx hb dL_law_224 rfl (lv_at hl 0 rfl) ?_
  refine lv_iconst (v := 3) hx hb dL_law_225 (by decide) ?_
  refine lv_iadd hx hb dL_law_226 ?_
  refine va_sld hx hb hX hbl hbA hS (hin 3 (by decide)) dL_law_227 ?_
  rw [ha3]
  refine dk_Vi (As := [.int a1, .int a2, .int a3]) (rest := []) ⟨hx, hb, hml, hown, hts⟩ (c_X6_row_0 l g z I1 a1 a2 a3 hO) (cwV 3 hts gL_law_X6_row rfl rfl rfl (by decide +kernel) ⟨Nat.le_of_ble_eq_true rfl, Nat.le_of_ble_eq_true rfl⟩) (dk_at340 hW) rfl hK hT hW hS rfl hl.1 rfl (Nat.le_of_ble_eq_true rfl) dL_law_228 ⟨Nat.le_of_ble_eq_true rfl, Nat.le_of_ble_eq_true rfl⟩ (fun v2 I2 H L hp2 hW hS => ?_)
  obtain ⟨hF2, hO, hc2⟩ := hp2
  have hP := dkPP_F hP hF2 rfl
  refine lv_pop hx hb dL_law_231 rfl ?_
  refine lv_goto (tgt := 1302) hx hb dL_law_232 (by decide) ?_
  exact hend I2 _ _ ls hW ⟨hO, hP, ⟨(dkQQ_F (dkQQ_F hR.1 hF1 rfl) hF2 rfl), (dkTap_k hR.2.1 ((hF2 12 1 rfl).trans (hF1 12 1 rfl)) ((hF2 340 6 rfl).trans (hF1 340 6 rfl)) ((funext fun j => hF2 13 j rfl).trans (funext fun j => hF1 13 j rfl)) ((funext fun j => hF2 345 j rfl).trans (funext fun j => hF1 345 j rfl))), (dkNo_k hR.2.2.1 hO0 ((hF2 25 0 rfl).trans (hF1 25 0 rfl)) ((hF2 25 4 rfl).trans (hF1 25 4 rfl)) ((hF2 25 11 rfl).trans (hF1 25 11 rfl)) ((funext fun j => hF2 32 j rfl).trans (funext fun j => hF1 32 j rfl)) ((hF2 346 0 rfl).trans (hF1 346 0 rfl)) ((hF2 346 4 rfl).trans (hF1 346 4 rfl)) ((hF2 346 5 rfl).trans (hF1 346 5 rfl)) (fun j hj => by rcases (by omega : j = 0 ∨ j = 1 ∨ j = 2 ∨ j = 3 ∨ j = 4 ∨ j = 5) with rfl | rfl | rfl | rfl | rfl | rfl <;> exact (hF2 346 _ rfl).trans (hF1 346 _ rfl))), (dkIm_k (k := 0) hR.2.2.2.1 ((hF2 37 0 rfl).trans (hF1 37 0 rfl)) ((hF2 37 4 rfl).trans (hF1 37 4 rfl)) ((hF2 37 11 rfl).trans (hF1 37 11 rfl)) ((funext fun j => hF2 44 j rfl).trans (funext fun j => hF1 44 j rfl)) ((funext fun j => hF2 350 j rfl).trans (funext fun j => hF1 350 j rfl)) ((funext fun j => hF2 351 j rfl).trans (funext fun j => hF1 351 j rfl))), (dkIm_k (k := 1) hR.2.2.2.2.1 ((hF2 48 0 rfl).trans (hF1 48 0 rfl)) ((hF2 48 4 rfl).trans (hF1 48 4 rfl)) ((hF2 48 11 rfl).trans (hF1 48 11 rfl)) ((funext fun j => hF2 55 j rfl).trans (funext fun j => hF1 55 j rfl)) ((funext fun j => hF2 350 j rfl).trans (funext fun j => hF1 350 j rfl)) ((funext fun j => hF2 351 j rfl).trans (funext fun j => hF1 351 j rfl))), (dkTr_k hR.2.2.2.2.2 ((hF2 338 2 rfl).trans (hF1 338 2 rfl)) ((hF2 340 25 rfl).trans (hF1 340 25 rfl)) ((funext fun j => hF2 339 j rfl).trans (funext fun j => hF1 339 j rfl)) ((funext fun j => hF2 353 j rfl).trans (funext fun j => hF1 353 j rfl)))⟩⟩ hS hl

set_option maxHeartbeats 4000000 in
set_option maxRecDepth 100000 in
theorem k_set {p : Program} {e : Env} {s : State} {m : MethodId} {below : List Frame} {meth : Method} {c : Code} (l : Launch) {b L z : Nat} {xs : Nat → Int32} {g : dkG} {Q : State → Prop} {H : Heap} {locs : List Loc} {ls : Array Slot} {I : dkI} {x : Int32} (hz0 : z = s.heap.size) (hx : p.tables.exec = Jvm.exec) (hb : c.code = code) (hml : c.maxLocals = 4) (hown : s.vm.findClass RL = some m.cls) (hts : ∀ w ∈ wsL_law, w.before #[Value.ref b] s = true) (hX : va_X b L xs s s.heap) (hbl : b < s.heap.size) (hL : L ≤ 448) (hx0 : 0 ≤ x.toInt) (hx1 : x.toInt + 7 ≤ (L : Int)) (hK : dkK g s) (hT : dkST z s) (hW : dkW g z I H) (hI : dkInv I) (hS : va_S (dkA z) s.heap H locs) (hl : lv_has ls 4 [(3, .int x), (2, .ref (z + 340)), (1, .ref (z + 0)), (0, .ref b)]) (hend : ∀ (I : dkI) (H : Heap) (locs : List Loc) (ls : Array Slot), dkW g z I H → dkInv I → va_S (dkA z) s.heap H locs → lv_has ls 4 [(3, .int x), (2, .ref (z + 340)), (1, .ref (z + 0)), (0, .ref b)] → W p l e room_1 s m #[Value.ref b] below meth c H locs (0 + 1 + 339 + 1 + 13) (0 + 10 + 2701 + 26 + 2055) Q (F0 m 1302 ls [])) : W p l e room_1 s m #[Value.ref b] below meth c H locs (0 + 1 + 339 + 1 + 13) (0 + 10 + 2701 + 26 + 2055) Q (F0 m 235 ls []) := by
  have hbA : ¬ dkA z b := by unfold dkA; omega
  obtain ⟨hO, hP, hR⟩ := hI
  have hO0 := hO
  have hP0 := hP
  have hin : ∀ k : Nat, k < 7 → vp_in (x + Int32.ofNat k) L := fun k hk => dk_lawIn hx0 hx1 hL hk
  obtain ⟨a1, ha1⟩ : ∃ y : Int32, xs (Int32.toNatClampNeg (x + 1)) = y := ⟨_, rfl⟩
  obtain ⟨a2, ha2⟩ : ∃ y : Int32, xs (Int32.toNatClampNeg (x + 2)) = y := ⟨_, rfl⟩
  obtain ⟨a3, ha3⟩ : ∃ y : Int32, xs (Int32.toNatClampNeg (x + 3)) = y := ⟨_, rfl⟩
  refine lv_aload_n hx hb dL_law_235 rfl (lv_at hl 2 rfl) ?_
  refine lv_aload_n hx hb dL_law_236 rfl (lv_at hl 3 rfl) ?_
  refine lv_iload_n hx hb dL_law_237 rfl (lv_at hl 0 rfl) ?_
  refine lv_iconst (v := 1) hx hb dL_law_238 (by decide) ?_
  refine lv_iadd hx hb dL_law_239 ?_
  refine va_sld hx hb hX hbl hbA hS (hin 1 (by decide)) dL_law_240 ?_
  rw [ha1]
  refine lv_aload_n hx hb dL_law_241 rfl (lv_at hl 3 rfl) ?_
  refine lv_iload_n hx hb dL_law_242 rfl (lv_at hl 0 rfl) ?_
  refine lv_iconst (v := 2) hx hb dL_law_243 (by decide) ?_
  refine lv_iadd hx hb dL_law_244 ?_
  refine va_sld hx hb hX hbl hbA hS (hin 2 (by decide)) dL_law_245 ?_
  rw [ha2]
  refine lv_aload_n hx hb dL_law_246 rfl (lv_at hl 3 rfl) ?_
  refine lv_iload_n hx hb dL_law_247 rfl (lv_at hl 0 rfl) ?_
  refine lv_iconst (v := 3) hx hb dL_law_248 (by decide) ?_
  refine lv_iadd hx hb dL_law_249 ?_
  refine va_sld hx hb hX hbl hbA hS (hin 3 (by decide)) dL_law_250 ?_
  rw [ha3]
  refine dk_Vi (As := [.int a1, .int a2, .int a3]) (rest := []) ⟨hx, hb, hml, hown, hts⟩ (c_X5_set_0 l g z I a1 a2 a3 hO) (cwV 3 hts gL_law_X5_set rfl rfl rfl (by decide +kernel) ⟨Nat.le_of_ble_eq_true rfl, Nat.le_of_ble_eq_true rfl⟩) (dk_at0 hW) rfl hK hT hW hS rfl hl.1 rfl (Nat.le_of_ble_eq_true rfl) dL_law_251 ⟨Nat.le_of_ble_eq_true rfl, Nat.le_of_ble_eq_true rfl⟩ (fun v1 I1 H L hp1 hW hS => ?_)
  obtain ⟨hF1, hO, hc1⟩ := hp1
  have hP := dkPP_F hP hF1 rfl
  refine lv_pop hx hb dL_law_254 rfl ?_
  refine lv_aload_n hx hb dL_law_255 rfl (lv_at hl 1 rfl) ?_
  refine lv_aload_n hx hb dL_law_256 rfl (lv_at hl 3 rfl) ?_
  refine lv_iload_n hx hb dL_law_257 rfl (lv_at hl 0 rfl) ?_
  refine lv_iconst (v := 1) hx hb dL_law_258 (by decide) ?_
  refine lv_iadd hx hb dL_law_259 ?_
  refine va_sld hx hb hX hbl hbA hS (hin 1 (by decide)) dL_law_260 ?_
  rw [ha1]
  refine lv_aload_n hx hb dL_law_261 rfl (lv_at hl 3 rfl) ?_
  refine lv_iload_n hx hb dL_law_262 rfl (lv_at hl 0 rfl) ?_
  refine lv_iconst (v := 2) hx hb dL_law_263 (by decide) ?_
  refine lv_iadd hx hb dL_law_264 ?_
  refine va_sld hx hb hX hbl hbA hS (hin 2 (by decide)) dL_law_265 ?_
  rw [ha2]
  refine lv_aload_n hx hb dL_law_266 rfl (lv_at hl 3 rfl) ?_
  refine lv_iload_n hx hb dL_law_267 rfl (lv_at hl 0 rfl) ?_
  refine lv_iconst (v := 3) hx hb dL_law_268 (by decide) ?_
  refine lv_iadd hx hb dL_law_269 ?_
  refine va_sld hx hb hX hbl hbA hS (hin 3 (by decide)) dL_law_270 ?_
  rw [ha3]
  refine dk_Vi (As := [.int a1, .int a2, .int a3]) (rest := []) ⟨hx, hb, hml, hown, hts⟩ (c_X6_set_0 l g z I1 a1 a2 a3 hO) (cwV 3 hts gL_law_X6_set rfl rfl rfl (by decide +kernel) ⟨Nat.le_of_ble_eq_true rfl, Nat.le_of_ble_eq_true rfl⟩) (dk_at340 hW) rfl hK hT hW hS rfl hl.1 rfl (Nat.le_of_ble_eq_true rfl) dL_law_271 ⟨Nat.le_of_ble_eq_true rfl, Nat.le_of_ble_eq_true rfl⟩ (fun v2 I2 H L hp2 hW hS => ?_)
  obtain ⟨hF2, hO, hc2⟩ := hp2
  have hP := dkPP_F hP hF2 rfl
  refine lv_pop hx hb dL_law_274 rfl ?_
  refine lv_goto (tgt := 1302) hx hb dL_law_275 (by decide) ?_
  exact hend I2 _ _ ls hW ⟨hO, hP, ⟨(dkQQ_F (dkQQ_F hR.1 hF1 rfl) hF2 rfl), (dkTap_k hR.2.1 ((hF2 12 1 rfl).trans (hF1 12 1 rfl)) ((hF2 340 6 rfl).trans (hF1 340 6 rfl)) ((funext fun j => hF2 13 j rfl).trans (funext fun j => hF1 13 j rfl)) ((funext fun j => hF2 345 j rfl).trans (funext fun j => hF1 345 j rfl))), (dkNo_k hR.2.2.1 hO0 ((hF2 25 0 rfl).trans (hF1 25 0 rfl)) ((hF2 25 4 rfl).trans (hF1 25 4 rfl)) ((hF2 25 11 rfl).trans (hF1 25 11 rfl)) ((funext fun j => hF2 32 j rfl).trans (funext fun j => hF1 32 j rfl)) ((hF2 346 0 rfl).trans (hF1 346 0 rfl)) ((hF2 346 4 rfl).trans (hF1 346 4 rfl)) ((hF2 346 5 rfl).trans (hF1 346 5 rfl)) (fun j hj => by rcases (by omega : j = 0 ∨ j = 1 ∨ j = 2 ∨ j = 3 ∨ j = 4 ∨ j = 5) with rfl | rfl | rfl | rfl | rfl | rfl <;> exact (hF2 346 _ rfl).trans (hF1 346 _ rfl))), (dkIm_k (k := 0) hR.2.2.2.1 ((hF2 37 0 rfl).trans (hF1 37 0 rfl)) ((hF2 37 4 rfl).trans (hF1 37 4 rfl)) ((hF2 37 11 rfl).trans (hF1 37 11 rfl)) ((funext fun j => hF2 44 j rfl).trans (funext fun j => hF1 44 j rfl)) ((funext fun j => hF2 350 j rfl).trans (funext fun j => hF1 350 j rfl)) ((funext fun j => hF2 351 j rfl).trans (funext fun j => hF1 351 j rfl))), (dkIm_k (k := 1) hR.2.2.2.2.1 ((hF2 48 0 rfl).trans (hF1 48 0 rfl)) ((hF2 48 4 rfl).trans (hF1 48 4 rfl)) ((hF2 48 11 rfl).trans (hF1 48 11 rfl)) ((funext fun j => hF2 55 j rfl).trans (funext fun j => hF1 55 j rfl)) ((funext fun j => hF2 350 j rfl).trans (funext fun j => hF1 350 j rfl)) ((funext fun j => hF2 351 j rfl).trans (funext fun j => hF1 351 j rfl))), (dkTr_k hR.2.2.2.2.2 ((hF2 338 2 rfl).trans (hF1 338 2 rfl)) ((hF2 340 25 rfl).trans (hF1 340 25 rfl)) ((funext fun j => hF2 339 j rfl).trans (funext fun j => hF1 339 j rfl)) ((funext fun j => hF2 353 j rfl).trans (funext fun j => hF1 353 j rfl)))⟩⟩ hS hl

set_option maxHeartbeats 4000000 in
set_option maxRecDepth 100000 in
theorem k_copy {p : Program} {e : Env} {s : State} {m : MethodId} {below : List Frame} {meth : Method} {c : Code} (l : Launch) {b L z : Nat} {xs : Nat → Int32} {g : dkG} {Q : State → Prop} {H : Heap} {locs : List Loc} {ls : Array Slot} {I : dkI} {x : Int32} (hz0 : z = s.heap.size) (hx : p.tables.exec = Jvm.exec) (hb : c.code = code) (hml : c.maxLocals = 4) (hown : s.vm.findClass RL = some m.cls) (hts : ∀ w ∈ wsL_law, w.before #[Value.ref b] s = true) (hX : va_X b L xs s s.heap) (hbl : b < s.heap.size) (hL : L ≤ 448) (hx0 : 0 ≤ x.toInt) (hx1 : x.toInt + 7 ≤ (L : Int)) (hK : dkK g s) (hT : dkST z s) (hW : dkW g z I H) (hI : dkInv I) (hS : va_S (dkA z) s.heap H locs) (hl : lv_has ls 4 [(3, .int x), (2, .ref (z + 340)), (1, .ref (z + 0)), (0, .ref b)]) (hend : ∀ (I : dkI) (H : Heap) (locs : List Loc) (ls : Array Slot), dkW g z I H → dkInv I → va_S (dkA z) s.heap H locs → lv_has ls 4 [(3, .int x), (2, .ref (z + 340)), (1, .ref (z + 0)), (0, .ref b)] → W p l e room_1 s m #[Value.ref b] below meth c H locs (0 + 1 + 339 + 1 + 13) (0 + 10 + 2701 + 26 + 2055) Q (F0 m 1302 ls [])) : W p l e room_1 s m #[Value.ref b] below meth c H locs (0 + 1 + 339 + 1 + 13) (0 + 10 + 2701 + 26 + 2055) Q (F0 m 278 ls []) := by
  have hbA : ¬ dkA z b := by unfold dkA; omega
  obtain ⟨hO, hP, hR⟩ := hI
  have hO0 := hO
  have hP0 := hP
  have hin : ∀ k : Nat, k < 7 → vp_in (x + Int32.ofNat k) L := fun k hk => dk_lawIn hx0 hx1 hL hk
  obtain ⟨a1, ha1⟩ : ∃ y : Int32, xs (Int32.toNatClampNeg (x + 1)) = y := ⟨_, rfl⟩
  obtain ⟨a2, ha2⟩ : ∃ y : Int32, xs (Int32.toNatClampNeg (x + 2)) = y := ⟨_, rfl⟩
  obtain ⟨a3, ha3⟩ : ∃ y : Int32, xs (Int32.toNatClampNeg (x + 3)) = y := ⟨_, rfl⟩
  obtain ⟨a4, ha4⟩ : ∃ y : Int32, xs (Int32.toNatClampNeg (x + 4)) = y := ⟨_, rfl⟩
  obtain ⟨a5, ha5⟩ : ∃ y : Int32, xs (Int32.toNatClampNeg (x + 5)) = y := ⟨_, rfl⟩
  refine lv_aload_n hx hb dL_law_278 rfl (lv_at hl 2 rfl) ?_
  refine lv_aload_n hx hb dL_law_279 rfl (lv_at hl 3 rfl) ?_
  refine lv_iload_n hx hb dL_law_280 rfl (lv_at hl 0 rfl) ?_
  refine lv_iconst (v := 1) hx hb dL_law_281 (by decide) ?_
  refine lv_iadd hx hb dL_law_282 ?_
  refine va_sld hx hb hX hbl hbA hS (hin 1 (by decide)) dL_law_283 ?_
  rw [ha1]
  refine lv_aload_n hx hb dL_law_284 rfl (lv_at hl 3 rfl) ?_
  refine lv_iload_n hx hb dL_law_285 rfl (lv_at hl 0 rfl) ?_
  refine lv_iconst (v := 2) hx hb dL_law_286 (by decide) ?_
  refine lv_iadd hx hb dL_law_287 ?_
  refine va_sld hx hb hX hbl hbA hS (hin 2 (by decide)) dL_law_288 ?_
  rw [ha2]
  refine lv_aload_n hx hb dL_law_289 rfl (lv_at hl 3 rfl) ?_
  refine lv_iload_n hx hb dL_law_290 rfl (lv_at hl 0 rfl) ?_
  refine lv_iconst (v := 3) hx hb dL_law_291 (by decide) ?_
  refine lv_iadd hx hb dL_law_292 ?_
  refine va_sld hx hb hX hbl hbA hS (hin 3 (by decide)) dL_law_293 ?_
  rw [ha3]
  refine lv_aload_n hx hb dL_law_294 rfl (lv_at hl 3 rfl) ?_
  refine lv_iload_n hx hb dL_law_295 rfl (lv_at hl 0 rfl) ?_
  refine lv_iconst (v := 4) hx hb dL_law_296 (by decide) ?_
  refine lv_iadd hx hb dL_law_297 ?_
  refine va_sld hx hb hX hbl hbA hS (hin 4 (by decide)) dL_law_298 ?_
  rw [ha4]
  refine lv_aload_n hx hb dL_law_299 rfl (lv_at hl 3 rfl) ?_
  refine lv_iload_n hx hb dL_law_300 rfl (lv_at hl 0 rfl) ?_
  refine lv_iconst (v := 5) hx hb dL_law_301 (by decide) ?_
  refine lv_iadd hx hb dL_law_302 ?_
  refine va_sld hx hb hX hbl hbA hS (hin 5 (by decide)) dL_law_303 ?_
  rw [ha5]
  refine dk_Vi (As := [.int a1, .int a2, .int a3, .int a4, .int a5]) (rest := []) ⟨hx, hb, hml, hown, hts⟩ (c_X5_copy_0 l g z I a1 a2 a3 a4 a5 hO) (cwV 5 hts gL_law_X5_copy rfl rfl rfl (by decide +kernel) ⟨Nat.le_of_ble_eq_true rfl, Nat.le_of_ble_eq_true rfl⟩) (dk_at0 hW) rfl hK hT hW hS rfl hl.1 rfl (Nat.le_of_ble_eq_true rfl) dL_law_304 ⟨Nat.le_of_ble_eq_true rfl, Nat.le_of_ble_eq_true rfl⟩ (fun v1 I1 H L hp1 hW hS => ?_)
  obtain ⟨hF1, hO, hc1⟩ := hp1
  have hP := dkPP_F hP hF1 rfl
  refine lv_pop hx hb dL_law_307 rfl ?_
  refine lv_aload_n hx hb dL_law_308 rfl (lv_at hl 1 rfl) ?_
  refine lv_aload_n hx hb dL_law_309 rfl (lv_at hl 3 rfl) ?_
  refine lv_iload_n hx hb dL_law_310 rfl (lv_at hl 0 rfl) ?_
  refine lv_iconst (v := 1) hx hb dL_law_311 (by decide) ?_
  refine lv_iadd hx hb dL_law_312 ?_
  refine va_sld hx hb hX hbl hbA hS (hin 1 (by decide)) dL_law_313 ?_
  rw [ha1]
  refine lv_aload_n hx hb dL_law_314 rfl (lv_at hl 3 rfl) ?_
  refine lv_iload_n hx hb dL_law_315 rfl (lv_at hl 0 rfl) ?_
  refine lv_iconst (v := 2) hx hb dL_law_316 (by decide) ?_
  refine lv_iadd hx hb dL_law_317 ?_
  refine va_sld hx hb hX hbl hbA hS (hin 2 (by decide)) dL_law_318 ?_
  rw [ha2]
  refine lv_aload_n hx hb dL_law_319 rfl (lv_at hl 3 rfl) ?_
  refine lv_iload_n hx hb dL_law_320 rfl (lv_at hl 0 rfl) ?_
  refine lv_iconst (v := 3) hx hb dL_law_321 (by decide) ?_
  refine lv_iadd hx hb dL_law_322 ?_
  refine va_sld hx hb hX hbl hbA hS (hin 3 (by decide)) dL_law_323 ?_
  rw [ha3]
  refine lv_aload_n hx hb dL_law_324 rfl (lv_at hl 3 rfl) ?_
  refine lv_iload_n hx hb dL_law_325 rfl (lv_at hl 0 rfl) ?_
  refine lv_iconst (v := 4) hx hb dL_law_326 (by decide) ?_
  refine lv_iadd hx hb dL_law_327 ?_
  refine va_sld hx hb hX hbl hbA hS (hin 4 (by decide)) dL_law_328 ?_
  rw [ha4]
  refine lv_aload_n hx hb dL_law_329 rfl (lv_at hl 3 rfl) ?_
  refine lv_iload_n hx hb dL_law_330 rfl (lv_at hl 0 rfl) ?_
  refine lv_iconst (v := 5) hx hb dL_law_331 (by decide) ?_
  refine lv_iadd hx hb dL_law_332 ?_
  refine va_sld hx hb hX hbl hbA hS (hin 5 (by decide)) dL_law_333 ?_
  rw [ha5]
  refine dk_Vi (As := [.int a1, .int a2, .int a3, .int a4, .int a5]) (rest := []) ⟨hx, hb, hml, hown, hts⟩ (c_X6_copy_0 l g z I1 a1 a2 a3 a4 a5 hO) (cwV 5 hts gL_law_X6_copy rfl rfl rfl (by decide +kernel) ⟨Nat.le_of_ble_eq_true rfl, Nat.le_of_ble_eq_true rfl⟩) (dk_at340 hW) rfl hK hT hW hS rfl hl.1 rfl (Nat.le_of_ble_eq_true rfl) dL_law_334 ⟨Nat.le_of_ble_eq_true rfl, Nat.le_of_ble_eq_true rfl⟩ (fun v2 I2 H L hp2 hW hS => ?_)
  obtain ⟨hF2, hO, hc2⟩ := hp2
  have hP := dkPP_F hP hF2 rfl
  refine lv_pop hx hb dL_law_337 rfl ?_
  refine lv_goto (tgt := 1302) hx hb dL_law_338 (by decide) ?_
  exact hend I2 _ _ ls hW ⟨hO, hP, ⟨(dkQQ_F (dkQQ_F hR.1 hF1 rfl) hF2 rfl), (dkTap_k hR.2.1 ((hF2 12 1 rfl).trans (hF1 12 1 rfl)) ((hF2 340 6 rfl).trans (hF1 340 6 rfl)) ((funext fun j => hF2 13 j rfl).trans (funext fun j => hF1 13 j rfl)) ((funext fun j => hF2 345 j rfl).trans (funext fun j => hF1 345 j rfl))), (dkNo_k hR.2.2.1 hO0 ((hF2 25 0 rfl).trans (hF1 25 0 rfl)) ((hF2 25 4 rfl).trans (hF1 25 4 rfl)) ((hF2 25 11 rfl).trans (hF1 25 11 rfl)) ((funext fun j => hF2 32 j rfl).trans (funext fun j => hF1 32 j rfl)) ((hF2 346 0 rfl).trans (hF1 346 0 rfl)) ((hF2 346 4 rfl).trans (hF1 346 4 rfl)) ((hF2 346 5 rfl).trans (hF1 346 5 rfl)) (fun j hj => by rcases (by omega : j = 0 ∨ j = 1 ∨ j = 2 ∨ j = 3 ∨ j = 4 ∨ j = 5) with rfl | rfl | rfl | rfl | rfl | rfl <;> exact (hF2 346 _ rfl).trans (hF1 346 _ rfl))), (dkIm_k (k := 0) hR.2.2.2.1 ((hF2 37 0 rfl).trans (hF1 37 0 rfl)) ((hF2 37 4 rfl).trans (hF1 37 4 rfl)) ((hF2 37 11 rfl).trans (hF1 37 11 rfl)) ((funext fun j => hF2 44 j rfl).trans (funext fun j => hF1 44 j rfl)) ((funext fun j => hF2 350 j rfl).trans (funext fun j => hF1 350 j rfl)) ((funext fun j => hF2 351 j rfl).trans (funext fun j => hF1 351 j rfl))), (dkIm_k (k := 1) hR.2.2.2.2.1 ((hF2 48 0 rfl).trans (hF1 48 0 rfl)) ((hF2 48 4 rfl).trans (hF1 48 4 rfl)) ((hF2 48 11 rfl).trans (hF1 48 11 rfl)) ((funext fun j => hF2 55 j rfl).trans (funext fun j => hF1 55 j rfl)) ((funext fun j => hF2 350 j rfl).trans (funext fun j => hF1 350 j rfl)) ((funext fun j => hF2 351 j rfl).trans (funext fun j => hF1 351 j rfl))), (dkTr_k hR.2.2.2.2.2 ((hF2 338 2 rfl).trans (hF1 338 2 rfl)) ((hF2 340 25 rfl).trans (hF1 340 25 rfl)) ((funext fun j => hF2 339 j rfl).trans (funext fun j => hF1 339 j rfl)) ((funext fun j => hF2 353 j rfl).trans (funext fun j => hF1 353 j rfl)))⟩⟩ hS hl

set_option maxHeartbeats 4000000 in
set_option maxRecDepth 100000 in
theorem k_drop {p : Program} {e : Env} {s : State} {m : MethodId} {below : List Frame} {meth : Method} {c : Code} (l : Launch) {b L z : Nat} {xs : Nat → Int32} {g : dkG} {Q : State → Prop} {H : Heap} {locs : List Loc} {ls : Array Slot} {I : dkI} {x : Int32} (hz0 : z = s.heap.size) (hx : p.tables.exec = Jvm.exec) (hb : c.code = code) (hml : c.maxLocals = 4) (hown : s.vm.findClass RL = some m.cls) (hts : ∀ w ∈ wsL_law, w.before #[Value.ref b] s = true) (hX : va_X b L xs s s.heap) (hbl : b < s.heap.size) (hL : L ≤ 448) (hx0 : 0 ≤ x.toInt) (hx1 : x.toInt + 7 ≤ (L : Int)) (hK : dkK g s) (hT : dkST z s) (hW : dkW g z I H) (hI : dkInv I) (hS : va_S (dkA z) s.heap H locs) (hl : lv_has ls 4 [(3, .int x), (2, .ref (z + 340)), (1, .ref (z + 0)), (0, .ref b)]) (hend : ∀ (I : dkI) (H : Heap) (locs : List Loc) (ls : Array Slot), dkW g z I H → dkInv I → va_S (dkA z) s.heap H locs → lv_has ls 4 [(3, .int x), (2, .ref (z + 340)), (1, .ref (z + 0)), (0, .ref b)] → W p l e room_1 s m #[Value.ref b] below meth c H locs (0 + 1 + 339 + 1 + 13) (0 + 10 + 2701 + 26 + 2055) Q (F0 m 1302 ls [])) : W p l e room_1 s m #[Value.ref b] below meth c H locs (0 + 1 + 339 + 1 + 13) (0 + 10 + 2701 + 26 + 2055) Q (F0 m 341 ls []) := by
  have hbA : ¬ dkA z b := by unfold dkA; omega
  obtain ⟨hO, hP, hR⟩ := hI
  have hO0 := hO
  have hP0 := hP
  have hin : ∀ k : Nat, k < 7 → vp_in (x + Int32.ofNat k) L := fun k hk => dk_lawIn hx0 hx1 hL hk
  obtain ⟨a1, ha1⟩ : ∃ y : Int32, xs (Int32.toNatClampNeg (x + 1)) = y := ⟨_, rfl⟩
  refine lv_aload_n hx hb dL_law_341 rfl (lv_at hl 2 rfl) ?_
  refine lv_aload_n hx hb dL_law_342 rfl (lv_at hl 3 rfl) ?_
  refine lv_iload_n hx hb dL_law_343 rfl (lv_at hl 0 rfl) ?_
  refine lv_iconst (v := 1) hx hb dL_law_344 (by decide) ?_
  refine lv_iadd hx hb dL_law_345 ?_
  refine va_sld hx hb hX hbl hbA hS (hin 1 (by decide)) dL_law_346 ?_
  rw [ha1]
  refine dk_Vi (As := [.int a1]) (rest := []) ⟨hx, hb, hml, hown, hts⟩ (c_X5_drop_0 l g z I a1 hO) (cwV 1 hts gL_law_X5_drop rfl rfl rfl (by decide +kernel) ⟨Nat.le_of_ble_eq_true rfl, Nat.le_of_ble_eq_true rfl⟩) (dk_at0 hW) rfl hK hT hW hS rfl hl.1 rfl (Nat.le_of_ble_eq_true rfl) dL_law_347 ⟨Nat.le_of_ble_eq_true rfl, Nat.le_of_ble_eq_true rfl⟩ (fun v1 I1 H L hp1 hW hS => ?_)
  obtain ⟨hF1, hO, hc1⟩ := hp1
  have hP := dkPP_F hP hF1 rfl
  refine lv_pop hx hb dL_law_350 rfl ?_
  refine lv_aload_n hx hb dL_law_351 rfl (lv_at hl 1 rfl) ?_
  refine lv_aload_n hx hb dL_law_352 rfl (lv_at hl 3 rfl) ?_
  refine lv_iload_n hx hb dL_law_353 rfl (lv_at hl 0 rfl) ?_
  refine lv_iconst (v := 1) hx hb dL_law_354 (by decide) ?_
  refine lv_iadd hx hb dL_law_355 ?_
  refine va_sld hx hb hX hbl hbA hS (hin 1 (by decide)) dL_law_356 ?_
  rw [ha1]
  refine dk_Vi (As := [.int a1]) (rest := []) ⟨hx, hb, hml, hown, hts⟩ (c_X6_drop_0 l g z I1 a1 hO) (cwV 1 hts gL_law_X6_drop rfl rfl rfl (by decide +kernel) ⟨Nat.le_of_ble_eq_true rfl, Nat.le_of_ble_eq_true rfl⟩) (dk_at340 hW) rfl hK hT hW hS rfl hl.1 rfl (Nat.le_of_ble_eq_true rfl) dL_law_357 ⟨Nat.le_of_ble_eq_true rfl, Nat.le_of_ble_eq_true rfl⟩ (fun v2 I2 H L hp2 hW hS => ?_)
  obtain ⟨hF2, hO, hc2⟩ := hp2
  have hP := dkPP_F hP hF2 rfl
  refine lv_pop hx hb dL_law_360 rfl ?_
  refine lv_goto (tgt := 1302) hx hb dL_law_361 (by decide) ?_
  exact hend I2 _ _ ls hW ⟨hO, hP, ⟨(dkQQ_F (dkQQ_F hR.1 hF1 rfl) hF2 rfl), (dkTap_k hR.2.1 ((hF2 12 1 rfl).trans (hF1 12 1 rfl)) ((hF2 340 6 rfl).trans (hF1 340 6 rfl)) ((funext fun j => hF2 13 j rfl).trans (funext fun j => hF1 13 j rfl)) ((funext fun j => hF2 345 j rfl).trans (funext fun j => hF1 345 j rfl))), (dkNo_k hR.2.2.1 hO0 ((hF2 25 0 rfl).trans (hF1 25 0 rfl)) ((hF2 25 4 rfl).trans (hF1 25 4 rfl)) ((hF2 25 11 rfl).trans (hF1 25 11 rfl)) ((funext fun j => hF2 32 j rfl).trans (funext fun j => hF1 32 j rfl)) ((hF2 346 0 rfl).trans (hF1 346 0 rfl)) ((hF2 346 4 rfl).trans (hF1 346 4 rfl)) ((hF2 346 5 rfl).trans (hF1 346 5 rfl)) (fun j hj => by rcases (by omega : j = 0 ∨ j = 1 ∨ j = 2 ∨ j = 3 ∨ j = 4 ∨ j = 5) with rfl | rfl | rfl | rfl | rfl | rfl <;> exact (hF2 346 _ rfl).trans (hF1 346 _ rfl))), (dkIm_k (k := 0) hR.2.2.2.1 ((hF2 37 0 rfl).trans (hF1 37 0 rfl)) ((hF2 37 4 rfl).trans (hF1 37 4 rfl)) ((hF2 37 11 rfl).trans (hF1 37 11 rfl)) ((funext fun j => hF2 44 j rfl).trans (funext fun j => hF1 44 j rfl)) ((funext fun j => hF2 350 j rfl).trans (funext fun j => hF1 350 j rfl)) ((funext fun j => hF2 351 j rfl).trans (funext fun j => hF1 351 j rfl))), (dkIm_k (k := 1) hR.2.2.2.2.1 ((hF2 48 0 rfl).trans (hF1 48 0 rfl)) ((hF2 48 4 rfl).trans (hF1 48 4 rfl)) ((hF2 48 11 rfl).trans (hF1 48 11 rfl)) ((funext fun j => hF2 55 j rfl).trans (funext fun j => hF1 55 j rfl)) ((funext fun j => hF2 350 j rfl).trans (funext fun j => hF1 350 j rfl)) ((funext fun j => hF2 351 j rfl).trans (funext fun j => hF1 351 j rfl))), (dkTr_k hR.2.2.2.2.2 ((hF2 338 2 rfl).trans (hF1 338 2 rfl)) ((hF2 340 25 rfl).trans (hF1 340 25 rfl)) ((funext fun j => hF2 339 j rfl).trans (funext fun j => hF1 339 j rfl)) ((funext fun j => hF2 353 j rfl).trans (funext fun j => hF1 353 j rfl)))⟩⟩ hS hl

set_option maxHeartbeats 4000000 in
set_option maxRecDepth 100000 in
theorem k_feed {p : Program} {e : Env} {s : State} {m : MethodId} {below : List Frame} {meth : Method} {c : Code} (l : Launch) {b L z : Nat} {xs : Nat → Int32} {g : dkG} {Q : State → Prop} {H : Heap} {locs : List Loc} {ls : Array Slot} {I : dkI} {x : Int32} (hz0 : z = s.heap.size) (hx : p.tables.exec = Jvm.exec) (hb : c.code = code) (hml : c.maxLocals = 4) (hown : s.vm.findClass RL = some m.cls) (hts : ∀ w ∈ wsL_law, w.before #[Value.ref b] s = true) (hX : va_X b L xs s s.heap) (hbl : b < s.heap.size) (hL : L ≤ 448) (hx0 : 0 ≤ x.toInt) (hx1 : x.toInt + 7 ≤ (L : Int)) (hK : dkK g s) (hT : dkST z s) (hW : dkW g z I H) (hI : dkInv I) (hS : va_S (dkA z) s.heap H locs) (hl : lv_has ls 4 [(3, .int x), (2, .ref (z + 340)), (1, .ref (z + 0)), (0, .ref b)]) (hend : ∀ (I : dkI) (H : Heap) (locs : List Loc) (ls : Array Slot), dkW g z I H → dkInv I → va_S (dkA z) s.heap H locs → lv_has ls 4 [(3, .int x), (2, .ref (z + 340)), (1, .ref (z + 0)), (0, .ref b)] → W p l e room_1 s m #[Value.ref b] below meth c H locs (0 + 1 + 339 + 1 + 13) (0 + 10 + 2701 + 26 + 2055) Q (F0 m 1302 ls [])) : W p l e room_1 s m #[Value.ref b] below meth c H locs (0 + 1 + 339 + 1 + 13) (0 + 10 + 2701 + 26 + 2055) Q (F0 m 364 ls []) := by
  have hbA : ¬ dkA z b := by unfold dkA; omega
  obtain ⟨hO, hP, hR⟩ := hI
  have hO0 := hO
  have hP0 := hP
  have hin : ∀ k : Nat, k < 7 → vp_in (x + Int32.ofNat k) L := fun k hk => dk_lawIn hx0 hx1 hL hk
  obtain ⟨a1, ha1⟩ : ∃ y : Int32, xs (Int32.toNatClampNeg (x + 1)) = y := ⟨_, rfl⟩
  refine lv_aload_n hx hb dL_law_364 rfl (lv_at hl 2 rfl) ?_
  refine lv_aload_n hx hb dL_law_365 rfl (lv_at hl 3 rfl) ?_
  refine lv_iload_n hx hb dL_law_366 rfl (lv_at hl 0 rfl) ?_
  refine lv_iconst (v := 1) hx hb dL_law_367 (by decide) ?_
  refine lv_iadd hx hb dL_law_368 ?_
  refine va_sld hx hb hX hbl hbA hS (hin 1 (by decide)) dL_law_369 ?_
  rw [ha1]
  refine dk_Vi (As := [.int a1]) (rest := []) ⟨hx, hb, hml, hown, hts⟩ (fx_X5_feed_1 l g z I a1 hO) (cwV 1 hts gL_law_X5_feed rfl rfl rfl (by decide +kernel) ⟨Nat.le_of_ble_eq_true rfl, Nat.le_of_ble_eq_true rfl⟩) (dk_at0 hW) rfl hK hT hW hS rfl hl.1 rfl (Nat.le_of_ble_eq_true rfl) dL_law_370 ⟨Nat.le_of_ble_eq_true rfl, Nat.le_of_ble_eq_true rfl⟩ (fun v1 I1 H L hp1 hW hS => ?_)
  obtain ⟨hF1, hO, hc1⟩ := hp1
  have hP := dkPP_F hP hF1 rfl
  refine lv_pop hx hb dL_law_373 rfl ?_
  refine lv_aload_n hx hb dL_law_374 rfl (lv_at hl 1 rfl) ?_
  refine lv_aload_n hx hb dL_law_375 rfl (lv_at hl 3 rfl) ?_
  refine lv_iload_n hx hb dL_law_376 rfl (lv_at hl 0 rfl) ?_
  refine lv_iconst (v := 1) hx hb dL_law_377 (by decide) ?_
  refine lv_iadd hx hb dL_law_378 ?_
  refine va_sld hx hb hX hbl hbA hS (hin 1 (by decide)) dL_law_379 ?_
  rw [ha1]
  refine dk_Vi (As := [.int a1]) (rest := []) ⟨hx, hb, hml, hown, hts⟩ (fx_X6_feed_1 l g z I1 a1 hO) (cwV 1 hts gL_law_X6_feed rfl rfl rfl (by decide +kernel) ⟨Nat.le_of_ble_eq_true rfl, Nat.le_of_ble_eq_true rfl⟩) (dk_at340 hW) rfl hK hT hW hS rfl hl.1 rfl (Nat.le_of_ble_eq_true rfl) dL_law_380 ⟨Nat.le_of_ble_eq_true rfl, Nat.le_of_ble_eq_true rfl⟩ (fun v2 I2 H L hp2 hW hS => ?_)
  obtain ⟨hF2, hO, hc2⟩ := hp2
  have hP := dkPP_F hP hF2 rfl
  refine lv_pop hx hb dL_law_383 rfl ?_
  refine lv_goto (tgt := 1302) hx hb dL_law_384 (by decide) ?_
  exact hend I2 _ _ ls hW ⟨hO, hP, ⟨(dkQQ_F (dkQQ_F hR.1 hF1 rfl) hF2 rfl), (dkr_feed hR.2.1 hO0 hF1 hF2 hc1 hc2).2, (dkNo_k hR.2.2.1 hO0 ((hF2 25 0 rfl).trans (hF1 25 0 rfl)) ((hF2 25 4 rfl).trans (hF1 25 4 rfl)) ((hF2 25 11 rfl).trans (hF1 25 11 rfl)) ((funext fun j => hF2 32 j rfl).trans (funext fun j => hF1 32 j rfl)) ((hF2 346 0 rfl).trans (hF1 346 0 rfl)) ((hF2 346 4 rfl).trans (hF1 346 4 rfl)) ((hF2 346 5 rfl).trans (hF1 346 5 rfl)) (fun j hj => by rcases (by omega : j = 0 ∨ j = 1 ∨ j = 2 ∨ j = 3 ∨ j = 4 ∨ j = 5) with rfl | rfl | rfl | rfl | rfl | rfl <;> exact (hF2 346 _ rfl).trans (hF1 346 _ rfl))), (dkIm_k (k := 0) hR.2.2.2.1 ((hF2 37 0 rfl).trans (hF1 37 0 rfl)) ((hF2 37 4 rfl).trans (hF1 37 4 rfl)) ((hF2 37 11 rfl).trans (hF1 37 11 rfl)) ((funext fun j => hF2 44 j rfl).trans (funext fun j => hF1 44 j rfl)) ((funext fun j => hF2 350 j rfl).trans (funext fun j => hF1 350 j rfl)) ((funext fun j => hF2 351 j rfl).trans (funext fun j => hF1 351 j rfl))), (dkIm_k (k := 1) hR.2.2.2.2.1 ((hF2 48 0 rfl).trans (hF1 48 0 rfl)) ((hF2 48 4 rfl).trans (hF1 48 4 rfl)) ((hF2 48 11 rfl).trans (hF1 48 11 rfl)) ((funext fun j => hF2 55 j rfl).trans (funext fun j => hF1 55 j rfl)) ((funext fun j => hF2 350 j rfl).trans (funext fun j => hF1 350 j rfl)) ((funext fun j => hF2 351 j rfl).trans (funext fun j => hF1 351 j rfl))), (dkTr_k hR.2.2.2.2.2 ((hF2 338 2 rfl).trans (hF1 338 2 rfl)) ((hF2 340 25 rfl).trans (hF1 340 25 rfl)) ((funext fun j => hF2 339 j rfl).trans (funext fun j => hF1 339 j rfl)) ((funext fun j => hF2 353 j rfl).trans (funext fun j => hF1 353 j rfl)))⟩⟩ hS hl

set_option maxHeartbeats 4000000 in
set_option maxRecDepth 100000 in
theorem k_town {p : Program} {e : Env} {s : State} {m : MethodId} {below : List Frame} {meth : Method} {c : Code} (l : Launch) {b L z : Nat} {xs : Nat → Int32} {g : dkG} {Q : State → Prop} {H : Heap} {locs : List Loc} {ls : Array Slot} {I : dkI} {x : Int32} (hz0 : z = s.heap.size) (hx : p.tables.exec = Jvm.exec) (hb : c.code = code) (hml : c.maxLocals = 4) (hown : s.vm.findClass RL = some m.cls) (hts : ∀ w ∈ wsL_law, w.before #[Value.ref b] s = true) (hX : va_X b L xs s s.heap) (hbl : b < s.heap.size) (hL : L ≤ 448) (hx0 : 0 ≤ x.toInt) (hx1 : x.toInt + 7 ≤ (L : Int)) (hK : dkK g s) (hT : dkST z s) (hW : dkW g z I H) (hI : dkInv I) (hS : va_S (dkA z) s.heap H locs) (hl : lv_has ls 4 [(3, .int x), (2, .ref (z + 340)), (1, .ref (z + 0)), (0, .ref b)]) (hend : ∀ (I : dkI) (H : Heap) (locs : List Loc) (ls : Array Slot), dkW g z I H → dkInv I → va_S (dkA z) s.heap H locs → lv_has ls 4 [(3, .int x), (2, .ref (z + 340)), (1, .ref (z + 0)), (0, .ref b)] → W p l e room_1 s m #[Value.ref b] below meth c H locs (0 + 1 + 339 + 1 + 13) (0 + 10 + 2701 + 26 + 2055) Q (F0 m 1302 ls [])) : W p l e room_1 s m #[Value.ref b] below meth c H locs (0 + 1 + 339 + 1 + 13) (0 + 10 + 2701 + 26 + 2055) Q (F0 m 387 ls []) := by
  have hbA : ¬ dkA z b := by unfold dkA; omega
  obtain ⟨hO, hP, hR⟩ := hI
  have hO0 := hO
  have hP0 := hP
  have hin : ∀ k : Nat, k < 7 → vp_in (x + Int32.ofNat k) L := fun k hk => dk_lawIn hx0 hx1 hL hk
  refine lv_aload_n hx hb dL_law_387 rfl (lv_at hl 2 rfl) ?_
  refine dk_Vi (As := []) (rest := []) ⟨hx, hb, hml, hown, hts⟩ (fx_X5_town_1 l g z I hO hR.1) (cwV 0 hts gL_law_X5_town rfl rfl rfl (by decide +kernel) ⟨Nat.le_of_ble_eq_true rfl, Nat.le_of_ble_eq_true rfl⟩) (dk_at0 hW) rfl hK hT hW hS rfl hl.1 rfl (Nat.le_of_ble_eq_true rfl) dL_law_388 ⟨Nat.le_of_ble_eq_true rfl, Nat.le_of_ble_eq_true rfl⟩ (fun v1 I1 H L hp1 hW hS => ?_)
  obtain ⟨hF1, hO, hQ, hc1⟩ := hp1
  have hP := dkPP_F hP hF1 rfl
  refine lv_pop hx hb dL_law_391 rfl ?_
  refine lv_aload_n hx hb dL_law_392 rfl (lv_at hl 1 rfl) ?_
  refine dk_Vi (As := []) (rest := []) ⟨hx, hb, hml, hown, hts⟩ (fx_X6_town_1 l g z I1 hO hP) (cwV 0 hts gL_law_X6_town rfl rfl rfl (by decide +kernel) ⟨Nat.le_of_ble_eq_true rfl, Nat.le_of_ble_eq_true rfl⟩) (dk_at340 hW) rfl hK hT hW hS rfl hl.1 rfl (Nat.le_of_ble_eq_true rfl) dL_law_393 ⟨Nat.le_of_ble_eq_true rfl, Nat.le_of_ble_eq_true rfl⟩ (fun v2 I2 H L hp2 hW hS => ?_)
  obtain ⟨hF2, hO, hP, hc2⟩ := hp2
  refine lv_pop hx hb dL_law_396 rfl ?_
  refine lv_goto (tgt := 1302) hx hb dL_law_397 (by decide) ?_
  exact hend I2 _ _ ls hW ⟨hO, hP, ⟨(dkQQ_F hQ hF2 rfl), (dkr_town hR.2.1 hR.2.2.1 hO0 hF1 hF2 hc1 hc2).2.1, (dkr_town hR.2.1 hR.2.2.1 hO0 hF1 hF2 hc1 hc2).2.2, (dkIm_k (k := 0) hR.2.2.2.1 ((hF2 37 0 rfl).trans (hF1 37 0 rfl)) ((hF2 37 4 rfl).trans (hF1 37 4 rfl)) ((hF2 37 11 rfl).trans (hF1 37 11 rfl)) ((funext fun j => hF2 44 j rfl).trans (funext fun j => hF1 44 j rfl)) ((funext fun j => hF2 350 j rfl).trans (funext fun j => hF1 350 j rfl)) ((funext fun j => hF2 351 j rfl).trans (funext fun j => hF1 351 j rfl))), (dkIm_k (k := 1) hR.2.2.2.2.1 ((hF2 48 0 rfl).trans (hF1 48 0 rfl)) ((hF2 48 4 rfl).trans (hF1 48 4 rfl)) ((hF2 48 11 rfl).trans (hF1 48 11 rfl)) ((funext fun j => hF2 55 j rfl).trans (funext fun j => hF1 55 j rfl)) ((funext fun j => hF2 350 j rfl).trans (funext fun j => hF1 350 j rfl)) ((funext fun j => hF2 351 j rfl).trans (funext fun j => hF1 351 j rfl))), (dkTr_k hR.2.2.2.2.2 ((hF2 338 2 rfl).trans (hF1 338 2 rfl)) ((hF2 340 25 rfl).trans (hF1 340 25 rfl)) ((funext fun j => hF2 339 j rfl).trans (funext fun j => hF1 339 j rfl)) ((funext fun j => hF2 353 j rfl).trans (funext fun j => hF1 353 j rfl)))⟩⟩ hS hl

set_option maxHeartbeats 4000000 in
set_option maxRecDepth 100000 in
theorem k_fault {p : Program} {e : Env} {s : State} {m : MethodId} {below : List Frame} {meth : Method} {c : Code} (l : Launch) {b L z : Nat} {xs : Nat → Int32} {g : dkG} {Q : State → Prop} {H : Heap} {locs : List Loc} {ls : Array Slot} {I : dkI} {x : Int32} (hz0 : z = s.heap.size) (hx : p.tables.exec = Jvm.exec) (hb : c.code = code) (hml : c.maxLocals = 4) (hown : s.vm.findClass RL = some m.cls) (hts : ∀ w ∈ wsL_law, w.before #[Value.ref b] s = true) (hX : va_X b L xs s s.heap) (hbl : b < s.heap.size) (hL : L ≤ 448) (hx0 : 0 ≤ x.toInt) (hx1 : x.toInt + 7 ≤ (L : Int)) (hK : dkK g s) (hT : dkST z s) (hW : dkW g z I H) (hI : dkInv I) (hS : va_S (dkA z) s.heap H locs) (hl : lv_has ls 4 [(3, .int x), (2, .ref (z + 340)), (1, .ref (z + 0)), (0, .ref b)]) (hend : ∀ (I : dkI) (H : Heap) (locs : List Loc) (ls : Array Slot), dkW g z I H → dkInv I → va_S (dkA z) s.heap H locs → lv_has ls 4 [(3, .int x), (2, .ref (z + 340)), (1, .ref (z + 0)), (0, .ref b)] → W p l e room_1 s m #[Value.ref b] below meth c H locs (0 + 1 + 339 + 1 + 13) (0 + 10 + 2701 + 26 + 2055) Q (F0 m 1302 ls [])) : W p l e room_1 s m #[Value.ref b] below meth c H locs (0 + 1 + 339 + 1 + 13) (0 + 10 + 2701 + 26 + 2055) Q (F0 m 400 ls []) := by
  have hbA : ¬ dkA z b := by unfold dkA; omega
  obtain ⟨hO, hP, hR⟩ := hI
  have hO0 := hO
  have hP0 := hP
  have hin : ∀ k : Nat, k < 7 → vp_in (x + Int32.ofNat k) L := fun k hk => dk_lawIn hx0 hx1 hL hk
  refine lv_aload_n hx hb dL_law_400 rfl (lv_at hl 2 rfl) ?_
  refine dk_Vi (As := []) (rest := []) ⟨hx, hb, hml, hown, hts⟩ (c_X5_fault_0 l g z I hO) (cwV 0 hts gL_law_X5_fault rfl rfl rfl (by decide +kernel) ⟨Nat.le_of_ble_eq_true rfl, Nat.le_of_ble_eq_true rfl⟩) (dk_at0 hW) rfl hK hT hW hS rfl hl.1 rfl (Nat.le_of_ble_eq_true rfl) dL_law_401 ⟨Nat.le_of_ble_eq_true rfl, Nat.le_of_ble_eq_true rfl⟩ (fun v1 I1 H L hp1 hW hS => ?_)
  obtain ⟨hF1, hO, hc1⟩ := hp1
  have hP := dkPP_F hP hF1 rfl
  refine lv_pop hx hb dL_law_404 rfl ?_
  refine lv_aload_n hx hb dL_law_405 rfl (lv_at hl 1 rfl) ?_
  refine dk_Vi (As := []) (rest := []) ⟨hx, hb, hml, hown, hts⟩ (c_X6_fault_0 l g z I1 hO) (cwV 0 hts gL_law_X6_fault rfl rfl rfl (by decide +kernel) ⟨Nat.le_of_ble_eq_true rfl, Nat.le_of_ble_eq_true rfl⟩) (dk_at340 hW) rfl hK hT hW hS rfl hl.1 rfl (Nat.le_of_ble_eq_true rfl) dL_law_406 ⟨Nat.le_of_ble_eq_true rfl, Nat.le_of_ble_eq_true rfl⟩ (fun v2 I2 H L hp2 hW hS => ?_)
  obtain ⟨hF2, hO, hc2⟩ := hp2
  have hP := dkPP_F hP hF2 rfl
  refine lv_pop hx hb dL_law_409 rfl ?_
  refine lv_goto (tgt := 1302) hx hb dL_law_410 (by decide) ?_
  exact hend I2 _ _ ls hW ⟨hO, hP, ⟨(dkQQ_F (dkQQ_F hR.1 hF1 rfl) hF2 rfl), (dkTap_k hR.2.1 ((hF2 12 1 rfl).trans (hF1 12 1 rfl)) ((hF2 340 6 rfl).trans (hF1 340 6 rfl)) ((funext fun j => hF2 13 j rfl).trans (funext fun j => hF1 13 j rfl)) ((funext fun j => hF2 345 j rfl).trans (funext fun j => hF1 345 j rfl))), (dkNo_k hR.2.2.1 hO0 ((hF2 25 0 rfl).trans (hF1 25 0 rfl)) ((hF2 25 4 rfl).trans (hF1 25 4 rfl)) ((hF2 25 11 rfl).trans (hF1 25 11 rfl)) ((funext fun j => hF2 32 j rfl).trans (funext fun j => hF1 32 j rfl)) ((hF2 346 0 rfl).trans (hF1 346 0 rfl)) ((hF2 346 4 rfl).trans (hF1 346 4 rfl)) ((hF2 346 5 rfl).trans (hF1 346 5 rfl)) (fun j hj => by rcases (by omega : j = 0 ∨ j = 1 ∨ j = 2 ∨ j = 3 ∨ j = 4 ∨ j = 5) with rfl | rfl | rfl | rfl | rfl | rfl <;> exact (hF2 346 _ rfl).trans (hF1 346 _ rfl))), (dkIm_k (k := 0) hR.2.2.2.1 ((hF2 37 0 rfl).trans (hF1 37 0 rfl)) ((hF2 37 4 rfl).trans (hF1 37 4 rfl)) ((hF2 37 11 rfl).trans (hF1 37 11 rfl)) ((funext fun j => hF2 44 j rfl).trans (funext fun j => hF1 44 j rfl)) ((funext fun j => hF2 350 j rfl).trans (funext fun j => hF1 350 j rfl)) ((funext fun j => hF2 351 j rfl).trans (funext fun j => hF1 351 j rfl))), (dkIm_k (k := 1) hR.2.2.2.2.1 ((hF2 48 0 rfl).trans (hF1 48 0 rfl)) ((hF2 48 4 rfl).trans (hF1 48 4 rfl)) ((hF2 48 11 rfl).trans (hF1 48 11 rfl)) ((funext fun j => hF2 55 j rfl).trans (funext fun j => hF1 55 j rfl)) ((funext fun j => hF2 350 j rfl).trans (funext fun j => hF1 350 j rfl)) ((funext fun j => hF2 351 j rfl).trans (funext fun j => hF1 351 j rfl))), (dkTr_k hR.2.2.2.2.2 ((hF2 338 2 rfl).trans (hF1 338 2 rfl)) ((hF2 340 25 rfl).trans (hF1 340 25 rfl)) ((funext fun j => hF2 339 j rfl).trans (funext fun j => hF1 339 j rfl)) ((funext fun j => hF2 353 j rfl).trans (funext fun j => hF1 353 j rfl)))⟩⟩ hS hl

set_option maxHeartbeats 4000000 in
set_option maxRecDepth 100000 in
theorem k_minutes {p : Program} {e : Env} {s : State} {m : MethodId} {below : List Frame} {meth : Method} {c : Code} (l : Launch) {b L z : Nat} {xs : Nat → Int32} {g : dkG} {Q : State → Prop} {H : Heap} {locs : List Loc} {ls : Array Slot} {I : dkI} {x : Int32} (hz0 : z = s.heap.size) (hx : p.tables.exec = Jvm.exec) (hb : c.code = code) (hml : c.maxLocals = 4) (hown : s.vm.findClass RL = some m.cls) (hts : ∀ w ∈ wsL_law, w.before #[Value.ref b] s = true) (hX : va_X b L xs s s.heap) (hbl : b < s.heap.size) (hL : L ≤ 448) (hx0 : 0 ≤ x.toInt) (hx1 : x.toInt + 7 ≤ (L : Int)) (hK : dkK g s) (hT : dkST z s) (hW : dkW g z I H) (hI : dkInv I) (hS : va_S (dkA z) s.heap H locs) (hl : lv_has ls 4 [(3, .int x), (2, .ref (z + 340)), (1, .ref (z + 0)), (0, .ref b)]) (hend : ∀ (I : dkI) (H : Heap) (locs : List Loc) (ls : Array Slot), dkW g z I H → dkInv I → va_S (dkA z) s.heap H locs → lv_has ls 4 [(3, .int x), (2, .ref (z + 340)), (1, .ref (z + 0)), (0, .ref b)] → W p l e room_1 s m #[Value.ref b] below meth c H locs (0 + 1 + 339 + 1 + 13) (0 + 10 + 2701 + 26 + 2055) Q (F0 m 1302 ls [])) : W p l e room_1 s m #[Value.ref b] below meth c H locs (0 + 1 + 339 + 1 + 13) (0 + 10 + 2701 + 26 + 2055) Q (F0 m 413 ls []) := by
  have hbA : ¬ dkA z b := by unfold dkA; omega
  obtain ⟨hO, hP, hR⟩ := hI
  have hO0 := hO
  have hP0 := hP
  have hin : ∀ k : Nat, k < 7 → vp_in (x + Int32.ofNat k) L := fun k hk => dk_lawIn hx0 hx1 hL hk
  obtain ⟨a1, ha1⟩ : ∃ y : Int32, xs (Int32.toNatClampNeg (x + 1)) = y := ⟨_, rfl⟩
  refine lv_aload_n hx hb dL_law_413 rfl (lv_at hl 2 rfl) ?_
  refine lv_aload_n hx hb dL_law_414 rfl (lv_at hl 3 rfl) ?_
  refine lv_iload_n hx hb dL_law_415 rfl (lv_at hl 0 rfl) ?_
  refine lv_iconst (v := 1) hx hb dL_law_416 (by decide) ?_
  refine lv_iadd hx hb dL_law_417 ?_
  refine va_sld hx hb hX hbl hbA hS (hin 1 (by decide)) dL_law_418 ?_
  rw [ha1]
  refine dk_Vi (As := [.int a1]) (rest := []) ⟨hx, hb, hml, hown, hts⟩ (c_X5_minutes_1 l g z I a1 hO hR.1) (cwV 1 hts gL_law_X5_minutes rfl rfl rfl (by decide +kernel) ⟨Nat.le_of_ble_eq_true rfl, Nat.le_of_ble_eq_true rfl⟩) (dk_at0 hW) rfl hK hT hW hS rfl hl.1 rfl (Nat.le_of_ble_eq_true rfl) dL_law_419 ⟨Nat.le_of_ble_eq_true rfl, Nat.le_of_ble_eq_true rfl⟩ (fun v1 I1 H L hp1 hW hS => ?_)
  obtain ⟨hF1, hO, hQ, hc1⟩ := hp1
  have hP := dkPP_F hP hF1 rfl
  refine lv_pop hx hb dL_law_422 rfl ?_
  refine lv_aload_n hx hb dL_law_423 rfl (lv_at hl 1 rfl) ?_
  refine lv_aload_n hx hb dL_law_424 rfl (lv_at hl 3 rfl) ?_
  refine lv_iload_n hx hb dL_law_425 rfl (lv_at hl 0 rfl) ?_
  refine lv_iconst (v := 1) hx hb dL_law_426 (by decide) ?_
  refine lv_iadd hx hb dL_law_427 ?_
  refine va_sld hx hb hX hbl hbA hS (hin 1 (by decide)) dL_law_428 ?_
  rw [ha1]
  refine dk_Vi (As := [.int a1]) (rest := []) ⟨hx, hb, hml, hown, hts⟩ (c_X6_minutes_0 l g z I1 a1 hO hP) (cwV 1 hts gL_law_X6_minutes rfl rfl rfl (by decide +kernel) ⟨Nat.le_of_ble_eq_true rfl, Nat.le_of_ble_eq_true rfl⟩) (dk_at340 hW) rfl hK hT hW hS rfl hl.1 rfl (Nat.le_of_ble_eq_true rfl) dL_law_429 ⟨Nat.le_of_ble_eq_true rfl, Nat.le_of_ble_eq_true rfl⟩ (fun v2 I2 H L hp2 hW hS => ?_)
  obtain ⟨hF2, hO, hP, hc2⟩ := hp2
  refine lv_pop hx hb dL_law_432 rfl ?_
  refine lv_goto (tgt := 1302) hx hb dL_law_433 (by decide) ?_
  exact hend I2 _ _ ls hW ⟨hO, hP, ⟨(dkQQ_F hQ hF2 rfl), (dkTap_k hR.2.1 ((hF2 12 1 rfl).trans (hF1 12 1 rfl)) ((hF2 340 6 rfl).trans (hF1 340 6 rfl)) ((funext fun j => hF2 13 j rfl).trans (funext fun j => hF1 13 j rfl)) ((funext fun j => hF2 345 j rfl).trans (funext fun j => hF1 345 j rfl))), (dkNo_k hR.2.2.1 hO0 ((hF2 25 0 rfl).trans (hF1 25 0 rfl)) ((hF2 25 4 rfl).trans (hF1 25 4 rfl)) ((hF2 25 11 rfl).trans (hF1 25 11 rfl)) ((funext fun j => hF2 32 j rfl).trans (funext fun j => hF1 32 j rfl)) ((hF2 346 0 rfl).trans (hF1 346 0 rfl)) ((hF2 346 4 rfl).trans (hF1 346 4 rfl)) ((hF2 346 5 rfl).trans (hF1 346 5 rfl)) (fun j hj => by rcases (by omega : j = 0 ∨ j = 1 ∨ j = 2 ∨ j = 3 ∨ j = 4 ∨ j = 5) with rfl | rfl | rfl | rfl | rfl | rfl <;> exact (hF2 346 _ rfl).trans (hF1 346 _ rfl))), (dkIm_k (k := 0) hR.2.2.2.1 ((hF2 37 0 rfl).trans (hF1 37 0 rfl)) ((hF2 37 4 rfl).trans (hF1 37 4 rfl)) ((hF2 37 11 rfl).trans (hF1 37 11 rfl)) ((funext fun j => hF2 44 j rfl).trans (funext fun j => hF1 44 j rfl)) ((funext fun j => hF2 350 j rfl).trans (funext fun j => hF1 350 j rfl)) ((funext fun j => hF2 351 j rfl).trans (funext fun j => hF1 351 j rfl))), (dkIm_k (k := 1) hR.2.2.2.2.1 ((hF2 48 0 rfl).trans (hF1 48 0 rfl)) ((hF2 48 4 rfl).trans (hF1 48 4 rfl)) ((hF2 48 11 rfl).trans (hF1 48 11 rfl)) ((funext fun j => hF2 55 j rfl).trans (funext fun j => hF1 55 j rfl)) ((funext fun j => hF2 350 j rfl).trans (funext fun j => hF1 350 j rfl)) ((funext fun j => hF2 351 j rfl).trans (funext fun j => hF1 351 j rfl))), (dkTr_k hR.2.2.2.2.2 ((hF2 338 2 rfl).trans (hF1 338 2 rfl)) ((hF2 340 25 rfl).trans (hF1 340 25 rfl)) ((funext fun j => hF2 339 j rfl).trans (funext fun j => hF1 339 j rfl)) ((funext fun j => hF2 353 j rfl).trans (funext fun j => hF1 353 j rfl)))⟩⟩ hS hl

set_option maxHeartbeats 4000000 in
set_option maxRecDepth 100000 in
theorem k_bones {p : Program} {e : Env} {s : State} {m : MethodId} {below : List Frame} {meth : Method} {c : Code} (l : Launch) {b L z : Nat} {xs : Nat → Int32} {g : dkG} {Q : State → Prop} {H : Heap} {locs : List Loc} {ls : Array Slot} {I : dkI} {x : Int32} (hz0 : z = s.heap.size) (hx : p.tables.exec = Jvm.exec) (hb : c.code = code) (hml : c.maxLocals = 4) (hown : s.vm.findClass RL = some m.cls) (hts : ∀ w ∈ wsL_law, w.before #[Value.ref b] s = true) (hX : va_X b L xs s s.heap) (hbl : b < s.heap.size) (hL : L ≤ 448) (hx0 : 0 ≤ x.toInt) (hx1 : x.toInt + 7 ≤ (L : Int)) (hK : dkK g s) (hT : dkST z s) (hW : dkW g z I H) (hI : dkInv I) (hS : va_S (dkA z) s.heap H locs) (hl : lv_has ls 4 [(3, .int x), (2, .ref (z + 340)), (1, .ref (z + 0)), (0, .ref b)]) (hend : ∀ (I : dkI) (H : Heap) (locs : List Loc) (ls : Array Slot), dkW g z I H → dkInv I → va_S (dkA z) s.heap H locs → lv_has ls 4 [(3, .int x), (2, .ref (z + 340)), (1, .ref (z + 0)), (0, .ref b)] → W p l e room_1 s m #[Value.ref b] below meth c H locs (0 + 1 + 339 + 1 + 13) (0 + 10 + 2701 + 26 + 2055) Q (F0 m 1302 ls [])) : W p l e room_1 s m #[Value.ref b] below meth c H locs (0 + 1 + 339 + 1 + 13) (0 + 10 + 2701 + 26 + 2055) Q (F0 m 436 ls []) := by
  have hbA : ¬ dkA z b := by unfold dkA; omega
  obtain ⟨hO, hP, hR⟩ := hI
  have hO0 := hO
  have hP0 := hP
  have hin : ∀ k : Nat, k < 7 → vp_in (x + Int32.ofNat k) L := fun k hk => dk_lawIn hx0 hx1 hL hk
  obtain ⟨a1, ha1⟩ : ∃ y : Int32, xs (Int32.toNatClampNeg (x + 1)) = y := ⟨_, rfl⟩
  obtain ⟨a2, ha2⟩ : ∃ y : Int32, xs (Int32.toNatClampNeg (x + 2)) = y := ⟨_, rfl⟩
  refine lv_aload_n hx hb dL_law_436 rfl (lv_at hl 2 rfl) ?_
  refine lv_aload_n hx hb dL_law_437 rfl (lv_at hl 3 rfl) ?_
  refine lv_iload_n hx hb dL_law_438 rfl (lv_at hl 0 rfl) ?_
  refine lv_iconst (v := 1) hx hb dL_law_439 (by decide) ?_
  refine lv_iadd hx hb dL_law_440 ?_
  refine va_sld hx hb hX hbl hbA hS (hin 1 (by decide)) dL_law_441 ?_
  rw [ha1]
  refine lv_aload_n hx hb dL_law_442 rfl (lv_at hl 3 rfl) ?_
  refine lv_iload_n hx hb dL_law_443 rfl (lv_at hl 0 rfl) ?_
  refine lv_iconst (v := 2) hx hb dL_law_444 (by decide) ?_
  refine lv_iadd hx hb dL_law_445 ?_
  refine va_sld hx hb hX hbl hbA hS (hin 2 (by decide)) dL_law_446 ?_
  rw [ha2]
  refine dk_Vi (As := [.int a1, .int a2]) (rest := []) ⟨hx, hb, hml, hown, hts⟩ (c_X5_bones_1 l g z I a1 a2 hO hR.1) (cwV 2 hts gL_law_X5_bones rfl rfl rfl (by decide +kernel) ⟨Nat.le_of_ble_eq_true rfl, Nat.le_of_ble_eq_true rfl⟩) (dk_at0 hW) rfl hK hT hW hS rfl hl.1 rfl (Nat.le_of_ble_eq_true rfl) dL_law_447 ⟨Nat.le_of_ble_eq_true rfl, Nat.le_of_ble_eq_true rfl⟩ (fun v1 I1 H L hp1 hW hS => ?_)
  obtain ⟨hF1, hO, hQ, hc1⟩ := hp1
  have hP := dkPP_F hP hF1 rfl
  refine lv_pop hx hb dL_law_450 rfl ?_
  refine lv_aload_n hx hb dL_law_451 rfl (lv_at hl 1 rfl) ?_
  refine lv_aload_n hx hb dL_law_452 rfl (lv_at hl 3 rfl) ?_
  refine lv_iload_n hx hb dL_law_453 rfl (lv_at hl 0 rfl) ?_
  refine lv_iconst (v := 1) hx hb dL_law_454 (by decide) ?_
  refine lv_iadd hx hb dL_law_455 ?_
  refine va_sld hx hb hX hbl hbA hS (hin 1 (by decide)) dL_law_456 ?_
  rw [ha1]
  refine lv_aload_n hx hb dL_law_457 rfl (lv_at hl 3 rfl) ?_
  refine lv_iload_n hx hb dL_law_458 rfl (lv_at hl 0 rfl) ?_
  refine lv_iconst (v := 2) hx hb dL_law_459 (by decide) ?_
  refine lv_iadd hx hb dL_law_460 ?_
  refine va_sld hx hb hX hbl hbA hS (hin 2 (by decide)) dL_law_461 ?_
  rw [ha2]
  refine dk_Vi (As := [.int a1, .int a2]) (rest := []) ⟨hx, hb, hml, hown, hts⟩ (c_X6_bones_0 l g z I1 a1 a2 hO hP) (cwV 2 hts gL_law_X6_bones rfl rfl rfl (by decide +kernel) ⟨Nat.le_of_ble_eq_true rfl, Nat.le_of_ble_eq_true rfl⟩) (dk_at340 hW) rfl hK hT hW hS rfl hl.1 rfl (Nat.le_of_ble_eq_true rfl) dL_law_462 ⟨Nat.le_of_ble_eq_true rfl, Nat.le_of_ble_eq_true rfl⟩ (fun v2 I2 H L hp2 hW hS => ?_)
  obtain ⟨hF2, hO, hP, hc2⟩ := hp2
  refine lv_pop hx hb dL_law_465 rfl ?_
  refine lv_goto (tgt := 1302) hx hb dL_law_466 (by decide) ?_
  exact hend I2 _ _ ls hW ⟨hO, hP, ⟨(dkQQ_F hQ hF2 rfl), (dkTap_k hR.2.1 ((hF2 12 1 rfl).trans (hF1 12 1 rfl)) ((hF2 340 6 rfl).trans (hF1 340 6 rfl)) ((funext fun j => hF2 13 j rfl).trans (funext fun j => hF1 13 j rfl)) ((funext fun j => hF2 345 j rfl).trans (funext fun j => hF1 345 j rfl))), (dkNo_k hR.2.2.1 hO0 ((hF2 25 0 rfl).trans (hF1 25 0 rfl)) ((hF2 25 4 rfl).trans (hF1 25 4 rfl)) ((hF2 25 11 rfl).trans (hF1 25 11 rfl)) ((funext fun j => hF2 32 j rfl).trans (funext fun j => hF1 32 j rfl)) ((hF2 346 0 rfl).trans (hF1 346 0 rfl)) ((hF2 346 4 rfl).trans (hF1 346 4 rfl)) ((hF2 346 5 rfl).trans (hF1 346 5 rfl)) (fun j hj => by rcases (by omega : j = 0 ∨ j = 1 ∨ j = 2 ∨ j = 3 ∨ j = 4 ∨ j = 5) with rfl | rfl | rfl | rfl | rfl | rfl <;> exact (hF2 346 _ rfl).trans (hF1 346 _ rfl))), (dkIm_k (k := 0) hR.2.2.2.1 ((hF2 37 0 rfl).trans (hF1 37 0 rfl)) ((hF2 37 4 rfl).trans (hF1 37 4 rfl)) ((hF2 37 11 rfl).trans (hF1 37 11 rfl)) ((funext fun j => hF2 44 j rfl).trans (funext fun j => hF1 44 j rfl)) ((funext fun j => hF2 350 j rfl).trans (funext fun j => hF1 350 j rfl)) ((funext fun j => hF2 351 j rfl).trans (funext fun j => hF1 351 j rfl))), (dkIm_k (k := 1) hR.2.2.2.2.1 ((hF2 48 0 rfl).trans (hF1 48 0 rfl)) ((hF2 48 4 rfl).trans (hF1 48 4 rfl)) ((hF2 48 11 rfl).trans (hF1 48 11 rfl)) ((funext fun j => hF2 55 j rfl).trans (funext fun j => hF1 55 j rfl)) ((funext fun j => hF2 350 j rfl).trans (funext fun j => hF1 350 j rfl)) ((funext fun j => hF2 351 j rfl).trans (funext fun j => hF1 351 j rfl))), (dkTr_k hR.2.2.2.2.2 ((hF2 338 2 rfl).trans (hF1 338 2 rfl)) ((hF2 340 25 rfl).trans (hF1 340 25 rfl)) ((funext fun j => hF2 339 j rfl).trans (funext fun j => hF1 339 j rfl)) ((funext fun j => hF2 353 j rfl).trans (funext fun j => hF1 353 j rfl)))⟩⟩ hS hl

set_option maxHeartbeats 4000000 in
set_option maxRecDepth 100000 in
theorem k_walk {p : Program} {e : Env} {s : State} {m : MethodId} {below : List Frame} {meth : Method} {c : Code} (l : Launch) {b L z : Nat} {xs : Nat → Int32} {g : dkG} {Q : State → Prop} {H : Heap} {locs : List Loc} {ls : Array Slot} {I : dkI} {x : Int32} (hz0 : z = s.heap.size) (hx : p.tables.exec = Jvm.exec) (hb : c.code = code) (hml : c.maxLocals = 4) (hown : s.vm.findClass RL = some m.cls) (hts : ∀ w ∈ wsL_law, w.before #[Value.ref b] s = true) (hX : va_X b L xs s s.heap) (hbl : b < s.heap.size) (hL : L ≤ 448) (hx0 : 0 ≤ x.toInt) (hx1 : x.toInt + 7 ≤ (L : Int)) (hK : dkK g s) (hT : dkST z s) (hW : dkW g z I H) (hI : dkInv I) (hS : va_S (dkA z) s.heap H locs) (hl : lv_has ls 4 [(3, .int x), (2, .ref (z + 340)), (1, .ref (z + 0)), (0, .ref b)]) (hend : ∀ (I : dkI) (H : Heap) (locs : List Loc) (ls : Array Slot), dkW g z I H → dkInv I → va_S (dkA z) s.heap H locs → lv_has ls 4 [(3, .int x), (2, .ref (z + 340)), (1, .ref (z + 0)), (0, .ref b)] → W p l e room_1 s m #[Value.ref b] below meth c H locs (0 + 1 + 339 + 1 + 13) (0 + 10 + 2701 + 26 + 2055) Q (F0 m 1302 ls [])) : W p l e room_1 s m #[Value.ref b] below meth c H locs (0 + 1 + 339 + 1 + 13) (0 + 10 + 2701 + 26 + 2055) Q (F0 m 469 ls []) := by
  have hbA : ¬ dkA z b := by unfold dkA; omega
  obtain ⟨hO, hP, hR⟩ := hI
  have hO0 := hO
  have hP0 := hP
  have hin : ∀ k : Nat, k < 7 → vp_in (x + Int32.ofNat k) L := fun k hk => dk_lawIn hx0 hx1 hL hk
  obtain ⟨a1, ha1⟩ : ∃ y : Int32, xs (Int32.toNatClampNeg (x + 1)) = y := ⟨_, rfl⟩
  obtain ⟨a2, ha2⟩ : ∃ y : Int32, xs (Int32.toNatClampNeg (x + 2)) = y := ⟨_, rfl⟩
  refine lv_aload_n hx hb dL_law_469 rfl (lv_at hl 2 rfl) ?_
  refine lv_aload_n hx hb dL_law_470 rfl (lv_at hl 3 rfl) ?_
  refine lv_iload_n hx hb dL_law_471 rfl (lv_at hl 0 rfl) ?_
  refine lv_iconst (v := 1) hx hb dL_law_472 (by decide) ?_
  refine lv_iadd hx hb dL_law_473 ?_
  refine va_sld hx hb hX hbl hbA hS (hin 1 (by decide)) dL_law_474 ?_
  rw [ha1]
  refine lv_aload_n hx hb dL_law_475 rfl (lv_at hl 3 rfl) ?_
  refine lv_iload_n hx hb dL_law_476 rfl (lv_at hl 0 rfl) ?_
  refine lv_iconst (v := 2) hx hb dL_law_477 (by decide) ?_
  refine lv_iadd hx hb dL_law_478 ?_
  refine va_sld hx hb hX hbl hbA hS (hin 2 (by decide)) dL_law_479 ?_
  rw [ha2]
  refine dk_Vi (As := [.int a1, .int a2]) (rest := []) ⟨hx, hb, hml, hown, hts⟩ (c_X5_walk_1 l g z I a1 a2 hO hR.1) (cwV 2 hts gL_law_X5_walk rfl rfl rfl (by decide +kernel) ⟨Nat.le_of_ble_eq_true rfl, Nat.le_of_ble_eq_true rfl⟩) (dk_at0 hW) rfl hK hT hW hS rfl hl.1 rfl (Nat.le_of_ble_eq_true rfl) dL_law_480 ⟨Nat.le_of_ble_eq_true rfl, Nat.le_of_ble_eq_true rfl⟩ (fun v1 I1 H L hp1 hW hS => ?_)
  obtain ⟨hF1, hO, hQ, hc1⟩ := hp1
  have hP := dkPP_F hP hF1 rfl
  refine lv_pop hx hb dL_law_483 rfl ?_
  refine lv_aload_n hx hb dL_law_484 rfl (lv_at hl 1 rfl) ?_
  refine lv_aload_n hx hb dL_law_485 rfl (lv_at hl 3 rfl) ?_
  refine lv_iload_n hx hb dL_law_486 rfl (lv_at hl 0 rfl) ?_
  refine lv_iconst (v := 1) hx hb dL_law_487 (by decide) ?_
  refine lv_iadd hx hb dL_law_488 ?_
  refine va_sld hx hb hX hbl hbA hS (hin 1 (by decide)) dL_law_489 ?_
  rw [ha1]
  refine lv_aload_n hx hb dL_law_490 rfl (lv_at hl 3 rfl) ?_
  refine lv_iload_n hx hb dL_law_491 rfl (lv_at hl 0 rfl) ?_
  refine lv_iconst (v := 2) hx hb dL_law_492 (by decide) ?_
  refine lv_iadd hx hb dL_law_493 ?_
  refine va_sld hx hb hX hbl hbA hS (hin 2 (by decide)) dL_law_494 ?_
  rw [ha2]
  refine dk_Vi (As := [.int a1, .int a2]) (rest := []) ⟨hx, hb, hml, hown, hts⟩ (c_X6_walk_0 l g z I1 a1 a2 hO hP) (cwV 2 hts gL_law_X6_walk rfl rfl rfl (by decide +kernel) ⟨Nat.le_of_ble_eq_true rfl, Nat.le_of_ble_eq_true rfl⟩) (dk_at340 hW) rfl hK hT hW hS rfl hl.1 rfl (Nat.le_of_ble_eq_true rfl) dL_law_495 ⟨Nat.le_of_ble_eq_true rfl, Nat.le_of_ble_eq_true rfl⟩ (fun v2 I2 H L hp2 hW hS => ?_)
  obtain ⟨hF2, hO, hP, hc2⟩ := hp2
  refine lv_pop hx hb dL_law_498 rfl ?_
  refine lv_goto (tgt := 1302) hx hb dL_law_499 (by decide) ?_
  exact hend I2 _ _ ls hW ⟨hO, hP, ⟨(dkQQ_F hQ hF2 rfl), (dkTap_k hR.2.1 ((hF2 12 1 rfl).trans (hF1 12 1 rfl)) ((hF2 340 6 rfl).trans (hF1 340 6 rfl)) ((funext fun j => hF2 13 j rfl).trans (funext fun j => hF1 13 j rfl)) ((funext fun j => hF2 345 j rfl).trans (funext fun j => hF1 345 j rfl))), (dkNo_k hR.2.2.1 hO0 ((hF2 25 0 rfl).trans (hF1 25 0 rfl)) ((hF2 25 4 rfl).trans (hF1 25 4 rfl)) ((hF2 25 11 rfl).trans (hF1 25 11 rfl)) ((funext fun j => hF2 32 j rfl).trans (funext fun j => hF1 32 j rfl)) ((hF2 346 0 rfl).trans (hF1 346 0 rfl)) ((hF2 346 4 rfl).trans (hF1 346 4 rfl)) ((hF2 346 5 rfl).trans (hF1 346 5 rfl)) (fun j hj => by rcases (by omega : j = 0 ∨ j = 1 ∨ j = 2 ∨ j = 3 ∨ j = 4 ∨ j = 5) with rfl | rfl | rfl | rfl | rfl | rfl <;> exact (hF2 346 _ rfl).trans (hF1 346 _ rfl))), (dkIm_k (k := 0) hR.2.2.2.1 ((hF2 37 0 rfl).trans (hF1 37 0 rfl)) ((hF2 37 4 rfl).trans (hF1 37 4 rfl)) ((hF2 37 11 rfl).trans (hF1 37 11 rfl)) ((funext fun j => hF2 44 j rfl).trans (funext fun j => hF1 44 j rfl)) ((funext fun j => hF2 350 j rfl).trans (funext fun j => hF1 350 j rfl)) ((funext fun j => hF2 351 j rfl).trans (funext fun j => hF1 351 j rfl))), (dkIm_k (k := 1) hR.2.2.2.2.1 ((hF2 48 0 rfl).trans (hF1 48 0 rfl)) ((hF2 48 4 rfl).trans (hF1 48 4 rfl)) ((hF2 48 11 rfl).trans (hF1 48 11 rfl)) ((funext fun j => hF2 55 j rfl).trans (funext fun j => hF1 55 j rfl)) ((funext fun j => hF2 350 j rfl).trans (funext fun j => hF1 350 j rfl)) ((funext fun j => hF2 351 j rfl).trans (funext fun j => hF1 351 j rfl))), (dkTr_k hR.2.2.2.2.2 ((hF2 338 2 rfl).trans (hF1 338 2 rfl)) ((hF2 340 25 rfl).trans (hF1 340 25 rfl)) ((funext fun j => hF2 339 j rfl).trans (funext fun j => hF1 339 j rfl)) ((funext fun j => hF2 353 j rfl).trans (funext fun j => hF1 353 j rfl)))⟩⟩ hS hl

set_option maxHeartbeats 4000000 in
set_option maxRecDepth 100000 in
theorem k_put {p : Program} {e : Env} {s : State} {m : MethodId} {below : List Frame} {meth : Method} {c : Code} (l : Launch) {b L z : Nat} {xs : Nat → Int32} {g : dkG} {Q : State → Prop} {H : Heap} {locs : List Loc} {ls : Array Slot} {I : dkI} {x : Int32} (hz0 : z = s.heap.size) (hx : p.tables.exec = Jvm.exec) (hb : c.code = code) (hml : c.maxLocals = 4) (hown : s.vm.findClass RL = some m.cls) (hts : ∀ w ∈ wsL_law, w.before #[Value.ref b] s = true) (hX : va_X b L xs s s.heap) (hbl : b < s.heap.size) (hL : L ≤ 448) (hx0 : 0 ≤ x.toInt) (hx1 : x.toInt + 7 ≤ (L : Int)) (hK : dkK g s) (hT : dkST z s) (hW : dkW g z I H) (hI : dkInv I) (hS : va_S (dkA z) s.heap H locs) (hl : lv_has ls 4 [(3, .int x), (2, .ref (z + 340)), (1, .ref (z + 0)), (0, .ref b)]) (hend : ∀ (I : dkI) (H : Heap) (locs : List Loc) (ls : Array Slot), dkW g z I H → dkInv I → va_S (dkA z) s.heap H locs → lv_has ls 4 [(3, .int x), (2, .ref (z + 340)), (1, .ref (z + 0)), (0, .ref b)] → W p l e room_1 s m #[Value.ref b] below meth c H locs (0 + 1 + 339 + 1 + 13) (0 + 10 + 2701 + 26 + 2055) Q (F0 m 1302 ls [])) : W p l e room_1 s m #[Value.ref b] below meth c H locs (0 + 1 + 339 + 1 + 13) (0 + 10 + 2701 + 26 + 2055) Q (F0 m 502 ls []) := by
  have hbA : ¬ dkA z b := by unfold dkA; omega
  obtain ⟨hO, hP, hR⟩ := hI
  have hO0 := hO
  have hP0 := hP
  have hin : ∀ k : Nat, k < 7 → vp_in (x + Int32.ofNat k) L := fun k hk => dk_lawIn hx0 hx1 hL hk
  obtain ⟨a1, ha1⟩ : ∃ y : Int32, xs (Int32.toNatClampNeg (x + 1)) = y := ⟨_, rfl⟩
  obtain ⟨a2, ha2⟩ : ∃ y : Int32, xs (Int32.toNatClampNeg (x + 2)) = y := ⟨_, rfl⟩
  refine lv_aload_n hx hb dL_law_502 rfl (lv_at hl 2 rfl) ?_
  refine lv_aload_n hx hb dL_law_503 rfl (lv_at hl 3 rfl) ?_
  refine lv_iload_n hx hb dL_law_504 rfl (lv_at hl 0 rfl) ?_
  refine lv_iconst (v := 1) hx hb dL_law_505 (by decide) ?_
  refine lv_iadd hx hb dL_law_506 ?_
  refine va_sld hx hb hX hbl hbA hS (hin 1 (by decide)) dL_law_507 ?_
  rw [ha1]
  refine lv_aload_n hx hb dL_law_508 rfl (lv_at hl 3 rfl) ?_
  refine lv_iload_n hx hb dL_law_509 rfl (lv_at hl 0 rfl) ?_
  refine lv_iconst (v := 2) hx hb dL_law_510 (by decide) ?_
  refine lv_iadd hx hb dL_law_511 ?_
  refine va_sld hx hb hX hbl hbA hS (hin 2 (by decide)) dL_law_512 ?_
  rw [ha2]
  refine dk_Vi (As := [.int a1, .int a2]) (rest := []) ⟨hx, hb, hml, hown, hts⟩ (c_X5_put_1 l g z I a1 a2 hO hR.1) (cwV 2 hts gL_law_X5_put rfl rfl rfl (by decide +kernel) ⟨Nat.le_of_ble_eq_true rfl, Nat.le_of_ble_eq_true rfl⟩) (dk_at0 hW) rfl hK hT hW hS rfl hl.1 rfl (Nat.le_of_ble_eq_true rfl) dL_law_513 ⟨Nat.le_of_ble_eq_true rfl, Nat.le_of_ble_eq_true rfl⟩ (fun v1 I1 H L hp1 hW hS => ?_)
  obtain ⟨hF1, hO, hQ, hc1⟩ := hp1
  have hP := dkPP_F hP hF1 rfl
  refine lv_pop hx hb dL_law_516 rfl ?_
  refine lv_aload_n hx hb dL_law_517 rfl (lv_at hl 1 rfl) ?_
  refine lv_aload_n hx hb dL_law_518 rfl (lv_at hl 3 rfl) ?_
  refine lv_iload_n hx hb dL_law_519 rfl (lv_at hl 0 rfl) ?_
  refine lv_iconst (v := 1) hx hb dL_law_520 (by decide) ?_
  refine lv_iadd hx hb dL_law_521 ?_
  refine va_sld hx hb hX hbl hbA hS (hin 1 (by decide)) dL_law_522 ?_
  rw [ha1]
  refine lv_aload_n hx hb dL_law_523 rfl (lv_at hl 3 rfl) ?_
  refine lv_iload_n hx hb dL_law_524 rfl (lv_at hl 0 rfl) ?_
  refine lv_iconst (v := 2) hx hb dL_law_525 (by decide) ?_
  refine lv_iadd hx hb dL_law_526 ?_
  refine va_sld hx hb hX hbl hbA hS (hin 2 (by decide)) dL_law_527 ?_
  rw [ha2]
  refine dk_Vi (As := [.int a1, .int a2]) (rest := []) ⟨hx, hb, hml, hown, hts⟩ (c_X6_put_0 l g z I1 a1 a2 hO hP) (cwV 2 hts gL_law_X6_put rfl rfl rfl (by decide +kernel) ⟨Nat.le_of_ble_eq_true rfl, Nat.le_of_ble_eq_true rfl⟩) (dk_at340 hW) rfl hK hT hW hS rfl hl.1 rfl (Nat.le_of_ble_eq_true rfl) dL_law_528 ⟨Nat.le_of_ble_eq_true rfl, Nat.le_of_ble_eq_true rfl⟩ (fun v2 I2 H L hp2 hW hS => ?_)
  obtain ⟨hF2, hO, hP, hc2⟩ := hp2
  refine lv_pop hx hb dL_law_531 rfl ?_
  refine lv_goto (tgt := 1302) hx hb dL_law_532 (by decide) ?_
  exact hend I2 _ _ ls hW ⟨hO, hP, ⟨(dkQQ_F hQ hF2 rfl), (dkTap_k hR.2.1 ((hF2 12 1 rfl).trans (hF1 12 1 rfl)) ((hF2 340 6 rfl).trans (hF1 340 6 rfl)) ((funext fun j => hF2 13 j rfl).trans (funext fun j => hF1 13 j rfl)) ((funext fun j => hF2 345 j rfl).trans (funext fun j => hF1 345 j rfl))), (dkNo_k hR.2.2.1 hO0 ((hF2 25 0 rfl).trans (hF1 25 0 rfl)) ((hF2 25 4 rfl).trans (hF1 25 4 rfl)) ((hF2 25 11 rfl).trans (hF1 25 11 rfl)) ((funext fun j => hF2 32 j rfl).trans (funext fun j => hF1 32 j rfl)) ((hF2 346 0 rfl).trans (hF1 346 0 rfl)) ((hF2 346 4 rfl).trans (hF1 346 4 rfl)) ((hF2 346 5 rfl).trans (hF1 346 5 rfl)) (fun j hj => by rcases (by omega : j = 0 ∨ j = 1 ∨ j = 2 ∨ j = 3 ∨ j = 4 ∨ j = 5) with rfl | rfl | rfl | rfl | rfl | rfl <;> exact (hF2 346 _ rfl).trans (hF1 346 _ rfl))), (dkIm_k (k := 0) hR.2.2.2.1 ((hF2 37 0 rfl).trans (hF1 37 0 rfl)) ((hF2 37 4 rfl).trans (hF1 37 4 rfl)) ((hF2 37 11 rfl).trans (hF1 37 11 rfl)) ((funext fun j => hF2 44 j rfl).trans (funext fun j => hF1 44 j rfl)) ((funext fun j => hF2 350 j rfl).trans (funext fun j => hF1 350 j rfl)) ((funext fun j => hF2 351 j rfl).trans (funext fun j => hF1 351 j rfl))), (dkIm_k (k := 1) hR.2.2.2.2.1 ((hF2 48 0 rfl).trans (hF1 48 0 rfl)) ((hF2 48 4 rfl).trans (hF1 48 4 rfl)) ((hF2 48 11 rfl).trans (hF1 48 11 rfl)) ((funext fun j => hF2 55 j rfl).trans (funext fun j => hF1 55 j rfl)) ((funext fun j => hF2 350 j rfl).trans (funext fun j => hF1 350 j rfl)) ((funext fun j => hF2 351 j rfl).trans (funext fun j => hF1 351 j rfl))), (dkTr_k hR.2.2.2.2.2 ((hF2 338 2 rfl).trans (hF1 338 2 rfl)) ((hF2 340 25 rfl).trans (hF1 340 25 rfl)) ((funext fun j => hF2 339 j rfl).trans (funext fun j => hF1 339 j rfl)) ((funext fun j => hF2 353 j rfl).trans (funext fun j => hF1 353 j rfl)))⟩⟩ hS hl

set_option maxHeartbeats 4000000 in
set_option maxRecDepth 100000 in
theorem k_undo {p : Program} {e : Env} {s : State} {m : MethodId} {below : List Frame} {meth : Method} {c : Code} (l : Launch) {b L z : Nat} {xs : Nat → Int32} {g : dkG} {Q : State → Prop} {H : Heap} {locs : List Loc} {ls : Array Slot} {I : dkI} {x : Int32} (hz0 : z = s.heap.size) (hx : p.tables.exec = Jvm.exec) (hb : c.code = code) (hml : c.maxLocals = 4) (hown : s.vm.findClass RL = some m.cls) (hts : ∀ w ∈ wsL_law, w.before #[Value.ref b] s = true) (hX : va_X b L xs s s.heap) (hbl : b < s.heap.size) (hL : L ≤ 448) (hx0 : 0 ≤ x.toInt) (hx1 : x.toInt + 7 ≤ (L : Int)) (hK : dkK g s) (hT : dkST z s) (hW : dkW g z I H) (hI : dkInv I) (hS : va_S (dkA z) s.heap H locs) (hl : lv_has ls 4 [(3, .int x), (2, .ref (z + 340)), (1, .ref (z + 0)), (0, .ref b)]) (hend : ∀ (I : dkI) (H : Heap) (locs : List Loc) (ls : Array Slot), dkW g z I H → dkInv I → va_S (dkA z) s.heap H locs → lv_has ls 4 [(3, .int x), (2, .ref (z + 340)), (1, .ref (z + 0)), (0, .ref b)] → W p l e room_1 s m #[Value.ref b] below meth c H locs (0 + 1 + 339 + 1 + 13) (0 + 10 + 2701 + 26 + 2055) Q (F0 m 1302 ls [])) : W p l e room_1 s m #[Value.ref b] below meth c H locs (0 + 1 + 339 + 1 + 13) (0 + 10 + 2701 + 26 + 2055) Q (F0 m 535 ls []) := by
  have hbA : ¬ dkA z b := by unfold dkA; omega
  obtain ⟨hO, hP, hR⟩ := hI
  have hO0 := hO
  have hP0 := hP
  have hin : ∀ k : Nat, k < 7 → vp_in (x + Int32.ofNat k) L := fun k hk => dk_lawIn hx0 hx1 hL hk
  refine lv_aload_n hx hb dL_law_535 rfl (lv_at hl 2 rfl) ?_
  refine dk_Vi (As := []) (rest := []) ⟨hx, hb, hml, hown, hts⟩ (fx_X5_undo_1 l g z I hO hR.1) (cwV 0 hts gL_law_X5_undo rfl rfl rfl (by decide +kernel) ⟨Nat.le_of_ble_eq_true rfl, Nat.le_of_ble_eq_true rfl⟩) (dk_at0 hW) rfl hK hT hW hS rfl hl.1 rfl (Nat.le_of_ble_eq_true rfl) dL_law_536 ⟨Nat.le_of_ble_eq_true rfl, Nat.le_of_ble_eq_true rfl⟩ (fun v1 I1 H L hp1 hW hS => ?_)
  obtain ⟨hF1, hO, hQ, hc1⟩ := hp1
  have hP := dkPP_F hP hF1 rfl
  refine lv_pop hx hb dL_law_539 rfl ?_
  refine lv_aload_n hx hb dL_law_540 rfl (lv_at hl 1 rfl) ?_
  refine dk_Vi (As := []) (rest := []) ⟨hx, hb, hml, hown, hts⟩ (fx_X6_undo_1 l g z I1 hO hP) (cwV 0 hts gL_law_X6_undo rfl rfl rfl (by decide +kernel) ⟨Nat.le_of_ble_eq_true rfl, Nat.le_of_ble_eq_true rfl⟩) (dk_at340 hW) rfl hK hT hW hS rfl hl.1 rfl (Nat.le_of_ble_eq_true rfl) dL_law_541 ⟨Nat.le_of_ble_eq_true rfl, Nat.le_of_ble_eq_true rfl⟩ (fun v2 I2 H L hp2 hW hS => ?_)
  obtain ⟨hF2, hO, hP, hc2⟩ := hp2
  refine lv_pop hx hb dL_law_544 rfl ?_
  refine lv_goto (tgt := 1302) hx hb dL_law_545 (by decide) ?_
  exact hend I2 _ _ ls hW ⟨hO, hP, ⟨(dkQQ_F hQ hF2 rfl), (dkTap_k hR.2.1 ((hF2 12 1 rfl).trans (hF1 12 1 rfl)) ((hF2 340 6 rfl).trans (hF1 340 6 rfl)) ((funext fun j => hF2 13 j rfl).trans (funext fun j => hF1 13 j rfl)) ((funext fun j => hF2 345 j rfl).trans (funext fun j => hF1 345 j rfl))), (dkr_undo hR.2.2.1 hO0 hF1 hF2 hc1 hc2), (dkIm_k (k := 0) hR.2.2.2.1 ((hF2 37 0 rfl).trans (hF1 37 0 rfl)) ((hF2 37 4 rfl).trans (hF1 37 4 rfl)) ((hF2 37 11 rfl).trans (hF1 37 11 rfl)) ((funext fun j => hF2 44 j rfl).trans (funext fun j => hF1 44 j rfl)) ((funext fun j => hF2 350 j rfl).trans (funext fun j => hF1 350 j rfl)) ((funext fun j => hF2 351 j rfl).trans (funext fun j => hF1 351 j rfl))), (dkIm_k (k := 1) hR.2.2.2.2.1 ((hF2 48 0 rfl).trans (hF1 48 0 rfl)) ((hF2 48 4 rfl).trans (hF1 48 4 rfl)) ((hF2 48 11 rfl).trans (hF1 48 11 rfl)) ((funext fun j => hF2 55 j rfl).trans (funext fun j => hF1 55 j rfl)) ((funext fun j => hF2 350 j rfl).trans (funext fun j => hF1 350 j rfl)) ((funext fun j => hF2 351 j rfl).trans (funext fun j => hF1 351 j rfl))), (dkTr_k hR.2.2.2.2.2 ((hF2 338 2 rfl).trans (hF1 338 2 rfl)) ((hF2 340 25 rfl).trans (hF1 340 25 rfl)) ((funext fun j => hF2 339 j rfl).trans (funext fun j => hF1 339 j rfl)) ((funext fun j => hF2 353 j rfl).trans (funext fun j => hF1 353 j rfl)))⟩⟩ hS hl

set_option maxHeartbeats 4000000 in
set_option maxRecDepth 100000 in
theorem k_dog {p : Program} {e : Env} {s : State} {m : MethodId} {below : List Frame} {meth : Method} {c : Code} (l : Launch) {b L z : Nat} {xs : Nat → Int32} {g : dkG} {Q : State → Prop} {H : Heap} {locs : List Loc} {ls : Array Slot} {I : dkI} {x : Int32} (hz0 : z = s.heap.size) (hx : p.tables.exec = Jvm.exec) (hb : c.code = code) (hml : c.maxLocals = 4) (hown : s.vm.findClass RL = some m.cls) (hts : ∀ w ∈ wsL_law, w.before #[Value.ref b] s = true) (hX : va_X b L xs s s.heap) (hbl : b < s.heap.size) (hL : L ≤ 448) (hx0 : 0 ≤ x.toInt) (hx1 : x.toInt + 7 ≤ (L : Int)) (hK : dkK g s) (hT : dkST z s) (hW : dkW g z I H) (hI : dkInv I) (hS : va_S (dkA z) s.heap H locs) (hl : lv_has ls 4 [(3, .int x), (2, .ref (z + 340)), (1, .ref (z + 0)), (0, .ref b)]) (hend : ∀ (I : dkI) (H : Heap) (locs : List Loc) (ls : Array Slot), dkW g z I H → dkInv I → va_S (dkA z) s.heap H locs → lv_has ls 4 [(3, .int x), (2, .ref (z + 340)), (1, .ref (z + 0)), (0, .ref b)] → W p l e room_1 s m #[Value.ref b] below meth c H locs (0 + 1 + 339 + 1 + 13) (0 + 10 + 2701 + 26 + 2055) Q (F0 m 1302 ls [])) : W p l e room_1 s m #[Value.ref b] below meth c H locs (0 + 1 + 339 + 1 + 13) (0 + 10 + 2701 + 26 + 2055) Q (F0 m 548 ls []) := by
  have hbA : ¬ dkA z b := by unfold dkA; omega
  obtain ⟨hO, hP, hR⟩ := hI
  have hO0 := hO
  have hP0 := hP
  have hin : ∀ k : Nat, k < 7 → vp_in (x + Int32.ofNat k) L := fun k hk => dk_lawIn hx0 hx1 hL hk
  obtain ⟨a1, ha1⟩ : ∃ y : Int32, xs (Int32.toNatClampNeg (x + 1)) = y := ⟨_, rfl⟩
  obtain ⟨a2, ha2⟩ : ∃ y : Int32, xs (Int32.toNatClampNeg (x + 2)) = y := ⟨_, rfl⟩
  refine lv_aload_n hx hb dL_law_548 rfl (lv_at hl 2 rfl) ?_
  refine lv_aload_n hx hb dL_law_549 rfl (lv_at hl 3 rfl) ?_
  refine lv_iload_n hx hb dL_law_550 rfl (lv_at hl 0 rfl) ?_
  refine lv_iconst (v := 1) hx hb dL_law_551 (by decide) ?_
  refine lv_iadd hx hb dL_law_552 ?_
  refine va_sld hx hb hX hbl hbA hS (hin 1 (by decide)) dL_law_553 ?_
  rw [ha1]
  refine lv_aload_n hx hb dL_law_554 rfl (lv_at hl 3 rfl) ?_
  refine lv_iload_n hx hb dL_law_555 rfl (lv_at hl 0 rfl) ?_
  refine lv_iconst (v := 2) hx hb dL_law_556 (by decide) ?_
  refine lv_iadd hx hb dL_law_557 ?_
  refine va_sld hx hb hX hbl hbA hS (hin 2 (by decide)) dL_law_558 ?_
  rw [ha2]
  refine dk_Vi (As := [.int a1, .int a2]) (rest := []) ⟨hx, hb, hml, hown, hts⟩ (c_X5_dog_0 l g z I a1 a2 hO) (cwV 2 hts gL_law_X5_dog rfl rfl rfl (by decide +kernel) ⟨Nat.le_of_ble_eq_true rfl, Nat.le_of_ble_eq_true rfl⟩) (dk_at0 hW) rfl hK hT hW hS rfl hl.1 rfl (Nat.le_of_ble_eq_true rfl) dL_law_559 ⟨Nat.le_of_ble_eq_true rfl, Nat.le_of_ble_eq_true rfl⟩ (fun v1 I1 H L hp1 hW hS => ?_)
  obtain ⟨hF1, hO, hc1⟩ := hp1
  have hP := dkPP_F hP hF1 rfl
  refine lv_pop hx hb dL_law_562 rfl ?_
  refine lv_aload_n hx hb dL_law_563 rfl (lv_at hl 1 rfl) ?_
  refine lv_aload_n hx hb dL_law_564 rfl (lv_at hl 3 rfl) ?_
  refine lv_iload_n hx hb dL_law_565 rfl (lv_at hl 0 rfl) ?_
  refine lv_iconst (v := 1) hx hb dL_law_566 (by decide) ?_
  refine lv_iadd hx hb dL_law_567 ?_
  refine va_sld hx hb hX hbl hbA hS (hin 1 (by decide)) dL_law_568 ?_
  rw [ha1]
  refine lv_aload_n hx hb dL_law_569 rfl (lv_at hl 3 rfl) ?_
  refine lv_iload_n hx hb dL_law_570 rfl (lv_at hl 0 rfl) ?_
  refine lv_iconst (v := 2) hx hb dL_law_571 (by decide) ?_
  refine lv_iadd hx hb dL_law_572 ?_
  refine va_sld hx hb hX hbl hbA hS (hin 2 (by decide)) dL_law_573 ?_
  rw [ha2]
  refine dk_Vi (As := [.int a1, .int a2]) (rest := []) ⟨hx, hb, hml, hown, hts⟩ (c_X6_dog_0 l g z I1 a1 a2 hO) (cwV 2 hts gL_law_X6_dog rfl rfl rfl (by decide +kernel) ⟨Nat.le_of_ble_eq_true rfl, Nat.le_of_ble_eq_true rfl⟩) (dk_at340 hW) rfl hK hT hW hS rfl hl.1 rfl (Nat.le_of_ble_eq_true rfl) dL_law_574 ⟨Nat.le_of_ble_eq_true rfl, Nat.le_of_ble_eq_true rfl⟩ (fun v2 I2 H L hp2 hW hS => ?_)
  obtain ⟨hF2, hO, hc2⟩ := hp2
  have hP := dkPP_F hP hF2 rfl
  refine lv_pop hx hb dL_law_577 rfl ?_
  refine lv_goto (tgt := 1302) hx hb dL_law_578 (by decide) ?_
  exact hend I2 _ _ ls hW ⟨hO, hP, ⟨(dkQQ_F (dkQQ_F hR.1 hF1 rfl) hF2 rfl), (dkTap_k hR.2.1 ((hF2 12 1 rfl).trans (hF1 12 1 rfl)) ((hF2 340 6 rfl).trans (hF1 340 6 rfl)) ((funext fun j => hF2 13 j rfl).trans (funext fun j => hF1 13 j rfl)) ((funext fun j => hF2 345 j rfl).trans (funext fun j => hF1 345 j rfl))), (dkNo_k hR.2.2.1 hO0 ((hF2 25 0 rfl).trans (hF1 25 0 rfl)) ((hF2 25 4 rfl).trans (hF1 25 4 rfl)) ((hF2 25 11 rfl).trans (hF1 25 11 rfl)) ((funext fun j => hF2 32 j rfl).trans (funext fun j => hF1 32 j rfl)) ((hF2 346 0 rfl).trans (hF1 346 0 rfl)) ((hF2 346 4 rfl).trans (hF1 346 4 rfl)) ((hF2 346 5 rfl).trans (hF1 346 5 rfl)) (fun j hj => by rcases (by omega : j = 0 ∨ j = 1 ∨ j = 2 ∨ j = 3 ∨ j = 4 ∨ j = 5) with rfl | rfl | rfl | rfl | rfl | rfl <;> exact (hF2 346 _ rfl).trans (hF1 346 _ rfl))), (dkIm_k (k := 0) hR.2.2.2.1 ((hF2 37 0 rfl).trans (hF1 37 0 rfl)) ((hF2 37 4 rfl).trans (hF1 37 4 rfl)) ((hF2 37 11 rfl).trans (hF1 37 11 rfl)) ((funext fun j => hF2 44 j rfl).trans (funext fun j => hF1 44 j rfl)) ((funext fun j => hF2 350 j rfl).trans (funext fun j => hF1 350 j rfl)) ((funext fun j => hF2 351 j rfl).trans (funext fun j => hF1 351 j rfl))), (dkIm_k (k := 1) hR.2.2.2.2.1 ((hF2 48 0 rfl).trans (hF1 48 0 rfl)) ((hF2 48 4 rfl).trans (hF1 48 4 rfl)) ((hF2 48 11 rfl).trans (hF1 48 11 rfl)) ((funext fun j => hF2 55 j rfl).trans (funext fun j => hF1 55 j rfl)) ((funext fun j => hF2 350 j rfl).trans (funext fun j => hF1 350 j rfl)) ((funext fun j => hF2 351 j rfl).trans (funext fun j => hF1 351 j rfl))), (dkTr_k hR.2.2.2.2.2 ((hF2 338 2 rfl).trans (hF1 338 2 rfl)) ((hF2 340 25 rfl).trans (hF1 340 25 rfl)) ((funext fun j => hF2 339 j rfl).trans (funext fun j => hF1 339 j rfl)) ((funext fun j => hF2 353 j rfl).trans (funext fun j => hF1 353 j rfl)))⟩⟩ hS hl

set_option maxHeartbeats 4000000 in
set_option maxRecDepth 100000 in
theorem k_person {p : Program} {e : Env} {s : State} {m : MethodId} {below : List Frame} {meth : Method} {c : Code} (l : Launch) {b L z : Nat} {xs : Nat → Int32} {g : dkG} {Q : State → Prop} {H : Heap} {locs : List Loc} {ls : Array Slot} {I : dkI} {x : Int32} (hz0 : z = s.heap.size) (hx : p.tables.exec = Jvm.exec) (hb : c.code = code) (hml : c.maxLocals = 4) (hown : s.vm.findClass RL = some m.cls) (hts : ∀ w ∈ wsL_law, w.before #[Value.ref b] s = true) (hX : va_X b L xs s s.heap) (hbl : b < s.heap.size) (hL : L ≤ 448) (hx0 : 0 ≤ x.toInt) (hx1 : x.toInt + 7 ≤ (L : Int)) (hK : dkK g s) (hT : dkST z s) (hW : dkW g z I H) (hI : dkInv I) (hS : va_S (dkA z) s.heap H locs) (hl : lv_has ls 4 [(3, .int x), (2, .ref (z + 340)), (1, .ref (z + 0)), (0, .ref b)]) (hend : ∀ (I : dkI) (H : Heap) (locs : List Loc) (ls : Array Slot), dkW g z I H → dkInv I → va_S (dkA z) s.heap H locs → lv_has ls 4 [(3, .int x), (2, .ref (z + 340)), (1, .ref (z + 0)), (0, .ref b)] → W p l e room_1 s m #[Value.ref b] below meth c H locs (0 + 1 + 339 + 1 + 13) (0 + 10 + 2701 + 26 + 2055) Q (F0 m 1302 ls [])) : W p l e room_1 s m #[Value.ref b] below meth c H locs (0 + 1 + 339 + 1 + 13) (0 + 10 + 2701 + 26 + 2055) Q (F0 m 581 ls []) := by
  have hbA : ¬ dkA z b := by unfold dkA; omega
  obtain ⟨hO, hP, hR⟩ := hI
  have hO0 := hO
  have hP0 := hP
  have hin : ∀ k : Nat, k < 7 → vp_in (x + Int32.ofNat k) L := fun k hk => dk_lawIn hx0 hx1 hL hk
  obtain ⟨a1, ha1⟩ : ∃ y : Int32, xs (Int32.toNatClampNeg (x + 1)) = y := ⟨_, rfl⟩
  obtain ⟨a2, ha2⟩ : ∃ y : Int32, xs (Int32.toNatClampNeg (x + 2)) = y := ⟨_, rfl⟩
  refine lv_aload_n hx hb dL_law_581 rfl (lv_at hl 2 rfl) ?_
  refine lv_aload_n hx hb dL_law_582 rfl (lv_at hl 3 rfl) ?_
  refine lv_iload_n hx hb dL_law_583 rfl (lv_at hl 0 rfl) ?_
  refine lv_iconst (v := 1) hx hb dL_law_584 (by decide) ?_
  refine lv_iadd hx hb dL_law_585 ?_
  refine va_sld hx hb hX hbl hbA hS (hin 1 (by decide)) dL_law_586 ?_
  rw [ha1]
  refine lv_aload_n hx hb dL_law_587 rfl (lv_at hl 3 rfl) ?_
  refine lv_iload_n hx hb dL_law_588 rfl (lv_at hl 0 rfl) ?_
  refine lv_iconst (v := 2) hx hb dL_law_589 (by decide) ?_
  refine lv_iadd hx hb dL_law_590 ?_
  refine va_sld hx hb hX hbl hbA hS (hin 2 (by decide)) dL_law_591 ?_
  rw [ha2]
  refine dk_Vi (As := [.int a1, .int a2]) (rest := []) ⟨hx, hb, hml, hown, hts⟩ (c_X5_person_0 l g z I a1 a2 hO) (cwV 2 hts gL_law_X5_person rfl rfl rfl (by decide +kernel) ⟨Nat.le_of_ble_eq_true rfl, Nat.le_of_ble_eq_true rfl⟩) (dk_at0 hW) rfl hK hT hW hS rfl hl.1 rfl (Nat.le_of_ble_eq_true rfl) dL_law_592 ⟨Nat.le_of_ble_eq_true rfl, Nat.le_of_ble_eq_true rfl⟩ (fun v1 I1 H L hp1 hW hS => ?_)
  obtain ⟨hF1, hO, hc1⟩ := hp1
  have hP := dkPP_F hP hF1 rfl
  refine lv_pop hx hb dL_law_595 rfl ?_
  refine lv_aload_n hx hb dL_law_596 rfl (lv_at hl 1 rfl) ?_
  refine lv_aload_n hx hb dL_law_597 rfl (lv_at hl 3 rfl) ?_
  refine lv_iload_n hx hb dL_law_598 rfl (lv_at hl 0 rfl) ?_
  refine lv_iconst (v := 1) hx hb dL_law_599 (by decide) ?_
  refine lv_iadd hx hb dL_law_600 ?_
  refine va_sld hx hb hX hbl hbA hS (hin 1 (by decide)) dL_law_601 ?_
  rw [ha1]
  refine lv_aload_n hx hb dL_law_602 rfl (lv_at hl 3 rfl) ?_
  refine lv_iload_n hx hb dL_law_603 rfl (lv_at hl 0 rfl) ?_
  refine lv_iconst (v := 2) hx hb dL_law_604 (by decide) ?_
  refine lv_iadd hx hb dL_law_605 ?_
  refine va_sld hx hb hX hbl hbA hS (hin 2 (by decide)) dL_law_606 ?_
  rw [ha2]
  refine dk_Vi (As := [.int a1, .int a2]) (rest := []) ⟨hx, hb, hml, hown, hts⟩ (c_X6_person_0 l g z I1 a1 a2 hO) (cwV 2 hts gL_law_X6_person rfl rfl rfl (by decide +kernel) ⟨Nat.le_of_ble_eq_true rfl, Nat.le_of_ble_eq_true rfl⟩) (dk_at340 hW) rfl hK hT hW hS rfl hl.1 rfl (Nat.le_of_ble_eq_true rfl) dL_law_607 ⟨Nat.le_of_ble_eq_true rfl, Nat.le_of_ble_eq_true rfl⟩ (fun v2 I2 H L hp2 hW hS => ?_)
  obtain ⟨hF2, hO, hc2⟩ := hp2
  have hP := dkPP_F hP hF2 rfl
  refine lv_pop hx hb dL_law_610 rfl ?_
  refine lv_goto (tgt := 1302) hx hb dL_law_611 (by decide) ?_
  exact hend I2 _ _ ls hW ⟨hO, hP, ⟨(dkQQ_F (dkQQ_F hR.1 hF1 rfl) hF2 rfl), (dkTap_k hR.2.1 ((hF2 12 1 rfl).trans (hF1 12 1 rfl)) ((hF2 340 6 rfl).trans (hF1 340 6 rfl)) ((funext fun j => hF2 13 j rfl).trans (funext fun j => hF1 13 j rfl)) ((funext fun j => hF2 345 j rfl).trans (funext fun j => hF1 345 j rfl))), (dkNo_k hR.2.2.1 hO0 ((hF2 25 0 rfl).trans (hF1 25 0 rfl)) ((hF2 25 4 rfl).trans (hF1 25 4 rfl)) ((hF2 25 11 rfl).trans (hF1 25 11 rfl)) ((funext fun j => hF2 32 j rfl).trans (funext fun j => hF1 32 j rfl)) ((hF2 346 0 rfl).trans (hF1 346 0 rfl)) ((hF2 346 4 rfl).trans (hF1 346 4 rfl)) ((hF2 346 5 rfl).trans (hF1 346 5 rfl)) (fun j hj => by rcases (by omega : j = 0 ∨ j = 1 ∨ j = 2 ∨ j = 3 ∨ j = 4 ∨ j = 5) with rfl | rfl | rfl | rfl | rfl | rfl <;> exact (hF2 346 _ rfl).trans (hF1 346 _ rfl))), (dkIm_k (k := 0) hR.2.2.2.1 ((hF2 37 0 rfl).trans (hF1 37 0 rfl)) ((hF2 37 4 rfl).trans (hF1 37 4 rfl)) ((hF2 37 11 rfl).trans (hF1 37 11 rfl)) ((funext fun j => hF2 44 j rfl).trans (funext fun j => hF1 44 j rfl)) ((funext fun j => hF2 350 j rfl).trans (funext fun j => hF1 350 j rfl)) ((funext fun j => hF2 351 j rfl).trans (funext fun j => hF1 351 j rfl))), (dkIm_k (k := 1) hR.2.2.2.2.1 ((hF2 48 0 rfl).trans (hF1 48 0 rfl)) ((hF2 48 4 rfl).trans (hF1 48 4 rfl)) ((hF2 48 11 rfl).trans (hF1 48 11 rfl)) ((funext fun j => hF2 55 j rfl).trans (funext fun j => hF1 55 j rfl)) ((funext fun j => hF2 350 j rfl).trans (funext fun j => hF1 350 j rfl)) ((funext fun j => hF2 351 j rfl).trans (funext fun j => hF1 351 j rfl))), (dkTr_k hR.2.2.2.2.2 ((hF2 338 2 rfl).trans (hF1 338 2 rfl)) ((hF2 340 25 rfl).trans (hF1 340 25 rfl)) ((funext fun j => hF2 339 j rfl).trans (funext fun j => hF1 339 j rfl)) ((funext fun j => hF2 353 j rfl).trans (funext fun j => hF1 353 j rfl)))⟩⟩ hS hl

set_option maxHeartbeats 4000000 in
set_option maxRecDepth 100000 in
theorem k_ahead {p : Program} {e : Env} {s : State} {m : MethodId} {below : List Frame} {meth : Method} {c : Code} (l : Launch) {b L z : Nat} {xs : Nat → Int32} {g : dkG} {Q : State → Prop} {H : Heap} {locs : List Loc} {ls : Array Slot} {I : dkI} {x : Int32} (hz0 : z = s.heap.size) (hx : p.tables.exec = Jvm.exec) (hb : c.code = code) (hml : c.maxLocals = 4) (hown : s.vm.findClass RL = some m.cls) (hts : ∀ w ∈ wsL_law, w.before #[Value.ref b] s = true) (hX : va_X b L xs s s.heap) (hbl : b < s.heap.size) (hL : L ≤ 448) (hx0 : 0 ≤ x.toInt) (hx1 : x.toInt + 7 ≤ (L : Int)) (hK : dkK g s) (hT : dkST z s) (hW : dkW g z I H) (hI : dkInv I) (hS : va_S (dkA z) s.heap H locs) (hl : lv_has ls 4 [(3, .int x), (2, .ref (z + 340)), (1, .ref (z + 0)), (0, .ref b)]) (hend : ∀ (I : dkI) (H : Heap) (locs : List Loc) (ls : Array Slot), dkW g z I H → dkInv I → va_S (dkA z) s.heap H locs → lv_has ls 4 [(3, .int x), (2, .ref (z + 340)), (1, .ref (z + 0)), (0, .ref b)] → W p l e room_1 s m #[Value.ref b] below meth c H locs (0 + 1 + 339 + 1 + 13) (0 + 10 + 2701 + 26 + 2055) Q (F0 m 1302 ls [])) : W p l e room_1 s m #[Value.ref b] below meth c H locs (0 + 1 + 339 + 1 + 13) (0 + 10 + 2701 + 26 + 2055) Q (F0 m 614 ls []) := by
  have hbA : ¬ dkA z b := by unfold dkA; omega
  obtain ⟨hO, hP, hR⟩ := hI
  have hO0 := hO
  have hP0 := hP
  have hin : ∀ k : Nat, k < 7 → vp_in (x + Int32.ofNat k) L := fun k hk => dk_lawIn hx0 hx1 hL hk
  obtain ⟨a1, ha1⟩ : ∃ y : Int32, xs (Int32.toNatClampNeg (x + 1)) = y := ⟨_, rfl⟩
  obtain ⟨a2, ha2⟩ : ∃ y : Int32, xs (Int32.toNatClampNeg (x + 2)) = y := ⟨_, rfl⟩
  refine lv_aload_n hx hb dL_law_614 rfl (lv_at hl 2 rfl) ?_
  refine lv_aload_n hx hb dL_law_615 rfl (lv_at hl 3 rfl) ?_
  refine lv_iload_n hx hb dL_law_616 rfl (lv_at hl 0 rfl) ?_
  refine lv_iconst (v := 1) hx hb dL_law_617 (by decide) ?_
  refine lv_iadd hx hb dL_law_618 ?_
  refine va_sld hx hb hX hbl hbA hS (hin 1 (by decide)) dL_law_619 ?_
  rw [ha1]
  refine lv_aload_n hx hb dL_law_620 rfl (lv_at hl 3 rfl) ?_
  refine lv_iload_n hx hb dL_law_621 rfl (lv_at hl 0 rfl) ?_
  refine lv_iconst (v := 2) hx hb dL_law_622 (by decide) ?_
  refine lv_iadd hx hb dL_law_623 ?_
  refine va_sld hx hb hX hbl hbA hS (hin 2 (by decide)) dL_law_624 ?_
  rw [ha2]
  refine dk_Vi (As := [.int a1, .int a2]) (rest := []) ⟨hx, hb, hml, hown, hts⟩ (c_X5_ahead_0 l g z I a1 a2 hO) (cwV 2 hts gL_law_X5_ahead rfl rfl rfl (by decide +kernel) ⟨Nat.le_of_ble_eq_true rfl, Nat.le_of_ble_eq_true rfl⟩) (dk_at0 hW) rfl hK hT hW hS rfl hl.1 rfl (Nat.le_of_ble_eq_true rfl) dL_law_625 ⟨Nat.le_of_ble_eq_true rfl, Nat.le_of_ble_eq_true rfl⟩ (fun v1 I1 H L hp1 hW hS => ?_)
  obtain ⟨hF1, hO, hc1⟩ := hp1
  have hP := dkPP_F hP hF1 rfl
  refine lv_pop hx hb dL_law_628 rfl ?_
  refine lv_aload_n hx hb dL_law_629 rfl (lv_at hl 1 rfl) ?_
  refine lv_aload_n hx hb dL_law_630 rfl (lv_at hl 3 rfl) ?_
  refine lv_iload_n hx hb dL_law_631 rfl (lv_at hl 0 rfl) ?_
  refine lv_iconst (v := 1) hx hb dL_law_632 (by decide) ?_
  refine lv_iadd hx hb dL_law_633 ?_
  refine va_sld hx hb hX hbl hbA hS (hin 1 (by decide)) dL_law_634 ?_
  rw [ha1]
  refine lv_aload_n hx hb dL_law_635 rfl (lv_at hl 3 rfl) ?_
  refine lv_iload_n hx hb dL_law_636 rfl (lv_at hl 0 rfl) ?_
  refine lv_iconst (v := 2) hx hb dL_law_637 (by decide) ?_
  refine lv_iadd hx hb dL_law_638 ?_
  refine va_sld hx hb hX hbl hbA hS (hin 2 (by decide)) dL_law_639 ?_
  rw [ha2]
  refine dk_Vi (As := [.int a1, .int a2]) (rest := []) ⟨hx, hb, hml, hown, hts⟩ (c_X6_ahead_0 l g z I1 a1 a2 hO) (cwV 2 hts gL_law_X6_ahead rfl rfl rfl (by decide +kernel) ⟨Nat.le_of_ble_eq_true rfl, Nat.le_of_ble_eq_true rfl⟩) (dk_at340 hW) rfl hK hT hW hS rfl hl.1 rfl (Nat.le_of_ble_eq_true rfl) dL_law_640 ⟨Nat.le_of_ble_eq_true rfl, Nat.le_of_ble_eq_true rfl⟩ (fun v2 I2 H L hp2 hW hS => ?_)
  obtain ⟨hF2, hO, hc2⟩ := hp2
  have hP := dkPP_F hP hF2 rfl
  refine lv_pop hx hb dL_law_643 rfl ?_
  refine lv_goto (tgt := 1302) hx hb dL_law_644 (by decide) ?_
  exact hend I2 _ _ ls hW ⟨hO, hP, ⟨(dkQQ_F (dkQQ_F hR.1 hF1 rfl) hF2 rfl), (dkTap_k hR.2.1 ((hF2 12 1 rfl).trans (hF1 12 1 rfl)) ((hF2 340 6 rfl).trans (hF1 340 6 rfl)) ((funext fun j => hF2 13 j rfl).trans (funext fun j => hF1 13 j rfl)) ((funext fun j => hF2 345 j rfl).trans (funext fun j => hF1 345 j rfl))), (dkNo_k hR.2.2.1 hO0 ((hF2 25 0 rfl).trans (hF1 25 0 rfl)) ((hF2 25 4 rfl).trans (hF1 25 4 rfl)) ((hF2 25 11 rfl).trans (hF1 25 11 rfl)) ((funext fun j => hF2 32 j rfl).trans (funext fun j => hF1 32 j rfl)) ((hF2 346 0 rfl).trans (hF1 346 0 rfl)) ((hF2 346 4 rfl).trans (hF1 346 4 rfl)) ((hF2 346 5 rfl).trans (hF1 346 5 rfl)) (fun j hj => by rcases (by omega : j = 0 ∨ j = 1 ∨ j = 2 ∨ j = 3 ∨ j = 4 ∨ j = 5) with rfl | rfl | rfl | rfl | rfl | rfl <;> exact (hF2 346 _ rfl).trans (hF1 346 _ rfl))), (dkIm_k (k := 0) hR.2.2.2.1 ((hF2 37 0 rfl).trans (hF1 37 0 rfl)) ((hF2 37 4 rfl).trans (hF1 37 4 rfl)) ((hF2 37 11 rfl).trans (hF1 37 11 rfl)) ((funext fun j => hF2 44 j rfl).trans (funext fun j => hF1 44 j rfl)) ((funext fun j => hF2 350 j rfl).trans (funext fun j => hF1 350 j rfl)) ((funext fun j => hF2 351 j rfl).trans (funext fun j => hF1 351 j rfl))), (dkIm_k (k := 1) hR.2.2.2.2.1 ((hF2 48 0 rfl).trans (hF1 48 0 rfl)) ((hF2 48 4 rfl).trans (hF1 48 4 rfl)) ((hF2 48 11 rfl).trans (hF1 48 11 rfl)) ((funext fun j => hF2 55 j rfl).trans (funext fun j => hF1 55 j rfl)) ((funext fun j => hF2 350 j rfl).trans (funext fun j => hF1 350 j rfl)) ((funext fun j => hF2 351 j rfl).trans (funext fun j => hF1 351 j rfl))), (dkTr_k hR.2.2.2.2.2 ((hF2 338 2 rfl).trans (hF1 338 2 rfl)) ((hF2 340 25 rfl).trans (hF1 340 25 rfl)) ((funext fun j => hF2 339 j rfl).trans (funext fun j => hF1 339 j rfl)) ((funext fun j => hF2 353 j rfl).trans (funext fun j => hF1 353 j rfl)))⟩⟩ hS hl

set_option maxHeartbeats 4000000 in
set_option maxRecDepth 100000 in
theorem k_goes {p : Program} {e : Env} {s : State} {m : MethodId} {below : List Frame} {meth : Method} {c : Code} (l : Launch) {b L z : Nat} {xs : Nat → Int32} {g : dkG} {Q : State → Prop} {H : Heap} {locs : List Loc} {ls : Array Slot} {I : dkI} {x : Int32} (hz0 : z = s.heap.size) (hx : p.tables.exec = Jvm.exec) (hb : c.code = code) (hml : c.maxLocals = 4) (hown : s.vm.findClass RL = some m.cls) (hts : ∀ w ∈ wsL_law, w.before #[Value.ref b] s = true) (hX : va_X b L xs s s.heap) (hbl : b < s.heap.size) (hL : L ≤ 448) (hx0 : 0 ≤ x.toInt) (hx1 : x.toInt + 7 ≤ (L : Int)) (hK : dkK g s) (hT : dkST z s) (hW : dkW g z I H) (hI : dkInv I) (hS : va_S (dkA z) s.heap H locs) (hl : lv_has ls 4 [(3, .int x), (2, .ref (z + 340)), (1, .ref (z + 0)), (0, .ref b)]) (hend : ∀ (I : dkI) (H : Heap) (locs : List Loc) (ls : Array Slot), dkW g z I H → dkInv I → va_S (dkA z) s.heap H locs → lv_has ls 4 [(3, .int x), (2, .ref (z + 340)), (1, .ref (z + 0)), (0, .ref b)] → W p l e room_1 s m #[Value.ref b] below meth c H locs (0 + 1 + 339 + 1 + 13) (0 + 10 + 2701 + 26 + 2055) Q (F0 m 1302 ls [])) : W p l e room_1 s m #[Value.ref b] below meth c H locs (0 + 1 + 339 + 1 + 13) (0 + 10 + 2701 + 26 + 2055) Q (F0 m 647 ls []) := by
  have hbA : ¬ dkA z b := by unfold dkA; omega
  obtain ⟨hO, hP, hR⟩ := hI
  have hO0 := hO
  have hP0 := hP
  have hin : ∀ k : Nat, k < 7 → vp_in (x + Int32.ofNat k) L := fun k hk => dk_lawIn hx0 hx1 hL hk
  obtain ⟨a1, ha1⟩ : ∃ y : Int32, xs (Int32.toNatClampNeg (x + 1)) = y := ⟨_, rfl⟩
  obtain ⟨a2, ha2⟩ : ∃ y : Int32, xs (Int32.toNatClampNeg (x + 2)) = y := ⟨_, rfl⟩
  refine lv_aload_n hx hb dL_law_647 rfl (lv_at hl 2 rfl) ?_
  refine lv_aload_n hx hb dL_law_648 rfl (lv_at hl 3 rfl) ?_
  refine lv_iload_n hx hb dL_law_649 rfl (lv_at hl 0 rfl) ?_
  refine lv_iconst (v := 1) hx hb dL_law_650 (by decide) ?_
  refine lv_iadd hx hb dL_law_651 ?_
  refine va_sld hx hb hX hbl hbA hS (hin 1 (by decide)) dL_law_652 ?_
  rw [ha1]
  refine lv_aload_n hx hb dL_law_653 rfl (lv_at hl 3 rfl) ?_
  refine lv_iload_n hx hb dL_law_654 rfl (lv_at hl 0 rfl) ?_
  refine lv_iconst (v := 2) hx hb dL_law_655 (by decide) ?_
  refine lv_iadd hx hb dL_law_656 ?_
  refine va_sld hx hb hX hbl hbA hS (hin 2 (by decide)) dL_law_657 ?_
  rw [ha2]
  refine dk_Vi (As := [.int a1, .int a2]) (rest := []) ⟨hx, hb, hml, hown, hts⟩ (c_X5_goes_0 l g z I a1 a2 hO) (cwV 2 hts gL_law_X5_goes rfl rfl rfl (by decide +kernel) ⟨Nat.le_of_ble_eq_true rfl, Nat.le_of_ble_eq_true rfl⟩) (dk_at0 hW) rfl hK hT hW hS rfl hl.1 rfl (Nat.le_of_ble_eq_true rfl) dL_law_658 ⟨Nat.le_of_ble_eq_true rfl, Nat.le_of_ble_eq_true rfl⟩ (fun v1 I1 H L hp1 hW hS => ?_)
  obtain ⟨hF1, hO, hc1⟩ := hp1
  have hP := dkPP_F hP hF1 rfl
  refine lv_pop hx hb dL_law_661 rfl ?_
  refine lv_aload_n hx hb dL_law_662 rfl (lv_at hl 1 rfl) ?_
  refine lv_aload_n hx hb dL_law_663 rfl (lv_at hl 3 rfl) ?_
  refine lv_iload_n hx hb dL_law_664 rfl (lv_at hl 0 rfl) ?_
  refine lv_iconst (v := 1) hx hb dL_law_665 (by decide) ?_
  refine lv_iadd hx hb dL_law_666 ?_
  refine va_sld hx hb hX hbl hbA hS (hin 1 (by decide)) dL_law_667 ?_
  rw [ha1]
  refine lv_aload_n hx hb dL_law_668 rfl (lv_at hl 3 rfl) ?_
  refine lv_iload_n hx hb dL_law_669 rfl (lv_at hl 0 rfl) ?_
  refine lv_iconst (v := 2) hx hb dL_law_670 (by decide) ?_
  refine lv_iadd hx hb dL_law_671 ?_
  refine va_sld hx hb hX hbl hbA hS (hin 2 (by decide)) dL_law_672 ?_
  rw [ha2]
  refine dk_Vi (As := [.int a1, .int a2]) (rest := []) ⟨hx, hb, hml, hown, hts⟩ (c_X6_goes_0 l g z I1 a1 a2 hO) (cwV 2 hts gL_law_X6_goes rfl rfl rfl (by decide +kernel) ⟨Nat.le_of_ble_eq_true rfl, Nat.le_of_ble_eq_true rfl⟩) (dk_at340 hW) rfl hK hT hW hS rfl hl.1 rfl (Nat.le_of_ble_eq_true rfl) dL_law_673 ⟨Nat.le_of_ble_eq_true rfl, Nat.le_of_ble_eq_true rfl⟩ (fun v2 I2 H L hp2 hW hS => ?_)
  obtain ⟨hF2, hO, hc2⟩ := hp2
  have hP := dkPP_F hP hF2 rfl
  refine lv_pop hx hb dL_law_676 rfl ?_
  refine lv_goto (tgt := 1302) hx hb dL_law_677 (by decide) ?_
  exact hend I2 _ _ ls hW ⟨hO, hP, ⟨(dkQQ_F (dkQQ_F hR.1 hF1 rfl) hF2 rfl), (dkTap_k hR.2.1 ((hF2 12 1 rfl).trans (hF1 12 1 rfl)) ((hF2 340 6 rfl).trans (hF1 340 6 rfl)) ((funext fun j => hF2 13 j rfl).trans (funext fun j => hF1 13 j rfl)) ((funext fun j => hF2 345 j rfl).trans (funext fun j => hF1 345 j rfl))), (dkNo_k hR.2.2.1 hO0 ((hF2 25 0 rfl).trans (hF1 25 0 rfl)) ((hF2 25 4 rfl).trans (hF1 25 4 rfl)) ((hF2 25 11 rfl).trans (hF1 25 11 rfl)) ((funext fun j => hF2 32 j rfl).trans (funext fun j => hF1 32 j rfl)) ((hF2 346 0 rfl).trans (hF1 346 0 rfl)) ((hF2 346 4 rfl).trans (hF1 346 4 rfl)) ((hF2 346 5 rfl).trans (hF1 346 5 rfl)) (fun j hj => by rcases (by omega : j = 0 ∨ j = 1 ∨ j = 2 ∨ j = 3 ∨ j = 4 ∨ j = 5) with rfl | rfl | rfl | rfl | rfl | rfl <;> exact (hF2 346 _ rfl).trans (hF1 346 _ rfl))), (dkIm_k (k := 0) hR.2.2.2.1 ((hF2 37 0 rfl).trans (hF1 37 0 rfl)) ((hF2 37 4 rfl).trans (hF1 37 4 rfl)) ((hF2 37 11 rfl).trans (hF1 37 11 rfl)) ((funext fun j => hF2 44 j rfl).trans (funext fun j => hF1 44 j rfl)) ((funext fun j => hF2 350 j rfl).trans (funext fun j => hF1 350 j rfl)) ((funext fun j => hF2 351 j rfl).trans (funext fun j => hF1 351 j rfl))), (dkIm_k (k := 1) hR.2.2.2.2.1 ((hF2 48 0 rfl).trans (hF1 48 0 rfl)) ((hF2 48 4 rfl).trans (hF1 48 4 rfl)) ((hF2 48 11 rfl).trans (hF1 48 11 rfl)) ((funext fun j => hF2 55 j rfl).trans (funext fun j => hF1 55 j rfl)) ((funext fun j => hF2 350 j rfl).trans (funext fun j => hF1 350 j rfl)) ((funext fun j => hF2 351 j rfl).trans (funext fun j => hF1 351 j rfl))), (dkTr_k hR.2.2.2.2.2 ((hF2 338 2 rfl).trans (hF1 338 2 rfl)) ((hF2 340 25 rfl).trans (hF1 340 25 rfl)) ((funext fun j => hF2 339 j rfl).trans (funext fun j => hF1 339 j rfl)) ((funext fun j => hF2 353 j rfl).trans (funext fun j => hF1 353 j rfl)))⟩⟩ hS hl

set_option maxHeartbeats 4000000 in
set_option maxRecDepth 100000 in
theorem k_crowned {p : Program} {e : Env} {s : State} {m : MethodId} {below : List Frame} {meth : Method} {c : Code} (l : Launch) {b L z : Nat} {xs : Nat → Int32} {g : dkG} {Q : State → Prop} {H : Heap} {locs : List Loc} {ls : Array Slot} {I : dkI} {x : Int32} (hz0 : z = s.heap.size) (hx : p.tables.exec = Jvm.exec) (hb : c.code = code) (hml : c.maxLocals = 4) (hown : s.vm.findClass RL = some m.cls) (hts : ∀ w ∈ wsL_law, w.before #[Value.ref b] s = true) (hX : va_X b L xs s s.heap) (hbl : b < s.heap.size) (hL : L ≤ 448) (hx0 : 0 ≤ x.toInt) (hx1 : x.toInt + 7 ≤ (L : Int)) (hK : dkK g s) (hT : dkST z s) (hW : dkW g z I H) (hI : dkInv I) (hS : va_S (dkA z) s.heap H locs) (hl : lv_has ls 4 [(3, .int x), (2, .ref (z + 340)), (1, .ref (z + 0)), (0, .ref b)]) (hend : ∀ (I : dkI) (H : Heap) (locs : List Loc) (ls : Array Slot), dkW g z I H → dkInv I → va_S (dkA z) s.heap H locs → lv_has ls 4 [(3, .int x), (2, .ref (z + 340)), (1, .ref (z + 0)), (0, .ref b)] → W p l e room_1 s m #[Value.ref b] below meth c H locs (0 + 1 + 339 + 1 + 13) (0 + 10 + 2701 + 26 + 2055) Q (F0 m 1302 ls [])) : W p l e room_1 s m #[Value.ref b] below meth c H locs (0 + 1 + 339 + 1 + 13) (0 + 10 + 2701 + 26 + 2055) Q (F0 m 680 ls []) := by
  have hbA : ¬ dkA z b := by unfold dkA; omega
  obtain ⟨hO, hP, hR⟩ := hI
  have hO0 := hO
  have hP0 := hP
  have hin : ∀ k : Nat, k < 7 → vp_in (x + Int32.ofNat k) L := fun k hk => dk_lawIn hx0 hx1 hL hk
  obtain ⟨a1, ha1⟩ : ∃ y : Int32, xs (Int32.toNatClampNeg (x + 1)) = y := ⟨_, rfl⟩
  refine lv_aload_n hx hb dL_law_680 rfl (lv_at hl 2 rfl) ?_
  refine lv_aload_n hx hb dL_law_681 rfl (lv_at hl 3 rfl) ?_
  refine lv_iload_n hx hb dL_law_682 rfl (lv_at hl 0 rfl) ?_
  refine lv_iconst (v := 1) hx hb dL_law_683 (by decide) ?_
  refine lv_iadd hx hb dL_law_684 ?_
  refine va_sld hx hb hX hbl hbA hS (hin 1 (by decide)) dL_law_685 ?_
  rw [ha1]
  refine dk_Vi (As := [.int a1]) (rest := []) ⟨hx, hb, hml, hown, hts⟩ (c_X5_crowned_0 l g z I a1 hO) (cwV 1 hts gL_law_X5_crowned rfl rfl rfl (by decide +kernel) ⟨Nat.le_of_ble_eq_true rfl, Nat.le_of_ble_eq_true rfl⟩) (dk_at0 hW) rfl hK hT hW hS rfl hl.1 rfl (Nat.le_of_ble_eq_true rfl) dL_law_686 ⟨Nat.le_of_ble_eq_true rfl, Nat.le_of_ble_eq_true rfl⟩ (fun v1 I1 H L hp1 hW hS => ?_)
  obtain ⟨hF1, hO, hc1⟩ := hp1
  have hP := dkPP_F hP hF1 rfl
  refine lv_pop hx hb dL_law_689 rfl ?_
  refine lv_aload_n hx hb dL_law_690 rfl (lv_at hl 1 rfl) ?_
  refine lv_aload_n hx hb dL_law_691 rfl (lv_at hl 3 rfl) ?_
  refine lv_iload_n hx hb dL_law_692 rfl (lv_at hl 0 rfl) ?_
  refine lv_iconst (v := 1) hx hb dL_law_693 (by decide) ?_
  refine lv_iadd hx hb dL_law_694 ?_
  refine va_sld hx hb hX hbl hbA hS (hin 1 (by decide)) dL_law_695 ?_
  rw [ha1]
  refine dk_Vi (As := [.int a1]) (rest := []) ⟨hx, hb, hml, hown, hts⟩ (c_X6_crowned_0 l g z I1 a1 hO) (cwV 1 hts gL_law_X6_crowned rfl rfl rfl (by decide +kernel) ⟨Nat.le_of_ble_eq_true rfl, Nat.le_of_ble_eq_true rfl⟩) (dk_at340 hW) rfl hK hT hW hS rfl hl.1 rfl (Nat.le_of_ble_eq_true rfl) dL_law_696 ⟨Nat.le_of_ble_eq_true rfl, Nat.le_of_ble_eq_true rfl⟩ (fun v2 I2 H L hp2 hW hS => ?_)
  obtain ⟨hF2, hO, hc2⟩ := hp2
  have hP := dkPP_F hP hF2 rfl
  refine lv_pop hx hb dL_law_699 rfl ?_
  refine lv_goto (tgt := 1302) hx hb dL_law_700 (by decide) ?_
  exact hend I2 _ _ ls hW ⟨hO, hP, ⟨(dkQQ_F (dkQQ_F hR.1 hF1 rfl) hF2 rfl), (dkTap_k hR.2.1 ((hF2 12 1 rfl).trans (hF1 12 1 rfl)) ((hF2 340 6 rfl).trans (hF1 340 6 rfl)) ((funext fun j => hF2 13 j rfl).trans (funext fun j => hF1 13 j rfl)) ((funext fun j => hF2 345 j rfl).trans (funext fun j => hF1 345 j rfl))), (dkNo_k hR.2.2.1 hO0 ((hF2 25 0 rfl).trans (hF1 25 0 rfl)) ((hF2 25 4 rfl).trans (hF1 25 4 rfl)) ((hF2 25 11 rfl).trans (hF1 25 11 rfl)) ((funext fun j => hF2 32 j rfl).trans (funext fun j => hF1 32 j rfl)) ((hF2 346 0 rfl).trans (hF1 346 0 rfl)) ((hF2 346 4 rfl).trans (hF1 346 4 rfl)) ((hF2 346 5 rfl).trans (hF1 346 5 rfl)) (fun j hj => by rcases (by omega : j = 0 ∨ j = 1 ∨ j = 2 ∨ j = 3 ∨ j = 4 ∨ j = 5) with rfl | rfl | rfl | rfl | rfl | rfl <;> exact (hF2 346 _ rfl).trans (hF1 346 _ rfl))), (dkIm_k (k := 0) hR.2.2.2.1 ((hF2 37 0 rfl).trans (hF1 37 0 rfl)) ((hF2 37 4 rfl).trans (hF1 37 4 rfl)) ((hF2 37 11 rfl).trans (hF1 37 11 rfl)) ((funext fun j => hF2 44 j rfl).trans (funext fun j => hF1 44 j rfl)) ((funext fun j => hF2 350 j rfl).trans (funext fun j => hF1 350 j rfl)) ((funext fun j => hF2 351 j rfl).trans (funext fun j => hF1 351 j rfl))), (dkIm_k (k := 1) hR.2.2.2.2.1 ((hF2 48 0 rfl).trans (hF1 48 0 rfl)) ((hF2 48 4 rfl).trans (hF1 48 4 rfl)) ((hF2 48 11 rfl).trans (hF1 48 11 rfl)) ((funext fun j => hF2 55 j rfl).trans (funext fun j => hF1 55 j rfl)) ((funext fun j => hF2 350 j rfl).trans (funext fun j => hF1 350 j rfl)) ((funext fun j => hF2 351 j rfl).trans (funext fun j => hF1 351 j rfl))), (dkTr_k hR.2.2.2.2.2 ((hF2 338 2 rfl).trans (hF1 338 2 rfl)) ((hF2 340 25 rfl).trans (hF1 340 25 rfl)) ((funext fun j => hF2 339 j rfl).trans (funext fun j => hF1 339 j rfl)) ((funext fun j => hF2 353 j rfl).trans (funext fun j => hF1 353 j rfl)))⟩⟩ hS hl
