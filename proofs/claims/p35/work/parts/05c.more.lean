/-! frames by place of the list -/
theorem dkIn_at {ms : dkM} {k j a b c d i : Nat} (h : ms[i]? = some (a, b, c, d)) (h1 : a ≤ k) (h2 : k ≤ b) (h3 : c ≤ j) (h4 : j ≤ d) : dkIn ms k j = true := by
  refine List.any_eq_true.mpr ⟨_, List.mem_of_getElem? h, ?_⟩
  rw [Bool.and_eq_true, Bool.and_eq_true, Bool.and_eq_true]
  exact ⟨⟨⟨decide_eq_true h1, decide_eq_true h2⟩, decide_eq_true h3⟩, decide_eq_true h4⟩
theorem dk_clr {lo hi : Nat} {S : dkS} {x : Int32} (hx : dkN S x) (h : dkAll1 S (fun p => decide ((lo : Int) ≤ p.1) && decide (p.2 ≤ (hi : Int))) = true) : lo ≤ x.toNatClampNeg ∧ x.toNatClampNeg ≤ hi := by
  obtain ⟨p, hp, h1, h2⟩ := hx
  have h9 := dkAll1_of h hp
  rw [Bool.and_eq_true] at h9
  have e1 := of_decide_eq_true h9.1
  have e2 := of_decide_eq_true h9.2
  have e3 := dk_cln (i := x) (by omega)
  omega
theorem dkIn_atv {ms : dkM} {k a b c d i : Nat} {x : Int32} {S : dkS} (h : ms[i]? = some (a, b, c, d)) (h1 : a ≤ k) (h2 : k ≤ b) (hx : dkN S x) (hs : dkAll1 S (fun p => decide ((c : Int) ≤ p.1) && decide (p.2 ≤ (d : Int))) = true) : dkIn ms k x.toNatClampNeg = true :=
  dkIn_at h h1 h2 (dk_clr hx hs).1 (dk_clr hx hs).2
theorem dk_cl54 {n : Nat} {S : dkS} {x : Int32} (hx : dkN S x) (h : dkAll1 S (fun p => decide (0 ≤ p.1) && decide (p.2 + 54 ≤ (n : Int))) = true) : 0 ≤ x.toInt ∧ x.toNatClampNeg + 54 ≤ n := by
  obtain ⟨p, hp, h1, h2⟩ := hx
  have h9 := dkAll1_of h hp
  rw [Bool.and_eq_true] at h9
  have e1 := of_decide_eq_true h9.1
  have e2 := of_decide_eq_true h9.2
  have e3 := dk_cln (i := x) (by omega)
  omega
def dkSubP (ns ms : dkM) : Prop := ∀ q, q ∈ ns → ∃ r, r ∈ ms ∧ r.1 ≤ q.1 ∧ q.2.1 ≤ r.2.1 ∧ r.2.2.1 ≤ q.2.2.1 ∧ q.2.2.2 ≤ r.2.2.2
theorem dkSub_nil {ms : dkM} : dkSubP [] ms := fun _ h => absurd h List.not_mem_nil
theorem dkSub_cons {ns ms : dkM} {i a b c d a' b' c' d' : Nat} (h : ms[i]? = some (a, b, c, d)) (h1 : a ≤ a') (h2 : b' ≤ b) (h3 : c ≤ c') (h4 : d' ≤ d) (t : dkSubP ns ms) : dkSubP ((a', b', c', d') :: ns) ms := by
  intro q hq
  rcases List.mem_cons.mp hq with rfl | hq
  · exact ⟨_, List.mem_of_getElem? h, h1, h2, h3, h4⟩
  · exact t q hq
theorem dkF_callP {ms ns : dkM} {I I1 I2 : dkI} (h : dkF ms I I1) (h2 : dkF ns I1 I2) (hs : dkSubP ns ms) : dkF ms I I2 := by
  intro k j hk
  have h3 : dkIn ns k j = false := by
    rw [← Bool.not_eq_true]
    intro h4
    obtain ⟨q, hq, h5⟩ := List.any_eq_true.mp h4
    rw [Bool.and_eq_true, Bool.and_eq_true, Bool.and_eq_true] at h5
    have e1 := of_decide_eq_true h5.1.1.1
    have e2 := of_decide_eq_true h5.1.1.2
    have e3 := of_decide_eq_true h5.1.2
    have e4 := of_decide_eq_true h5.2
    obtain ⟨r, hr, g1, g2, g3, g4⟩ := hs q hq
    have : dkIn ms k j = true := by
      refine List.any_eq_true.mpr ⟨r, hr, ?_⟩
      rw [Bool.and_eq_true, Bool.and_eq_true, Bool.and_eq_true]
      exact ⟨⟨⟨decide_eq_true (by omega), decide_eq_true (by omega)⟩, decide_eq_true (by omega)⟩, decide_eq_true (by omega)⟩
    rw [this] at hk
    cases hk
  rw [h2 k j h3, h k j hk]
def dkHullP (lo hi : Nat) (ns : dkM) : Prop := ∀ q, q ∈ ns → lo ≤ q.1 ∧ q.2.1 ≤ hi ∧ q.2.2.2 ≤ 2147483647
theorem dkHull_nil {lo hi : Nat} : dkHullP lo hi [] := fun _ h => absurd h List.not_mem_nil
theorem dkHull_cons {lo hi a b c d : Nat} {ns : dkM} (h1 : lo ≤ a) (h2 : b ≤ hi) (h3 : d ≤ 2147483647) (t : dkHullP lo hi ns) : dkHullP lo hi ((a, b, c, d) :: ns) := by
  intro q hq
  rcases List.mem_cons.mp hq with rfl | hq
  · exact ⟨h1, h2, h3⟩
  · exact t q hq
theorem dkF_hullP {ms ns : dkM} {lo hi : Nat} {I I1 I2 : dkI} (h : dkF ms I I1) (h2 : dkF ns I1 I2) (hs : dkHullP lo hi ns) (hm : dkSubM [(lo, hi, 0, 2147483647)] ms = true) : dkF ms I I2 := by
  refine dkF_call h (dkF_callP (dkF_rf [(lo, hi, 0, 2147483647)] I1) h2 fun q hq => ?_) hm
  exact ⟨_, List.mem_cons_self, (hs q hq).1, (hs q hq).2.1, Nat.zero_le _, (hs q hq).2.2⟩
/-! ints -/
theorem dkN_mulPt {T U : dkS} {x y : Int32} (c : Int) (hx : dkN [(c, c)] x) (hy : dkN T y) (h : dkAll1 T (fun p => (List.range (p.2 - p.1 + 1).toNat).all fun t => decide (-2147483648 ≤ (p.1 + (t : Nat)) * c) && decide ((p.1 + (t : Nat)) * c ≤ 2147483647) && dkHas U ((p.1 + (t : Nat)) * c) ((p.1 + (t : Nat)) * c)) = true) : dkN U (x * y) := by
  obtain ⟨p, hp, h1, h2⟩ := hy
  have hx := dkN_one hx
  have h9 := List.all_eq_true.mp (dkAll1_of h hp) (y.toInt - p.1).toNat (List.mem_range.mpr (by omega))
  rw [show p.1 + (((y.toInt - p.1).toNat : Nat) : Int) = y.toInt by omega, Bool.and_eq_true, Bool.and_eq_true] at h9
  have e1 := of_decide_eq_true h9.1.1
  have e2 := of_decide_eq_true h9.1.2
  have e : (x * y).toInt = y.toInt * c := by rw [Int32.toInt_mul, hx, Int.mul_comm]; exact dk_bm e1 e2
  exact dkHas_of h9.2 (by rw [e]; omega) (by rw [e]; omega)
theorem dkN_ge {S : dkS} {i : Int32} (hi : dkN S i) (h : dkAll1 S (fun p => decide (0 ≤ p.1)) = true) : ¬ i < 0 := by
  obtain ⟨p, hp, h1, h2⟩ := hi
  have e1 := of_decide_eq_true (dkAll1_of h hp)
  intro q
  have := dk_lt q
  have h0 : (0 : Int32).toInt = 0 := rfl
  omega
/-- (FRIDAYS to come, MINUTES to the BELL) -/
def dkMu (b L M : Int32) : Nat := (9 - b.toInt).toNat * 4294967296 + (L - M - 1).toBitVec.toNat
theorem dk_muB {b b' L L' M M' : Int32} {n : Nat} (h : dkMu b L M < n + 1) (e : b'.toInt = b.toInt + 1) (hb : b.toInt < 9) : dkMu b' L' M' < n := by
  unfold dkMu at h ⊢
  have h9 : (L' - M' - 1).toBitVec.toNat < 4294967296 := (L' - M' - 1).toBitVec.isLt
  have e1 : (9 - b.toInt).toNat = (9 - b'.toInt).toNat + 1 := by omega
  rw [e1] at h
  generalize (L' - M' - 1).toBitVec.toNat = u at h9 ⊢
  generalize (L - M - 1).toBitVec.toNat = w at h
  generalize (9 - b'.toInt).toNat = t at h ⊢
  have h8 : t * 4294967296 + u < (t + 1) * 4294967296 := by
    rw [Nat.succ_mul]
    exact Nat.add_lt_add_left h9 _
  exact Nat.lt_of_lt_of_le h8 (Nat.le_trans (Nat.le_add_right _ w) (Nat.le_of_lt_succ h))
theorem dk_muN {b L L' M M' : Int32} {n : Nat} (h : dkMu b L M < n + 1) (eL : L' = L) (eM : M' = M + 1) (hne : ¬ M' = L') : dkMu b L' M' < n := by
  subst eL
  subst eM
  unfold dkMu at h ⊢
  have h1 : L' - M - 1 ≠ 0 := fun q => hne (by
    have h2 : L' = L' - M - 1 + (M + 1) := by rw [Int32.add_comm M 1, ← Int32.add_assoc, Int32.sub_add_cancel, Int32.sub_add_cancel]
    rw [q, Int32.zero_add] at h2
    exact h2.symm)
  have h3 : L' - (M + 1) - 1 = L' - M - 1 - 1 := by simp only [Int32.sub_eq_add_neg, Int32.neg_add, Int32.add_assoc]
  rw [h3]
  have h4 : (L' - M - 1).toBitVec.toNat ≠ 0 := fun q => h1 (Int32.toBitVec_inj.mp (BitVec.eq_of_toNat_eq q))
  have h5 : (L' - M - 1 - 1).toBitVec.toNat = (L' - M - 1).toBitVec.toNat - 1 := by
    show ((L' - M - 1).toBitVec - 1#32).toNat = _
    rw [BitVec.toNat_sub]
    have h6 : (L' - M - 1).toBitVec.toNat < 4294967296 := (L' - M - 1).toBitVec.isLt
    show (4294967296 - 1 + (L' - M - 1).toBitVec.toNat) % 4294967296 = _
    omega
  rw [h5]
  generalize (L' - M - 1).toBitVec.toNat = w at h h4 ⊢
  generalize (9 - b.toInt).toNat * 4294967296 = t at h ⊢
  omega
/-! i + n ≤ 40 and what comes of it -/
theorem dk_relsub {u i w n : Int32} {S T : dkS} (e : w = u - i) (du : dkN S u) (di : dkN T i) (o : n.toInt + 0 ≤ w.toInt) (h : dkAll2 S T (fun p q => decide (p.2 ≤ 40) && decide (-2147483648 ≤ p.1 - q.2) && decide (p.2 - q.1 ≤ 2147483647)) = true) : i.toInt + n.toInt ≤ 40 := by
  obtain ⟨p, hp, h1, h2⟩ := du
  obtain ⟨q, hq, h3, h4⟩ := di
  have h9 := dkAll2_of h hp hq
  rw [Bool.and_eq_true, Bool.and_eq_true] at h9
  have e1 := of_decide_eq_true h9.1.1
  have e2 := of_decide_eq_true h9.1.2
  have e3 := of_decide_eq_true h9.2
  have e4 : w.toInt = u.toInt - i.toInt := by rw [e, Int32.toInt_sub]; exact dk_bm (by omega) (by omega)
  omega
theorem dk_relsubR {u i w n : Int32} {S T : dkS} (e : w = u - n) (du : dkN S u) (di : dkN T n) (o : i.toInt + 0 ≤ w.toInt) (h : dkAll2 S T (fun p q => decide (p.2 ≤ 40) && decide (-2147483648 ≤ p.1 - q.2) && decide (p.2 - q.1 ≤ 2147483647)) = true) : i.toInt + n.toInt ≤ 40 := by
  have := dk_relsub e du di o h
  omega
theorem dk_40 {w r : Int32} (e : w = 40 * r) (h : 0 ≤ r.toInt ∧ r.toInt ≤ 7) : w.toInt = 40 * r.toInt := by
  rw [e, Int32.toInt_mul]
  exact dk_bm (by show _ ≤ 40 * r.toInt; omega) (by show 40 * r.toInt ≤ _; omega)
theorem dk_rel320 {w r f i n : Int32} {S T : dkS} (ew : w = 40 * r) (ef : f = w + i) (dr : dkN S r) (di : dkN T i) (q : i.toInt + n.toInt ≤ 40) (h : dkAll2 S T (fun p q => decide (0 ≤ p.1) && decide (p.2 ≤ 7) && decide (0 ≤ q.1) && decide (q.2 ≤ 40)) = true) : f.toInt + n.toInt ≤ 320 := by
  obtain ⟨p, hp, h1, h2⟩ := dr
  obtain ⟨q, hq, h3, h4⟩ := di
  have h9 := dkAll2_of h hp hq
  rw [Bool.and_eq_true, Bool.and_eq_true, Bool.and_eq_true] at h9
  have e1 := of_decide_eq_true h9.1.1.1
  have e2 := of_decide_eq_true h9.1.1.2
  have e3 := of_decide_eq_true h9.1.2
  have e4 := of_decide_eq_true h9.2
  have e5 := dk_40 ew (by omega)
  have e6 : f.toInt = w.toInt + i.toInt := by rw [ef, Int32.toInt_add]; exact dk_bm (by omega) (by omega)
  omega
theorem dk_inSeen {v f k n : Int32} {S T : dkS} (e : v = f + k) (df : dkN S f) (dk : dkN T k) (o : k.toInt + 1 ≤ n.toInt) (m : f.toInt + n.toInt ≤ 320) (h : dkAll2 S T (fun p q => decide (0 ≤ p.1) && decide (0 ≤ q.1)) = true) : vp_in v 320 := by
  obtain ⟨p, hp, h1, h2⟩ := df
  obtain ⟨q, hq, h3, h4⟩ := dk
  have h9 := dkAll2_of h hp hq
  rw [Bool.and_eq_true] at h9
  have e1 := of_decide_eq_true h9.1
  have e2 := of_decide_eq_true h9.2
  have e4 : v.toInt = f.toInt + k.toInt := by rw [e, Int32.toInt_add]; exact dk_bm (by omega) (by omega)
  exact vp_in_iff.mpr ⟨by omega, by show v.toInt < ((320 : Nat) : Int); omega⟩
theorem dk_in320 {w r v0 i v k n : Int32} {S T U : dkS} (ew : w = 40 * r) (e0 : v0 = w + i) (ev : v = v0 + k) (dr : dkN S r) (di : dkN T i) (dk : dkN U k) (o : k.toInt + 1 ≤ n.toInt) (q : i.toInt + n.toInt ≤ 40) (h : (dkAll2 S T (fun p q => decide (0 ≤ p.1) && decide (p.2 ≤ 7) && decide (0 ≤ q.1) && decide (q.2 ≤ 40)) && dkAll1 U (fun p => decide (0 ≤ p.1))) = true) : vp_in v 320 := by
  rw [Bool.and_eq_true] at h
  have h5 := dk_rel320 ew e0 dr di q h.1
  obtain ⟨p, hp, h1, h2⟩ := dr
  obtain ⟨q, hq, h3, h4⟩ := di
  obtain ⟨r, hr, g1, g2⟩ := dk
  have h9 := dkAll2_of h.1 hp hq
  rw [Bool.and_eq_true, Bool.and_eq_true, Bool.and_eq_true] at h9
  have e1 := of_decide_eq_true h9.1.1.1
  have e2 := of_decide_eq_true h9.1.1.2
  have e3 := of_decide_eq_true h9.1.2
  have e4 := of_decide_eq_true h9.2
  have e7 := of_decide_eq_true (dkAll1_of h.2 hr)
  have e5 := dk_40 ew (by omega)
  have e6 : v0.toInt = w.toInt + i.toInt := by rw [e0, Int32.toInt_add]; exact dk_bm (by omega) (by omega)
  have e8 : v.toInt = v0.toInt + k.toInt := by rw [ev, Int32.toInt_add]; exact dk_bm (by omega) (by omega)
  exact vp_in_iff.mpr ⟨by omega, by show v.toInt < ((320 : Nat) : Int); omega⟩
theorem dk_sum {a x : Int32} {A : Nat} (h0 : 0 ≤ a.toInt) (hA : a.toNatClampNeg = A) (hx : 0 ≤ x.toInt) (hb : (A : Int) + x.toInt ≤ 2147483647) : (a + x).toInt = (A : Int) + x.toInt ∧ (a + x).toNatClampNeg = A + x.toNatClampNeg := by
  have e1 := dk_cln h0
  have e2 := dk_cln hx
  have e3 : (a + x).toInt = (A : Int) + x.toInt := by rw [Int32.toInt_add, ← e1, hA]; exact dk_bm (by omega) (by omega)
  have e4 := dk_cln (i := a + x) (by omega)
  omega
theorem dkO_rows {I I1 : dkI} (hO : dkOk I) (hF : dkF [(2, 9, 0, 2147483647)] I I1) : dkOk I1 := by
  intro k j
  by_cases h : 2 ≤ k ∧ k < 10
  · rw [dkB_R h]
    exact dkN_top _
  · rw [hF k j (by
      rw [← Bool.not_eq_true]
      intro q
      obtain ⟨r, hr, h5⟩ := List.any_eq_true.mp q
      rw [List.mem_singleton] at hr
      subst hr
      rw [Bool.and_eq_true, Bool.and_eq_true, Bool.and_eq_true] at h5
      have e1 := of_decide_eq_true h5.1.1.1
      have e2 := of_decide_eq_true h5.1.1.2
      simp only at e1 e2
      omega)]
    exact hO k j
theorem dkO_sh {I : dkI} (hO : dkOk I) {k : Nat} (hk : 346 ≤ k ∧ k ≤ 350) {i w : Int32} {S : dkS} (hi : dkN S i) (hw : w.toInt = 54) (h : dkAll1 S (fun p => decide (0 ≤ p.1) && decide (p.2 ≤ 2000)) = true) : dkN (dkB k i.toNatClampNeg) (I k (i + w).toNatClampNeg) := by
  obtain ⟨p, hp, h1, h2⟩ := hi
  have h9 := dkAll1_of h hp
  rw [Bool.and_eq_true] at h9
  have e1 := of_decide_eq_true h9.1
  have e2 := of_decide_eq_true h9.2
  have e3 := dk_cln (i := i) (by omega)
  have e4 := (dk_sum (a := i) (x := w) (by omega) rfl (by omega) (by omega)).2
  have e5 := dk_cln (i := w) (by omega)
  have h3 := hO k (i + w).toNatClampNeg
  rw [dkB_w1 hk] at h3 ⊢
  rw [show i.toNatClampNeg % 54 = (i + w).toNatClampNeg % 54 by omega]
  exact h3
/-! the reference's towns: what is fixed in them -/
def dkSt (j : Nat) : Bool := Nat.beq j 0 || Nat.beq j 1 || Nat.beq j 4 || Nat.beq j 5 || (Nat.ble 36 j && Nat.ble j 53 && Nat.beq (j % 3) 0)
def dkPP (I : dkI) : Prop := (dkN [(0, 0)] (I 346 0) ∨ dkN [(1, 5)] (I 346 4)) ∧ (∀ i, i < (I 340 17).toNatClampNeg → ∀ j, j < 54 → dkSt j = true → I 349 (54 * i + j) = I 346 j) ∧ (∀ i, i < 2 → ¬ I 351 i = 0 → dkN [(1, 9)] (I 350 (54 * i)) ∧ dkN [(1, 5)] (I 350 (54 * i + 4)))
def dkPPb (k j : Nat) : Bool := (Nat.beq k 346 && dkSt j) || Nat.beq k 349 || Nat.beq k 350 || Nat.beq k 351 || (Nat.beq k 340 && Nat.beq j 17)
theorem dkPP_same {I I1 : dkI} (hP : dkPP I) (h : ∀ k j, dkPPb k j = true → I1 k j = I k j) : dkPP I1 := by
  obtain ⟨h1, h2, h3⟩ := hP
  refine ⟨?_, ?_, ?_⟩
  · rw [h 346 0 rfl, h 346 4 rfl]
    exact h1
  · intro i hi j hj hs
    rw [h 340 17 rfl] at hi
    rw [h 349 _ (by simp [dkPPb]), h 346 j (by simp [dkPPb, hs])]
    exact h2 i hi j hj hs
  · intro i hi hk
    rw [h 351 i (by simp [dkPPb])] at hk
    rw [h 350 _ (by simp [dkPPb]), h 350 _ (by simp [dkPPb])]
    exact h3 i hi hk
theorem dkPP_set {I I1 : dkI} {k j : Nat} {v : Int32} (hP : dkPP I) (e : I1 = dkU I k j v) (hb : dkPPb k j = false) : dkPP I1 := by
  refine dkPP_same hP fun k' j' h => ?_
  subst e
  by_cases h1 : k' = k
  · subst h1
    by_cases h2 : j' = j
    · subst h2
      rw [hb] at h
      cases h
    · exact dkU_sn h2
  · rw [dkU_n h1]
theorem dkPPb_v {k : Nat} {i : Int32} {S : dkS} (hi : dkN S i) (h : (!Nat.beq k 349 && !Nat.beq k 350 && !Nat.beq k 351 && !Nat.beq k 340 && (!Nat.beq k 346 || dkAll1 S (fun p => decide (0 ≤ p.1) && (List.range (p.2 - p.1 + 1).toNat).all fun t => !dkSt (p.1.toNat + t)))) = true) : dkPPb k i.toNatClampNeg = false := by
  rw [Bool.and_eq_true, Bool.and_eq_true, Bool.and_eq_true, Bool.and_eq_true] at h
  obtain ⟨⟨⟨⟨a1, a2⟩, a3⟩, a4⟩, a5⟩ := h
  rw [Bool.not_eq_true'] at a1 a2 a3 a4
  unfold dkPPb
  rw [a1, a2, a3, a4]
  rw [Bool.or_eq_true, Bool.not_eq_true'] at a5
  rcases a5 with a5 | a5
  · rw [a5]
    rfl
  · obtain ⟨p, hp, h1, h2⟩ := hi
    have h9 := dkAll1_of a5 hp
    rw [Bool.and_eq_true] at h9
    have e1 := of_decide_eq_true h9.1
    have e3 := dk_cln (i := i) (by omega)
    have h8 := List.all_eq_true.mp h9.2 (i.toInt - p.1).toNat (List.mem_range.mpr (by omega))
    rw [show p.1.toNat + (i.toInt - p.1).toNat = i.toNatClampNeg by omega, Bool.not_eq_true'] at h8
    rw [h8]
    simp
def dkPPf1 (q : Nat × Nat × Nat × Nat) : Bool := Nat.ble q.2.1 339 || Nat.ble 352 q.1 || (Nat.beq q.1 340 && Nat.beq q.2.1 340 && (Nat.ble q.2.2.2 16 || Nat.ble 18 q.2.2.1)) || (Nat.ble 341 q.1 && Nat.ble q.2.1 345) || (Nat.ble 347 q.1 && Nat.ble q.2.1 348) || (Nat.beq q.1 346 && Nat.beq q.2.1 346 && Nat.ble q.2.2.2 53 && (List.range (q.2.2.2 - q.2.2.1 + 1)).all fun t => !dkSt (q.2.2.1 + t))
theorem dkPP_F {ms : dkM} {I I1 : dkI} (hP : dkPP I) (hF : dkF ms I I1) (h : (ms.all fun q => dkPPf1 q) = true) : dkPP I1 := by
  refine dkPP_same hP fun k j hb => hF k j ?_
  rw [← Bool.not_eq_true]
  intro h4
  obtain ⟨q, hq, h5⟩ := List.any_eq_true.mp h4
  rw [Bool.and_eq_true, Bool.and_eq_true, Bool.and_eq_true] at h5
  have e1 := of_decide_eq_true h5.1.1.1
  have e2 := of_decide_eq_true h5.1.1.2
  have e3 := of_decide_eq_true h5.1.2
  have e4 := of_decide_eq_true h5.2
  have h6 := List.all_eq_true.mp h q hq
  have hb2 : (k = 346 ∧ dkSt j = true) ∨ k = 349 ∨ k = 350 ∨ k = 351 ∨ (k = 340 ∧ j = 17) := by
    unfold dkPPb at hb
    simp only [Bool.or_eq_true, Bool.and_eq_true, Nat.beq_eq] at hb
    rcases hb with (((hb | hb) | hb) | hb) | hb
    · exact Or.inl hb
    · exact Or.inr (Or.inl hb)
    · exact Or.inr (Or.inr (Or.inl hb))
    · exact Or.inr (Or.inr (Or.inr (Or.inl hb)))
    · exact Or.inr (Or.inr (Or.inr (Or.inr hb)))
  have hb3 : k = 346 ∨ k = 349 ∨ k = 350 ∨ k = 351 ∨ (k = 340 ∧ j = 17) := by
    rcases hb2 with hb | hb
    · exact Or.inl hb.1
    · exact Or.inr hb
  unfold dkPPf1 at h6
  simp only [Bool.or_eq_true, Bool.and_eq_true, Nat.beq_eq, Nat.ble_eq] at h6
  rcases h6 with ((((g | g) | g) | g) | g) | g
  · omega
  · omega
  · omega
  · omega
  · omega
  · rcases hb2 with ⟨rfl, hs⟩ | hb2
    · have h8 := List.all_eq_true.mp g.2 (j - q.2.2.1) (List.mem_range.mpr (by omega))
      rw [show q.2.2.1 + (j - q.2.2.1) = j by omega, hs] at h8
      cases h8
    · omega
theorem dkPP_nw {I : dkI} (hP : dkPP I) {i : Nat} (hi : i < (I 340 17).toNatClampNeg) {I1 : dkI} {x : Nat} (hx : x = 54 * i) (e : I1 = dkCp I 349 346 x 0) (j : Nat) (hj : j < 54) (hs : dkSt j = true) : I1 346 j = I 346 j := by
  rw [dkCp_in e ⟨Nat.zero_le _, by omega⟩, hx, show 54 * i + (j - 0) = 54 * i + j by omega]
  exact hP.2.1 i hi j hj hs
theorem dkPP_undo {I I1 I2 : dkI} {S : dkS} {w v u x : Int32} (hP : dkPP I) (dw : dkN S w) (ew : w = I 340 17) (ev : v = w - 1) (e1 : I1 = dkU I 340 17 v) (eu : u = I1 340 17) (ex : x = 54 * u) (e2 : I2 = dkCp I1 349 346 x.toNatClampNeg 0) (h : dkAll1 S (fun p => decide (1 ≤ p.1) && decide (p.2 ≤ 24)) = true) : dkPP I2 := by
  obtain ⟨p, hp, h1, h2⟩ := dw
  have h9 := dkAll1_of h hp
  rw [Bool.and_eq_true] at h9
  have b1 := of_decide_eq_true h9.1
  have b2 := of_decide_eq_true h9.2
  have c0 := dk_cln (i := w) (by omega)
  have c1 : v.toInt = w.toInt - 1 := by rw [ev, Int32.toInt_sub]; exact dk_bm (by show _ ≤ w.toInt - 1; omega) (by show w.toInt - 1 ≤ _; omega)
  have c2 := dk_cln (i := v) (by omega)
  rw [e1, dkU_ss] at eu
  subst eu
  have c3 : x.toInt = 54 * u.toInt := by rw [ex, Int32.toInt_mul]; exact dk_bm (by show _ ≤ 54 * u.toInt; omega) (by show 54 * u.toInt ≤ _; omega)
  have c4 := dk_cln (i := x) (by omega)
  have hn : ∀ j, j < 54 → dkSt j = true → I2 346 j = I 346 j := by
    intro j hj hs
    rw [dkCp_in e2 ⟨Nat.zero_le _, by omega⟩, e1, dkU_n (by decide), show x.toNatClampNeg + (j - 0) = 54 * u.toNatClampNeg + j by omega]
    exact hP.2.1 _ (by rw [← ew]; omega) j hj hs
  have ho : ∀ k j, k ≠ 346 → (k ≠ 340 ∨ j ≠ 17) → I2 k j = I k j := by
    intro k j hk hkj
    rw [dkCp_n e2 hk, e1]
    rcases hkj with hkj | hkj
    · rw [dkU_n hkj]
    · by_cases q : k = 340
      · subst q
        exact dkU_sn hkj
      · rw [dkU_n q]
  have ha : I2 340 17 = u := by rw [dkCp_n e2 (by decide), e1, dkU_ss]
  refine ⟨?_, ?_, ?_⟩
  · rw [hn 0 (by decide) rfl, hn 4 (by decide) rfl]
    exact hP.1
  · intro i hi j hj hs
    rw [ha] at hi
    rw [hn j hj hs, ho 349 _ (by decide) (Or.inl (by decide))]
    exact hP.2.1 i (by rw [← ew]; omega) j hj hs
  · intro i hi hk
    rw [ho 351 _ (by decide) (Or.inl (by decide))] at hk
    rw [ho 350 _ (by decide) (Or.inl (by decide)), ho 350 _ (by decide) (Or.inl (by decide))]
    exact hP.2.2 i hi hk
theorem dkPP_k54 {k x : Int32} {S : dkS} (dk : dkN S k) (ex : x = 54 * k) (h : dkAll1 S (fun p => decide (0 ≤ p.1) && decide (p.2 ≤ 1)) = true) : x.toNatClampNeg = 54 * k.toNatClampNeg ∧ k.toNatClampNeg < 2 := by
  obtain ⟨p, hp, h1, h2⟩ := dk
  have h9 := dkAll1_of h hp
  rw [Bool.and_eq_true] at h9
  have b1 := of_decide_eq_true h9.1
  have b2 := of_decide_eq_true h9.2
  have c2 := dk_cln (i := k) (by omega)
  have c3 : x.toInt = 54 * k.toInt := by rw [ex, Int32.toInt_mul]; exact dk_bm (by show _ ≤ 54 * k.toInt; omega) (by show 54 * k.toInt ≤ _; omega)
  have c4 := dk_cln (i := x) (by omega)
  omega
theorem dkPP_restore {I I1 I2 : dkI} {k v x : Int32} {S : dkS} (hP : dkPP I) (dk : dkN S k) (ev : v = I 351 k.toNatClampNeg) (hne : ¬ v = 0) (ex : x = 54 * k) (e1 : I1 = dkCp I 350 346 x.toNatClampNeg 0) (e2 : I2 = dkU I1 340 17 0) (h : dkAll1 S (fun p => decide (0 ≤ p.1) && decide (p.2 ≤ 1)) = true) : dkPP I2 := by
  obtain ⟨h1, h2⟩ := dkPP_k54 dk ex h
  have h3 := hP.2.2 _ h2 (by rw [← ev]; exact hne)
  refine ⟨Or.inr ?_, ?_, ?_⟩
  · rw [e2, dkU_n (by decide), dkCp_in e1 ⟨by decide, by decide⟩, h1]
    exact h3.2
  · intro i hi
    rw [e2, dkU_ss] at hi
    exact absurd hi (Nat.not_lt_zero _)
  · intro i hi hk
    rw [e2, dkU_n (by decide), dkCp_n e1 (by decide)] at hk
    rw [e2, dkU_n (by decide), dkCp_n e1 (by decide), dkCp_n e1 (by decide)]
    exact hP.2.2 i hi hk
theorem dkPP_image {I I1 I2 : dkI} {k x : Int32} {S : dkS} (hP : dkPP I) (dk : dkN S k) (ex : x = 54 * k) (e1 : I1 = dkCp I 346 350 0 x.toNatClampNeg) (e2 : I2 = dkU I1 351 k.toNatClampNeg 1) (h0 : dkN [(1, 9)] (I 346 0)) (h : dkAll1 S (fun p => decide (0 ≤ p.1) && decide (p.2 ≤ 1)) = true) : dkPP I2 := by
  obtain ⟨h1, h2⟩ := dkPP_k54 dk ex h
  have h4 : dkN [(1, 5)] (I 346 4) := by
    rcases hP.1 with q | q
    · obtain ⟨p, hp, g1, g2⟩ := h0
      have := dkN_one q
      rw [List.mem_singleton] at hp
      subst hp
      simp only at g1
      omega
    · exact q
  refine ⟨Or.inr ?_, ?_, ?_⟩
  · rw [e2, dkU_n (by decide), dkCp_n e1 (by decide)]
    exact h4
  · intro i hi j hj hs
    rw [e2, dkU_n (by decide), dkCp_n e1 (by decide)] at hi
    rw [e2, dkU_n (by decide), dkU_n (by decide), dkCp_n e1 (by decide), dkCp_n e1 (by decide)]
    exact hP.2.1 i hi j hj hs
  · intro i hi hk
    rw [e2, dkU_n (show (350 : Nat) ≠ 351 by decide)]
    by_cases q : i = k.toNatClampNeg
    · rw [dkCp_in e1 ⟨by omega, by omega⟩, dkCp_in e1 ⟨by omega, by omega⟩, show 0 + (54 * i - x.toNatClampNeg) = 0 by omega, show 0 + (54 * i + 4 - x.toNatClampNeg) = 4 by omega]
      exact ⟨h0, h4⟩
    · rw [e2, dkU_sn q, dkCp_n e1 (by decide)] at hk
      rw [dkCp_out e1 (by omega), dkCp_out e1 (by omega)]
      exact hP.2.2 i hi hk
theorem dkPP_town {I I1 I2 : dkI} (hP : dkPP I) (e1 : I1 = dkCp I 347 346 0 0) (e2 : I2 = dkU I1 340 17 0) (h4 : dkN [(1, 5)] (I 347 4)) : dkPP I2 := by
  refine ⟨Or.inr ?_, ?_, ?_⟩
  · rw [e2, dkU_n (by decide), dkCp_in e1 ⟨by decide, by decide⟩]
    exact h4
  · intro i hi
    rw [e2, dkU_ss] at hi
    exact absurd hi (Nat.not_lt_zero _)
  · intro i hi hk
    rw [e2, dkU_n (by decide), dkCp_n e1 (by decide)] at hk
    rw [e2, dkU_n (by decide), dkCp_n e1 (by decide), dkCp_n e1 (by decide)]
    exact hP.2.2 i hi hk
/-- an ACT more, room being there -/
theorem dkPP_note {I I1 I2 : dkI} {u x w v : Int32} (hP : dkPP I) (du : dkN [(0, 23)] u) (eu : u = I 340 17) (ex : x = 54 * u) (e1 : I1 = dkCp I 346 349 0 x.toNatClampNeg) (ew : w = I1 340 17) (ev : v = w + 1) (e2 : I2 = dkU I1 340 17 v) : dkPP I2 := by
  obtain ⟨p, hp, b1, b2⟩ := du
  rw [List.mem_singleton] at hp
  subst hp
  simp only at b1 b2
  have c0 := dk_cln (i := u) (by omega)
  have c3 : x.toInt = 54 * u.toInt := by rw [ex, Int32.toInt_mul]; exact dk_bm (by show _ ≤ 54 * u.toInt; omega) (by show 54 * u.toInt ≤ _; omega)
  have c4 := dk_cln (i := x) (by omega)
  rw [dkCp_n e1 (by decide), ← eu] at ew
  subst ew
  have c5 : v.toInt = w.toInt + 1 := by rw [ev, Int32.toInt_add]; exact dk_bm (by show _ ≤ w.toInt + 1; omega) (by show w.toInt + 1 ≤ _; omega)
  have c6 := dk_cln (i := v) (by omega)
  have ho : ∀ k j, k ≠ 349 → (k ≠ 340 ∨ j ≠ 17) → I2 k j = I k j := by
    intro k j hk hkj
    rcases hkj with hkj | hkj
    · rw [e2, dkU_n hkj, dkCp_n e1 hk]
    · by_cases q : k = 340
      · subst q
        rw [e2, dkU_sn hkj, dkCp_n e1 hk]
      · rw [e2, dkU_n q, dkCp_n e1 hk]
  refine ⟨?_, ?_, ?_⟩
  · rw [ho 346 0 (by decide) (Or.inl (by decide)), ho 346 4 (by decide) (Or.inl (by decide))]
    exact hP.1
  · intro i hi j hj hs
    rw [e2, dkU_ss] at hi
    rw [ho 346 j (by decide) (Or.inl (by decide)), e2, dkU_n (by decide)]
    by_cases q : i = w.toNatClampNeg
    · rw [dkCp_in e1 ⟨by omega, by omega⟩, show 0 + (54 * i + j - x.toNatClampNeg) = j by omega]
    · rw [dkCp_out e1 (by omega)]
      exact hP.2.1 i (by rw [← eu]; omega) j hj hs
  · intro i hi hk
    rw [ho 351 _ (by decide) (Or.inl (by decide))] at hk
    rw [ho 350 _ (by decide) (Or.inl (by decide)), ho 350 _ (by decide) (Or.inl (by decide))]
    exact hP.2.2 i hi hk
/-- the oldest is forgotten -/
theorem dkPP_shift {I I1 I2 : dkI} {n : Nat} {w v : Int32} (hP : dkPP I) (hn : n = 1242) (e1 : I1 = dkShn I n) (dw : dkN [(24, 24)] w) (ew : w = I1 340 17) (ev : v = w - 1) (e2 : I2 = dkU I1 340 17 v) : dkPP I2 := by
  subst hn
  have b := dkN_one dw
  have c1 : v.toInt = 23 := by rw [ev, Int32.toInt_sub, b]; rfl
  have c2 := dk_cln (i := v) (by omega)
  have c0 := dk_cln (i := w) (by omega)
  rw [dkShn_n e1 (by decide)] at ew
  refine ⟨?_, ?_, ?_⟩
  · rw [e2, dkU_n (by decide), dkShn_n e1 (by decide), dkShn_n e1 (by decide)]
    exact hP.1
  · intro i hi j hj hs
    rw [e2, dkU_ss] at hi
    rw [e2, dkU_n (by decide), dkU_n (by decide), dkShn_n e1 (show (346 : Nat) ≠ 349 by decide), dkShn_in e1 (by omega), show 54 * i + j + 54 = 54 * (i + 1) + j by omega]
    exact hP.2.1 (i + 1) (by rw [← ew]; omega) j hj hs
  · intro i hi hk
    rw [e2, dkU_n (by decide), dkShn_n e1 (by decide)] at hk
    rw [e2, dkU_n (by decide), dkShn_n e1 (by decide), dkShn_n e1 (by decide)]
    exact hP.2.2 i hi hk
section DKY
variable {p : Program} {l : Launch} {e : Env} {R : Room} {s : State} {m : MethodId} {args : Array Value} {below : List Frame} {meth : Method} {c : Code} {H : Heap} {locs : List Loc} {cells slots : Nat} {Q : State → Prop}
variable {cc : ByteArray} {pc : Nat} {ls : Array Slot} {rest : List Value} {g : dkG} {z : Nat} {I : dkI} {H0 : Heap}
/-- System.arraycopy from row to row -/
theorem dk_acopy (hexec : p.tables.exec = Jvm.exec) (hb : c.code = cc) (hml : c.maxLocals = ls.size) {own : String} {index : Nat} (hown : s.vm.findClass own = some m.cls) (hlink : (Cond.methodLink own index arraycopyName).before args s = true) (hnat : (Cond.native arraycopyName).before args s = true) (hstat : (Cond.static arraycopyName).before args s = true) (hini : (Cond.initialized "java/lang/System").before args s = true)
    (hK : dkK g s) (hW : dkW g z I H) (hS : va_S (dkA z) H0 H locs) {r1 r2 : Nat} (hr1 : 2 ≤ r1 ∧ r1 < 10) (hr2 : 2 ≤ r2 ∧ r2 < 10) {sp dp n : Int32} (h1 : ¬ sp < 0) (h2 : ¬ dp < 0) (h3 : ¬ n < 0) (q1 : sp.toInt + n.toInt ≤ 40) (q2 : dp.toInt + n.toInt ≤ 40)
    (hframes : 1 ≤ R.frames) (hlocals : (rest.map fun v => v.category).sum + (nativeFrameWords "java/lang/System" "arraycopy" 5 + 11) ≤ R.locals) (hdg : decode cc pc = .ok (.invokestatic index, 3))
    (kk : ∀ (I1 : dkI) (H1 : Heap) (locs1 : List Loc), dkF [(2, 9, 0, 2147483647)] I I1 → dkW g z I1 H1 → va_S (dkA z) H0 H1 locs1 → W p l e R s m args below meth c H1 locs1 cells slots Q (F0 m (pc + 3) ls rest)) : W p l e R s m args below meth c H locs cells slots Q (F0 m pc ls (.int n :: .int dp :: .ref (z + r2) :: .int sp :: .ref (z + r1) :: rest)) := by
  have nn : ∀ w : Int32, ¬ w < 0 → (w.toNatClampNeg : Int) = w.toInt := by
    intro w hw
    have h0 := dk_nlt hw
    exact dk_cln (show (0 : Int) ≤ _ from h0)
  have e1 := nn sp h1
  have e2 := nn dp h2
  have e3 := nn n h3
  have hget : ∀ (J : dkI) (k : Nat), k < 354 → ((List.range 354).map fun k => (z + k, dkC g z k (J k)))[k]? = some (z + k, dkC g z k (J k)) := by
    intro J k hk
    rw [List.getElem?_map, List.getElem?_range hk]
    rfl
  have hlen : ∀ (J : dkI) (k : Nat) (q : Nat × va_E), ((List.range 354).map fun k => (z + k, dkC g z k (J k)))[k]? = some q → k < 354 ∧ q = (z + k, dkC g z k (J k)) := by
    intro J k q hq
    have hk : k < 354 := by
      have := (List.getElem?_eq_some_iff.mp hq).1
      simpa using this
    rw [hget J k hk] at hq
    exact ⟨hk, (Option.some.inj hq).symm⟩
  have hP : va_P g.1 vwCl ((List.range 354).map fun k => (z + k, dkC g z k (I k))) H := by
    intro k q hq
    obtain ⟨hk, rfl⟩ := hlen I k q hq
    exact hW k hk
  have hD : va_D (dkA z) ((List.range 354).map fun k => (z + k, dkC g z k (I k))) := by
    refine ⟨?_, ?_⟩
    · intro i j a b ha hb' hab
      obtain ⟨-, rfl⟩ := hlen I i a ha
      obtain ⟨-, rfl⟩ := hlen I j b hb'
      simp only at hab
      omega
    · intro k q hq
      obtain ⟨-, rfl⟩ := hlen I k q hq
      exact Nat.le_add_right z k
  have g1 := hget I r1 (by omega)
  have g2 := hget I r2 (by omega)
  rw [dkC_R g z hr1] at g1
  rw [dkC_R g z hr2] at g2
  refine va_copyi hexec hb hml hown hlink hnat hstat hini hK.1 hP hD hS r1 r2 0 0 g1 g2 rfl rfl rfl h1 h2 h3 (by omega) (by omega) (fun i _ => rfl) hframes hlocals hdg fun H1 locs1 hP1 hD1 hS1 => ?_
  refine kk (fun k => if k = r2 then va_cpy (I r1) (I r2) sp.toNatClampNeg dp.toNatClampNeg n.toNatClampNeg else I k) H1 locs1 ?_ ?_ hS1
  · intro k j hkj
    show (if k = r2 then va_cpy (I r1) (I r2) sp.toNatClampNeg dp.toNatClampNeg n.toNatClampNeg else I k) j = I k j
    by_cases q : k = r2
    · subst q
      rw [if_pos rfl]
      unfold va_cpy
      rw [if_neg]
      intro q
      have : dkIn [(2, 9, 0, 2147483647)] k j = true := dkIn_at (i := 0) rfl hr2.1 (by omega) (Nat.zero_le _) (by omega)
      rw [this] at hkj
      cases hkj
    · rw [if_neg q]
  · intro k hk
    by_cases q : k = r2
    · subst q
      have := hP1 k (z + k, .inl (g.2.1, 40, .inl (va_cpy (I r1) (I k) sp.toNatClampNeg dp.toNatClampNeg n.toNatClampNeg))) (by
        rw [List.getElem?_set_self (by simpa using hk)])
      show va_at g.1 vwCl (z + k, dkC g z k (if k = k then _ else I k)) H1
      rw [if_pos rfl, dkC_R g z hr2]
      exact this
    · have := hP1 k (z + k, dkC g z k (I k)) (by
        rw [List.getElem?_set_ne (Ne.symm q)]
        exact hget I k hk)
      show va_at g.1 vwCl (z + k, dkC g z k (if k = r2 then _ else I k)) H1
      rw [if_neg q]
      exact this
end DKY
theorem dkNin_nil {k j : Nat} : dkIn [] k j = false := rfl
theorem dkNin_of {q : Nat × Nat × Nat × Nat} {ms : dkM} {k j : Nat} (h : k < q.1 ∨ q.2.1 < k ∨ j < q.2.2.1 ∨ q.2.2.2 < j) (t : dkIn ms k j = false) : dkIn (q :: ms) k j = false := by
  unfold dkIn at t ⊢
  rw [List.any_cons, t, Bool.or_false, ← Bool.not_eq_true]
  intro h5
  rw [Bool.and_eq_true, Bool.and_eq_true, Bool.and_eq_true] at h5
  have e1 := of_decide_eq_true h5.1.1.1
  have e2 := of_decide_eq_true h5.1.1.2
  have e3 := of_decide_eq_true h5.1.2
  have e4 := of_decide_eq_true h5.2
  omega
theorem dkNin_c {q : Nat × Nat × Nat × Nat} {ms : dkM} {k j : Nat} (h : (Nat.blt k q.1 || Nat.blt q.2.1 k || Nat.blt j q.2.2.1 || Nat.blt q.2.2.2 j) = true) (t : dkIn ms k j = false) : dkIn (q :: ms) k j = false := by
  rw [Bool.or_eq_true, Bool.or_eq_true, Bool.or_eq_true] at h
  rcases h with ((h | h) | h) | h
  · exact dkNin_of (Or.inl (Nat.ble_eq.mp h)) t
  · exact dkNin_of (Or.inr (Or.inl (Nat.ble_eq.mp h))) t
  · exact dkNin_of (Or.inr (Or.inr (Or.inl (Nat.ble_eq.mp h)))) t
  · exact dkNin_of (Or.inr (Or.inr (Or.inr (Nat.ble_eq.mp h)))) t
theorem dkNin_k {q : Nat × Nat × Nat × Nat} {ms : dkM} {k j : Nat} (h : (Nat.blt k q.1 || Nat.blt q.2.1 k) = true) (t : dkIn ms k j = false) : dkIn (q :: ms) k j = false := by
  rw [Bool.or_eq_true] at h
  rcases h with h | h
  · exact dkNin_of (Or.inl (Nat.ble_eq.mp h)) t
  · exact dkNin_of (Or.inr (Or.inl (Nat.ble_eq.mp h))) t
theorem dkNin_n {a c d : Nat} {ms : dkM} {k j : Nat} (h : a ≠ k) (t : dkIn ms k j = false) : dkIn ((a, a, c, d) :: ms) k j = false := dkNin_of (by show k < a ∨ a < k ∨ _; omega) t
theorem dkNin_j {a c d : Nat} {ms : dkM} {k j : Nat} (h : j < c ∨ d < j) (t : dkIn ms k j = false) : dkIn ((a, a, c, d) :: ms) k j = false := dkNin_of (Or.inr (Or.inr h)) t
theorem dkF_nil {I I1 : dkI} (h : dkF [] I I1) : I1 = I := by
  funext k j
  exact h k j rfl
theorem dk_addE {S T : dkS} {x y : Int32} (hx : dkN S x) (hy : dkN T y) (h : dkAll2 S T (fun p q => decide (-2147483648 ≤ p.1 + q.1) && decide (p.2 + q.2 ≤ 2147483647)) = true) : (x + y).toInt = x.toInt + y.toInt := by
  obtain ⟨p, hp, h1, h2⟩ := hx
  obtain ⟨q, hq, h3, h4⟩ := hy
  have h9 := dkAll2_of h hp hq
  rw [Bool.and_eq_true] at h9
  have e1 := of_decide_eq_true h9.1
  have e2 := of_decide_eq_true h9.2
  rw [Int32.toInt_add]
  exact dk_bm (by omega) (by omega)
theorem dk_subE {S T : dkS} {x y : Int32} (hx : dkN S x) (hy : dkN T y) (h : dkAll2 S T (fun p q => decide (-2147483648 ≤ p.1 - q.2) && decide (p.2 - q.1 ≤ 2147483647)) = true) : (x - y).toInt = x.toInt - y.toInt := by
  obtain ⟨p, hp, h1, h2⟩ := hx
  obtain ⟨q, hq, h3, h4⟩ := hy
  have h9 := dkAll2_of h hp hq
  rw [Bool.and_eq_true] at h9
  have e1 := of_decide_eq_true h9.1
  have e2 := of_decide_eq_true h9.2
  rw [Int32.toInt_sub]
  exact dk_bm (by omega) (by omega)
