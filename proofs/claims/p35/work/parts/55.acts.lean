/-! SORTS -/
def dkDp (T : Nat → Int32) (n h a : Int32) : Nat → Int32
  | 0 => a
  | i + 1 => (dkSg T n 59 (dkNg T n 0 (h - 1) (dkDp T n h a i + 1)).2).2
def dkX4 (T : Nat → Int32) (n h a b d : Int32) (S : Nat → Int32) : Prop := dkX2 T n h a b d ∧ b = dkDp T n h a (Int32.toNatClampNeg d) ∧ ∀ j, j < Int32.toNatClampNeg d → S j = dkSo (T (Int32.toNatClampNeg (dkDp T n h a j))).toInt ∧ dkSo (T (Int32.toNatClampNeg (dkDp T n h a j))).toInt ≠ -1000000
theorem dkX4_0 {T : Nat → Int32} {n h a : Int32} {S : Nat → Int32} : dkX4 T n h a a 0 S := ⟨dkX2_0, rfl, fun j hj => absurd hj (Nat.not_lt_zero j)⟩
theorem dk_cl1 {d : Int32} (h0 : 0 ≤ d.toInt) (h1 : d.toInt ≤ 1000) : (d + 1).toInt = d.toInt + 1 ∧ Int32.toNatClampNeg (d + 1) = Int32.toNatClampNeg d + 1 := by
  have e : (d + 1).toInt = d.toInt + 1 := by
    rw [Int32.toInt_add]
    exact dk_bm (by show _ ≤ d.toInt + 1; omega) (by show d.toInt + 1 ≤ _; omega)
  have e1 := dk_cln h0
  have e2 := dk_cln (i := d + 1) (by omega)
  exact ⟨e, by omega⟩
theorem dkX4c_s {T : Nat → Int32} {n h a b d : Int32} {S S' : Nat → Int32} (hX : dkX4 T n h a b d S) (q1 : b.toInt < n.toInt) (v : dkSo (T (Int32.toNatClampNeg b)).toInt ≠ -1000000) (hp : d.toInt + 1 ≤ 6) (h0 : (0 : Int32).toInt ≤ d.toInt) (g1 : (dkNg T n 0 (h - 1) (b + 1)).1 = 0) (g2 : (dkSg T n 59 (dkNg T n 0 (h - 1) (b + 1)).2).1 = 0) (s1 : S' (Int32.toNatClampNeg d) = dkSo (T (Int32.toNatClampNeg b)).toInt) (s2 : ∀ j, j < Int32.toNatClampNeg d → S' j = S j) : dkX4 T n h a (dkSg T n 59 (dkNg T n 0 (h - 1) (b + 1)).2).2 (d + 1) S' := by
  obtain ⟨hX, hb, hs⟩ := hX
  have h9 : (0 : Int32).toInt = 0 := rfl
  have e := (dk_cl1 (d := d) (by omega) (by omega)).2
  refine ⟨dkX2c_s hX q1 v hp h0 g1 g2, ?_, ?_⟩
  · rw [e]
    show _ = (dkSg T n 59 (dkNg T n 0 (h - 1) (dkDp T n h a (Int32.toNatClampNeg d) + 1)).2).2
    rw [← hb]
  · intro j hj
    rw [e] at hj
    by_cases q : j = Int32.toNatClampNeg d
    · exact ⟨by rw [q, s1, ← hb], by rw [q, ← hb]; exact v⟩
    · exact ⟨(s2 j (by omega)).trans (hs j (by omega)).1, (hs j (by omega)).2⟩
theorem dkX4_s {T : Nat → Int32} {n h a b d : Int32} {S S' : Nat → Int32} (hX : dkX4 T n h a b d S) (t : (dkTk T n b).toInt = 1) (v : dkSo (dkTv T n b).toInt ≠ -1000000) (hp : d.toInt + 1 ≤ 6) (h0 : (0 : Int32).toInt ≤ d.toInt) (g : (dkDo T n h (dkTe T n b)).1 = 0) (s1 : S' (Int32.toNatClampNeg d) = dkSo (dkTv T n b).toInt) (s2 : ∀ j, j < Int32.toNatClampNeg d → S' j = S j) : dkX4 T n h a (dkDo T n h (dkTe T n b)).2 (d + 1) S' := by
  obtain ⟨q1, q2, q3⟩ := dkK_d t
  rw [q3] at g ⊢
  rw [← q2] at v s1
  have g1 : (dkNg T n 0 (h - 1) (b + 1)).1 = 0 := by
    by_cases g2 : (dkNg T n 0 (h - 1) (b + 1)).1 = 0
    · exact g2
    · rw [show dkDo T n h (b + 1) = dkNg T n 0 (h - 1) (b + 1) from dkTh_n g2] at g
      exact absurd g g2
  have e : dkDo T n h (b + 1) = dkSg T n 59 (dkNg T n 0 (h - 1) (b + 1)).2 := dkTh_0 g1
  rw [e] at g ⊢
  exact dkX4c_s hX q1 v hp h0 g1 g s1 s2
/-- the sort of dog j of a sound text -/
def dkSs (T : Nat → Int32) (n : Int32) (j : Nat) : Int32 := dkSo (T (Int32.toNatClampNeg (dkDp T n (dkHh T n) (dkPs T n (dkHh T n) (dkLw T n 0).2).2 j))).toInt
def dkX5 (T : Nat → Int32) (n h a p b d : Int32) (S : Nat → Int32) : Prop := ∃ c, dkPw T n h 5 a = (0, c) ∧ p = dkPk T n h 5 a 0 ∧ dkX4 T n h c b d S
theorem dkSs_d {T : Nat → Int32} {n h a c : Int32} {j : Nat} (e : dkLw T n 0 = (0, a)) (eh : dkHh T n = h) (e2 : dkPs T n h a = (0, c)) : dkSo (T (Int32.toNatClampNeg (dkDp T n h c j))).toInt = dkSs T n j := by
  unfold dkSs
  rw [eh, e]
  show _ = dkSo (T (Int32.toNatClampNeg (dkDp T n h (dkPs T n h a).2 j))).toInt
  rw [e2]
theorem dkCl_s {S R : Nat → Int32} {x y : Int32} (h : ∀ j : Nat, (j : Int) < x.toInt → S j = R j) (e : y.toInt = x.toInt + 1) (hx : (0 : Int32).toInt ≤ x.toInt) : ∀ j : Nat, (j : Int) < y.toInt → dkV S (Int32.toNatClampNeg x) (R (Int32.toNatClampNeg x)) j = R j := by
  intro j hj
  have h0 : (0 : Int32).toInt = 0 := rfl
  have h1 := dk_cln (i := x) (by omega)
  by_cases q : j = Int32.toNatClampNeg x
  · rw [q, dkV_s]
  · rw [dkV_n q]
    exact h j (by omega)
theorem dk_jlt {a x : Int32} {j : Nat} (h : j < Int32.toNatClampNeg a) (h2 : a.toInt ≤ x.toInt) : (j : Int) < x.toInt := by
  have e : Int32.toNatClampNeg a = a.toInt.toNat := rfl
  omega
/-! THE ACTS' TOWNS: what is fixed in them is as now -/
def dkQe (I : dkI) (e : Nat) : Prop := I (61 + 11 * e) 0 = I 25 0 ∧ I (61 + 11 * e) 4 = I 25 4 ∧ I (61 + 11 * e) 11 = I 25 11 ∧ ∀ j, j < Int32.toNatClampNeg (I 25 11) → I (61 + 11 * e + 7) j = I 32 j
def dkQQ (I : dkI) : Prop := ∀ m, m < Int32.toNatClampNeg (I 59 2) → dkQe I ((Int32.toNatClampNeg (I 59 1) + 23 - m) % 24)
theorem dkQQ_0 {I : dkI} (h : I 59 2 = 0) : dkQQ I := by
  intro m hm
  rw [h] at hm
  exact absurd hm (Nat.not_lt_zero m)
theorem dkQe_same {I I1 : dkI} {e : Nat} (hP : dkQe I e) (h1 : I1 (61 + 11 * e) = I (61 + 11 * e)) (h2 : I1 (61 + 11 * e + 7) = I (61 + 11 * e + 7)) (h3 : I1 25 0 = I 25 0) (h4 : I1 25 4 = I 25 4) (h5 : I1 25 11 = I 25 11) (h6 : ∀ j, j < Int32.toNatClampNeg (I 25 11) → I1 32 j = I 32 j) : dkQe I1 e := by
  obtain ⟨p1, p2, p3, p4⟩ := hP
  refine ⟨by rw [h1, h3]; exact p1, by rw [h1, h4]; exact p2, by rw [h1, h5]; exact p3, fun j hj => ?_⟩
  rw [h5] at hj
  rw [h2, h6 j hj]
  exact p4 j hj
def dkQQb (k j : Nat) : Bool := (Nat.beq k 25 && (Nat.beq j 0 || Nat.beq j 4 || Nat.beq j 11)) || Nat.beq k 32 || (Nat.beq k 59 && (Nat.beq j 1 || Nat.beq j 2)) || (Nat.ble 61 k && Nat.ble k 324)
theorem dkQQ_same {I I1 : dkI} (hP : dkQQ I) (h : ∀ k j, dkQQb k j = true → I1 k j = I k j) : dkQQ I1 := by
  intro m hm
  rw [h 59 2 rfl] at hm
  rw [h 59 1 rfl]
  have hc : ∀ e, e < 24 → ∀ j, I1 (61 + 11 * e) j = I (61 + 11 * e) j ∧ I1 (61 + 11 * e + 7) j = I (61 + 11 * e + 7) j := by
    intro e he j
    have b1 : dkQQb (61 + 11 * e) j = true := by
      unfold dkQQb
      rw [Nat.ble_eq_true_of_le (show 61 ≤ 61 + 11 * e by omega), Nat.ble_eq_true_of_le (show 61 + 11 * e ≤ 324 by omega)]
      simp
    have b2 : dkQQb (61 + 11 * e + 7) j = true := by
      unfold dkQQb
      rw [Nat.ble_eq_true_of_le (show 61 ≤ 61 + 11 * e + 7 by omega), Nat.ble_eq_true_of_le (show 61 + 11 * e + 7 ≤ 324 by omega)]
      simp
    exact ⟨h _ _ b1, h _ _ b2⟩
  have he : (Int32.toNatClampNeg (I 59 1) + 23 - m) % 24 < 24 := Nat.mod_lt _ (by decide)
  exact dkQe_same (hP m hm) (funext fun j => (hc _ he j).1) (funext fun j => (hc _ he j).2) (h 25 0 rfl) (h 25 4 rfl) (h 25 11 rfl) (fun j _ => h 32 j rfl)
theorem dkQQ_set {I I1 : dkI} {k j : Nat} {v : Int32} (hP : dkQQ I) (e : I1 = dkU I k j v) (hb : dkQQb k j = false) : dkQQ I1 := by
  refine dkQQ_same hP fun k' j' h => ?_
  subst e
  by_cases h1 : k' = k
  · subst h1
    by_cases h2 : j' = j
    · subst h2
      rw [hb] at h
      cases h
    · exact dkU_sn h2
  · rw [dkU_n h1]
theorem dkQQb_v {k : Nat} {i : Int32} {S : dkS} (hi : dkN S i) (h : (!Nat.beq k 25 && !Nat.beq k 32 && !Nat.beq k 59 && !(Nat.ble 61 k && Nat.ble k 324)) = true) : dkQQb k i.toNatClampNeg = false := by
  rw [Bool.and_eq_true, Bool.and_eq_true, Bool.and_eq_true] at h
  obtain ⟨⟨⟨a1, a2⟩, a3⟩, a4⟩ := h
  rw [Bool.not_eq_true'] at a1 a2 a3 a4
  unfold dkQQb
  rw [a1, a2, a3, a4]
  rfl
def dkQQf1 (q : Nat × Nat × Nat × Nat) : Bool := Nat.ble q.2.1 24 || (Nat.beq q.1 25 && Nat.beq q.2.1 25 && (Nat.ble 12 q.2.2.1 || (Nat.ble 1 q.2.2.1 && Nat.ble q.2.2.2 3) || (Nat.ble 5 q.2.2.1 && Nat.ble q.2.2.2 10))) || (Nat.ble 26 q.1 && Nat.ble q.2.1 31) || (Nat.ble 33 q.1 && Nat.ble q.2.1 58) || (Nat.ble 60 q.1 && Nat.ble q.2.1 60) || Nat.ble 325 q.1
theorem dkQQ_F {ms : dkM} {I I1 : dkI} (hP : dkQQ I) (hF : dkF ms I I1) (h : (ms.all fun q => dkQQf1 q) = true) : dkQQ I1 := by
  refine dkQQ_same hP fun k j hb => hF k j ?_
  rw [← Bool.not_eq_true]
  intro h4
  obtain ⟨q, hq, h5⟩ := List.any_eq_true.mp h4
  rw [Bool.and_eq_true, Bool.and_eq_true, Bool.and_eq_true] at h5
  have e1 := of_decide_eq_true h5.1.1.1
  have e2 := of_decide_eq_true h5.1.1.2
  have e3 := of_decide_eq_true h5.1.2
  have e4 := of_decide_eq_true h5.2
  have h6 := List.all_eq_true.mp h q hq
  have hb2 : (k = 25 ∧ (j = 0 ∨ j = 4 ∨ j = 11)) ∨ k = 32 ∨ k = 59 ∨ (61 ≤ k ∧ k ≤ 324) := by
    unfold dkQQb at hb
    simp only [Bool.or_eq_true, Bool.and_eq_true, Nat.beq_eq, Nat.ble_eq] at hb
    omega
  unfold dkQQf1 at h6
  simp only [Bool.or_eq_true, Bool.and_eq_true, Nat.beq_eq, Nat.ble_eq] at h6
  omega
theorem dk_remN {a b v : Int32} (e : v = a - a / b * b) (ha : 0 ≤ a.toInt) (hb : b.toInt = 24) : Int32.toNatClampNeg v = a.toInt.toNat % 24 := by
  have e4 : v.toInt = a.toInt.tmod 24 := by rw [e, dk_irem, Int32.toInt_mod, hb]
  have e5 : Int32.toNatClampNeg v = v.toInt.toNat := rfl
  rw [e5, e4, Int.tmod_eq_emod_of_nonneg ha]
  omega
theorem dk_minle {x y : Int32} : (if y < x then y else x).toInt ≤ x.toInt := by
  split
  · rename_i c
    have := dk_lt c
    omega
  · exact Int.le_refl _
theorem dk_tIdx {z t : Nat} {i : Int32} (e : (fun j => if j < 24 then some (z + (61 + 11 * j)) else none) i.toNatClampNeg = some (z + t)) : t = 61 + 11 * i.toNatClampNeg := by
  by_cases h : i.toNatClampNeg < 24
  · have e1 := (if_pos h).symm.trans e
    have e2 := Option.some.inj e1
    omega
  · have e1 := (if_neg h).symm.trans e
    cases e1
theorem dkQQ_keep {I0 I1 I2 I3 : dkI} {t : Nat} {x y : Int32} (hP : dkQQ I0) (ht : t = 61 + 11 * Int32.toNatClampNeg (I0 59 1)) (hf : ∀ k j, (k < t ∨ t + 11 ≤ k) → I1 k j = I0 k j) (p0 : I1 t 0 = I0 25 0) (p4 : I1 t 4 = I0 25 4) (p11 : I1 t 11 = I0 25 11) (ps : ∀ j, j < Int32.toNatClampNeg (I0 25 11) → I1 (t + 7) j = I0 32 j) (e2 : I2 = dkU I1 59 1 x) (ex : Int32.toNatClampNeg x = (Int32.toNatClampNeg (I0 59 1) + 1) % 24) (e3 : I3 = dkU I2 59 2 y) (ey : Int32.toNatClampNeg y ≤ Int32.toNatClampNeg (I0 59 2) + 1) (ey2 : Int32.toNatClampNeg y ≤ 24) (hn : Int32.toNatClampNeg (I0 59 1) ≤ 23) : dkQQ I3 := by
  have a1 : I3 59 1 = x := by rw [e3, dkU_sn (by decide), e2, dkU_ss]
  have a2 : I3 59 2 = y := by rw [e3, dkU_ss]
  have hk : ∀ k, k ≠ 59 → I3 k = I1 k := by
    intro k hk
    rw [e3, dkU_n hk, e2, dkU_n hk]
  intro m hm
  rw [a2] at hm
  rw [a1, ex]
  have c25 : I3 25 = I0 25 := by rw [hk 25 (by decide)]; exact funext fun j => hf 25 j (by omega)
  have c32 : I3 32 = I0 32 := by rw [hk 32 (by decide)]; exact funext fun j => hf 32 j (by omega)
  by_cases q : m = 0
  · subst q
    have e9 : ((Int32.toNatClampNeg (I0 59 1) + 1) % 24 + 23 - 0) % 24 = Int32.toNatClampNeg (I0 59 1) := by omega
    rw [e9]
    unfold dkQe
    rw [← ht, hk t (by omega), hk (t + 7) (by omega), c25, c32]
    exact ⟨p0, p4, p11, ps⟩
  · have e9 : ((Int32.toNatClampNeg (I0 59 1) + 1) % 24 + 23 - m) % 24 = (Int32.toNatClampNeg (I0 59 1) + 23 - (m - 1)) % 24 := by omega
    have hne : (Int32.toNatClampNeg (I0 59 1) + 23 - (m - 1)) % 24 ≠ Int32.toNatClampNeg (I0 59 1) := by omega
    rw [e9]
    have h9 := hP (m - 1) (by omega)
    generalize (Int32.toNatClampNeg (I0 59 1) + 23 - (m - 1)) % 24 = e at h9 hne
    exact dkQe_same h9 (by rw [hk _ (by omega)]; exact funext fun j => hf _ j (by omega)) (by rw [hk _ (by omega)]; exact funext fun j => hf _ j (by omega)) (by rw [c25]) (by rw [c25]) (by rw [c25]) (fun j _ => by rw [c32])
theorem dkQQ_back {I0 I1 I2 I3 : dkI} {t : Nat} {x y : Int32} (hP : dkQQ I0) (e1 : I1 = dkU I0 59 1 x) (ex : Int32.toNatClampNeg x = (Int32.toNatClampNeg (I0 59 1) + 23) % 24) (e2 : I2 = dkU I1 59 2 y) (ey : Int32.toNatClampNeg y + 1 = Int32.toNatClampNeg (I0 59 2)) (ht : t = 61 + 11 * Int32.toNatClampNeg x) (hf : ∀ k j, (k < 25 ∨ 36 ≤ k) → I3 k j = I2 k j) (p0 : I3 25 0 = I2 t 0) (p4 : I3 25 4 = I2 t 4) (p11 : I3 25 11 = I2 t 11) (ps : ∀ j, j < Int32.toNatClampNeg (I2 t 11) → I3 32 j = I2 (t + 7) j) (hk4 : Int32.toNatClampNeg (I0 59 2) ≤ 24) : dkQQ I3 ∧ I3 25 0 = I0 25 0 ∧ I3 25 4 = I0 25 4 ∧ I3 25 11 = I0 25 11 ∧ ∀ j, j < Int32.toNatClampNeg (I0 25 11) → I3 32 j = I0 32 j := by
  have hk : ∀ k, k ≠ 59 → I2 k = I0 k := by
    intro k hk
    rw [e2, dkU_n hk, e1, dkU_n hk]
  have a1 : I3 59 1 = x := by rw [hf 59 1 (by omega), e2, dkU_sn (by decide), e1, dkU_ss]
  have a2 : I3 59 2 = y := by rw [hf 59 2 (by omega), e2, dkU_ss]
  have h0 := hP 0 (by omega)
  have e9 : (Int32.toNatClampNeg (I0 59 1) + 23 - 0) % 24 = Int32.toNatClampNeg x := by omega
  rw [e9] at h0
  unfold dkQe at h0
  rw [← ht] at h0
  rw [hk t (by omega)] at p0 p4 p11 ps
  rw [hk (t + 7) (by omega)] at ps
  have b0 := p0.trans h0.1
  have b4 := p4.trans h0.2.1
  have b11 := p11.trans h0.2.2.1
  have bs : ∀ j, j < Int32.toNatClampNeg (I0 25 11) → I3 32 j = I0 32 j := by
    intro j hj
    rw [ps j (by rw [h0.2.2.1]; exact hj)]
    exact h0.2.2.2 j hj
  refine ⟨?_, b0, b4, b11, bs⟩
  intro m hm
  rw [a2] at hm
  rw [a1, ex]
  have e8 : ((Int32.toNatClampNeg (I0 59 1) + 23) % 24 + 23 - m) % 24 = (Int32.toNatClampNeg (I0 59 1) + 23 - (m + 1)) % 24 := by omega
  rw [e8]
  have h9 := hP (m + 1) (by omega)
  have he : (Int32.toNatClampNeg (I0 59 1) + 23 - (m + 1)) % 24 < 24 := Nat.mod_lt _ (by decide)
  generalize (Int32.toNatClampNeg (I0 59 1) + 23 - (m + 1)) % 24 = e at h9 he
  exact dkQe_same h9 (by rw [← hk _ (by omega)]; exact funext fun j => hf _ j (by omega)) (by rw [← hk _ (by omega)]; exact funext fun j => hf _ j (by omega)) b0 b4 b11 bs
theorem dkSt_3 {I Ia Ib Ic Id : dkI} {k1 k2 k3 d v1 v2 v3 v4 : Int32} (e1 : Ia = dkU I 347 (Int32.toNatClampNeg k1) v1) (e2 : Ib = dkU Ia 347 (Int32.toNatClampNeg k2) v2) (e3 : Ic = dkU Ib 347 (Int32.toNatClampNeg k3) v3) (e4 : Id = dkU Ic 347 5 v4) (t1 : k1.toInt = 36 + 3 * d.toInt) (t2 : k2.toInt = 37 + 3 * d.toInt) (t3 : k3.toInt = 38 + 3 * d.toInt) (h0 : (0 : Int32).toInt ≤ d.toInt) : Id 347 (36 + 3 * Int32.toNatClampNeg d) = v1 ∧ ∀ j : Nat, j < Int32.toNatClampNeg d → Id 347 (36 + 3 * j) = I 347 (36 + 3 * j) := by
  have h9 : (0 : Int32).toInt = 0 := rfl
  have a0 := dk_cln (i := d) (by omega)
  have a1 := dk_cln (i := k1) (by omega)
  have a2 := dk_cln (i := k2) (by omega)
  have a3 := dk_cln (i := k3) (by omega)
  refine ⟨?_, fun j hj => ?_⟩
  · rw [e4, dkU_sn (by omega), e3, dkU_sn (by omega), e2, dkU_sn (by omega), e1, show 36 + 3 * Int32.toNatClampNeg d = Int32.toNatClampNeg k1 by omega, dkU_ss]
  · rw [e4, dkU_sn (by omega), e3, dkU_sn (by omega), e2, dkU_sn (by omega), e1, dkU_sn (by omega)]
theorem dkPP_undoN {I I1 I2 : dkI} {S : dkS} {w v u x : Int32} (hP : dkPP I) (dw : dkN S w) (ew : w = I 340 17) (ev : v = w - 1) (e1 : I1 = dkU I 340 17 v) (eu : u = I1 340 17) (ex : x = 54 * u) (e2 : I2 = dkCp I1 349 346 x.toNatClampNeg 0) (h : dkAll1 S (fun p => decide (1 ≤ p.1) && decide (p.2 ≤ 24)) = true) : ∀ j : Nat, j < 54 → dkSt j = true → I2 346 j = I 346 j := by
  obtain ⟨p, hp, h1, h2⟩ := dw
  have h9 := dkAll1_of h hp
  rw [Bool.and_eq_true] at h9
  have b1 := of_decide_eq_true h9.1
  have b2 := of_decide_eq_true h9.2
  have c0 := dk_cln (i := w) (by omega)
  have c1 : v.toInt = w.toInt - 1 := by rw [ev, Int32.toInt_sub]; exact dk_bm (by show _ ≤ w.toInt - 1; omega) (by show w.toInt - 1 ≤ _; omega)
  have c2 := dk_cln (i := v) (by omega)
  rw [e1, dkU_ss] at eu
  subst eu
  have c3 : x.toInt = 54 * u.toInt := by rw [ex, Int32.toInt_mul]; exact dk_bm (by show _ ≤ 54 * u.toInt; omega) (by show 54 * u.toInt ≤ _; omega)
  have c4 := dk_cln (i := x) (by omega)
  intro j hj hs
  rw [dkCp_in e2 ⟨Nat.zero_le _, by omega⟩, e1, dkU_n (by decide), show x.toNatClampNeg + (j - 0) = 54 * u.toNatClampNeg + j by omega]
  exact hP.2.1 _ (by rw [← ew]; omega) j hj hs
theorem dkSo_r {c : Int} (h : dkSo c ≠ -1000000) : 1 ≤ (dkSo c).toInt ∧ (dkSo c).toInt ≤ 5 := by
  unfold dkSo at h ⊢
  split
  · decide
  split
  · decide
  split
  · decide
  split
  · decide
  split
  · decide
  · rw [if_neg (by assumption), if_neg (by assumption), if_neg (by assumption), if_neg (by assumption), if_neg (by assumption)] at h
    exact absurd rfl h
theorem dkSs_r {T : Nat → Int32} {n : Int32} {j : Nat} (h : dkSs T n j ≠ -1000000) : 1 ≤ (dkSs T n j).toInt ∧ (dkSs T n j).toInt ≤ 5 := dkSo_r h
