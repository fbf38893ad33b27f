/-! DOMAINS: an int lies in one of some ranges -/
abbrev dkS : Type := List (Int × Int)
def dkN (S : dkS) (x : Int32) : Prop := ∃ q, q ∈ S ∧ q.1 ≤ x.toInt ∧ x.toInt ≤ q.2
def dkHas (U : dkS) (a b : Int) : Bool := decide (b < a) || U.any fun u => decide (u.1 ≤ a) && decide (b ≤ u.2)
theorem dkHas_of {U : dkS} {a b : Int} (h : dkHas U a b = true) {x : Int32} (h1 : a ≤ x.toInt) (h2 : x.toInt ≤ b) : dkN U x := by
  unfold dkHas at h
  rw [Bool.or_eq_true] at h
  rcases h with h | h
  · exact absurd (of_decide_eq_true h) (by omega)
  · obtain ⟨u, hu, h⟩ := List.any_eq_true.mp h
    rw [Bool.and_eq_true] at h
    have e1 := of_decide_eq_true h.1
    have e2 := of_decide_eq_true h.2
    exact ⟨u, hu, by omega, by omega⟩
def dkAll1 (S : dkS) (f : Int × Int → Bool) : Bool := S.all f
def dkAll2 (S T : dkS) (f : Int × Int → Int × Int → Bool) : Bool := S.all fun p => T.all fun q => f p q
theorem dkAll1_of {S : dkS} {f : Int × Int → Bool} (h : dkAll1 S f = true) {p : Int × Int} (hp : p ∈ S) : f p = true := List.all_eq_true.mp h p hp
theorem dkAll2_of {S T : dkS} {f : Int × Int → Int × Int → Bool} (h : dkAll2 S T f = true) {p q : Int × Int} (hp : p ∈ S) (hq : q ∈ T) : f p q = true := List.all_eq_true.mp (List.all_eq_true.mp h p hp) q hq
theorem dkN_sub {S T : dkS} {x : Int32} (h : dkN S x) (hs : dkAll1 S (fun p => dkHas T p.1 p.2) = true) : dkN T x := by
  obtain ⟨p, hp, h1, h2⟩ := h
  exact dkHas_of (dkAll1_of hs hp) h1 h2
theorem dkN_nil {x : Int32} (h : dkN [] x) : False := by
  obtain ⟨p, hp, -⟩ := h
  cases hp
theorem dkN_lit {x : Int32} (c : Int) (h : x.toInt = c) : dkN [(c, c)] x := ⟨(c, c), List.mem_cons_self, by show c ≤ _; omega, by show _ ≤ c; omega⟩
theorem dkN_one {x : Int32} {c : Int} (h : dkN [(c, c)] x) : x.toInt = c := by
  obtain ⟨p, hp, h1, h2⟩ := h
  rw [List.mem_singleton] at hp
  subst hp
  simp only at h1 h2
  omega
theorem dkN_is {x y : Int32} {c : Int} (h : dkN [(c, c)] x) (hy : y.toInt = c) : x = y := Int32.toInt_inj.mp ((dkN_one h).trans hy.symm)
theorem dkN_top (x : Int32) : dkN [(-2147483648, 2147483647)] x := ⟨_, List.mem_cons_self, by have := Int32.le_toInt x; show (-2147483648 : Int) ≤ _; omega, by have := Int32.toInt_lt x; show _ ≤ (2147483647 : Int); omega⟩
theorem dk_bm {a : Int} (h1 : -2147483648 ≤ a) (h2 : a ≤ 2147483647) : a.bmod (2 ^ 32) = a := by
  simp only [Int.bmod]
  split <;> omega
theorem dkN_add {S T U : dkS} {x y : Int32} (hx : dkN S x) (hy : dkN T y) (h : dkAll2 S T (fun p q => decide (-2147483648 ≤ p.1 + q.1) && decide (p.2 + q.2 ≤ 2147483647) && dkHas U (p.1 + q.1) (p.2 + q.2)) = true) : dkN U (x + y) := by
  obtain ⟨p, hp, h1, h2⟩ := hx
  obtain ⟨q, hq, h3, h4⟩ := hy
  have h9 := dkAll2_of h hp hq
  rw [Bool.and_eq_true, Bool.and_eq_true] at h9
  have e1 := of_decide_eq_true h9.1.1
  have e2 := of_decide_eq_true h9.1.2
  have e : (x + y).toInt = x.toInt + y.toInt := by rw [Int32.toInt_add]; exact dk_bm (by omega) (by omega)
  exact dkHas_of h9.2 (by rw [e]; omega) (by rw [e]; omega)
theorem dkN_subt {S T U : dkS} {x y : Int32} (hx : dkN S x) (hy : dkN T y) (h : dkAll2 S T (fun p q => decide (-2147483648 ≤ p.1 - q.2) && decide (p.2 - q.1 ≤ 2147483647) && dkHas U (p.1 - q.2) (p.2 - q.1)) = true) : dkN U (x - y) := by
  obtain ⟨p, hp, h1, h2⟩ := hx
  obtain ⟨q, hq, h3, h4⟩ := hy
  have h9 := dkAll2_of h hp hq
  rw [Bool.and_eq_true, Bool.and_eq_true] at h9
  have e1 := of_decide_eq_true h9.1.1
  have e2 := of_decide_eq_true h9.1.2
  have e : (x - y).toInt = x.toInt - y.toInt := by rw [Int32.toInt_sub]; exact dk_bm (by omega) (by omega)
  exact dkHas_of h9.2 (by rw [e]; omega) (by rw [e]; omega)
theorem dkN_mulR {S U : dkS} {x y : Int32} (c : Int) (hc : 0 ≤ c) (hx : dkN S x) (hy : dkN [(c, c)] y) (h : dkAll1 S (fun p => decide (-2147483648 ≤ p.1 * c) && decide (p.2 * c ≤ 2147483647) && dkHas U (p.1 * c) (p.2 * c)) = true) : dkN U (x * y) := by
  obtain ⟨p, hp, h1, h2⟩ := hx
  have hy := dkN_one hy
  have h9 := dkAll1_of h hp
  rw [Bool.and_eq_true, Bool.and_eq_true] at h9
  have e1 := of_decide_eq_true h9.1.1
  have e2 := of_decide_eq_true h9.1.2
  have m1 := Int.mul_le_mul_of_nonneg_right h1 hc
  have m2 := Int.mul_le_mul_of_nonneg_right h2 hc
  have e : (x * y).toInt = x.toInt * c := by rw [Int32.toInt_mul, hy]; exact dk_bm (by omega) (by omega)
  exact dkHas_of h9.2 (by rw [e]; omega) (by rw [e]; omega)
theorem dkN_mulL {S U : dkS} {x y : Int32} (c : Int) (hc : 0 ≤ c) (hy : dkN [(c, c)] y) (hx : dkN S x) (h : dkAll1 S (fun p => decide (-2147483648 ≤ p.1 * c) && decide (p.2 * c ≤ 2147483647) && dkHas U (p.1 * c) (p.2 * c)) = true) : dkN U (y * x) := by
  rw [Int32.mul_comm]
  exact dkN_mulR c hc hx hy h
theorem dkN_neg {S U : dkS} {x : Int32} (hx : dkN S x) (h : dkAll1 S (fun p => decide (-2147483647 ≤ p.1) && dkHas U (-p.2) (-p.1)) = true) : dkN U (-x) := by
  obtain ⟨p, hp, h1, h2⟩ := hx
  have h9 := dkAll1_of h hp
  rw [Bool.and_eq_true] at h9
  have e1 := of_decide_eq_true h9.1
  have := Int32.toInt_lt x
  have e : (-x).toInt = -x.toInt := by rw [Int32.toInt_neg]; exact dk_bm (by omega) (by omega)
  exact dkHas_of h9.2 (by rw [e]; omega) (by rw [e]; omega)
theorem dk_le {x y : Int32} (h : x ≤ y) : x.toInt ≤ y.toInt := Int32.le_iff_toInt_le.mp h
theorem dk_nle {x y : Int32} (h : ¬ x ≤ y) : y.toInt < x.toInt := by
  have h2 : ¬ x.toInt ≤ y.toInt := fun q => h (Int32.le_iff_toInt_le.mpr q)
  omega
theorem dk_lt {x y : Int32} (h : x < y) : x.toInt < y.toInt := Int32.lt_iff_toInt_lt.mp h
theorem dk_nlt {x y : Int32} (h : ¬ x < y) : y.toInt ≤ x.toInt := by
  have h2 : ¬ x.toInt < y.toInt := fun q => h (Int32.lt_iff_toInt_lt.mpr q)
  omega
theorem dk_ne {x y : Int32} (h : ¬ x = y) : x.toInt ≠ y.toInt := fun q => h (Int32.toInt_inj.mp q)
/-- x ≤ y (or <, d = 1): what is known of x, of y -/
theorem dkN_le1 {S T U : dkS} {x y : Int32} (d : Int) (hx : dkN S x) (hy : dkN T y) (c : x.toInt + d ≤ y.toInt) (h : dkAll2 S T (fun p q => dkHas U p.1 (min p.2 (q.2 - d))) = true) : dkN U x := by
  obtain ⟨p, hp, h1, h2⟩ := hx
  obtain ⟨q, hq, h3, h4⟩ := hy
  exact dkHas_of (dkAll2_of h hp hq) h1 (by omega)
theorem dkN_le2 {S T U : dkS} {x y : Int32} (d : Int) (hx : dkN S x) (hy : dkN T y) (c : x.toInt + d ≤ y.toInt) (h : dkAll2 S T (fun p q => dkHas U (max q.1 (p.1 + d)) q.2) = true) : dkN U y := by
  obtain ⟨p, hp, h1, h2⟩ := hx
  obtain ⟨q, hq, h3, h4⟩ := hy
  exact dkHas_of (dkAll2_of h hp hq) (by omega) h4
theorem dkN_eq1 {S T U : dkS} {x y : Int32} (hx : dkN S x) (hy : dkN T y) (c : x.toInt = y.toInt) (h : dkAll2 S T (fun p q => dkHas U (max p.1 q.1) (min p.2 q.2)) = true) : dkN U x := by
  obtain ⟨p, hp, h1, h2⟩ := hx
  obtain ⟨q, hq, h3, h4⟩ := hy
  exact dkHas_of (dkAll2_of h hp hq) (by omega) (by omega)
theorem dkN_ne1 {S U : dkS} {x y : Int32} (d : Int) (hx : dkN S x) (hy : dkN [(d, d)] y) (c : x.toInt ≠ y.toInt) (h : dkAll1 S (fun p => dkHas U p.1 (min p.2 (d - 1)) && dkHas U (max p.1 (d + 1)) p.2) = true) : dkN U x := by
  obtain ⟨p, hp, h1, h2⟩ := hx
  have hy := dkN_one hy
  have h9 := dkAll1_of h hp
  rw [Bool.and_eq_true] at h9
  rcases Int.lt_or_lt_of_ne c with q | q
  · exact dkHas_of h9.1 h1 (by omega)
  · exact dkHas_of h9.2 (by omega) h2
theorem dkN_in {S : dkS} {i : Int32} {n : Nat} (hi : dkN S i) (h : dkAll1 S (fun p => decide (0 ≤ p.1) && decide (p.2 < (n : Int))) = true) : vp_in i n := by
  obtain ⟨p, hp, h1, h2⟩ := hi
  have h9 := dkAll1_of h hp
  rw [Bool.and_eq_true] at h9
  have e1 := of_decide_eq_true h9.1
  have e2 := of_decide_eq_true h9.2
  exact vp_in_iff.mpr ⟨by omega, by omega⟩
theorem dkN_cl {i : Int32} {c : Int} (h : dkN [(c, c)] i) : i.toNatClampNeg = c.toNat := by
  have := dkN_one h
  rw [← this]
  rfl
theorem dkN_and {S U : dkS} {x y : Int32} (hy : dkN S y) (h : dkAll1 S (fun p => decide (0 ≤ p.1) && dkHas U 0 p.2) = true) : dkN U (x &&& y) := by
  obtain ⟨p, hp, h1, h2⟩ := hy
  have h9 := dkAll1_of h hp
  rw [Bool.and_eq_true] at h9
  have e1 := of_decide_eq_true h9.1
  have hy0 : y.toInt = (y.toBitVec.toNat : Int) := by
    have h5 : y.toInt = y.toBitVec.toInt := rfl
    have h6 := BitVec.toInt_eq_toNat_cond (x := y.toBitVec)
    rw [h5] at h1 ⊢
    rw [h6] at h1 ⊢
    have := y.toBitVec.isLt
    split at h1 <;> rename_i h7
    · rw [if_pos h7]
    · omega
  have hn : (x &&& y).toBitVec.toNat ≤ y.toBitVec.toNat := by
    show (x.toBitVec &&& y.toBitVec).toNat ≤ _
    rw [BitVec.toNat_and]
    exact Nat.and_le_right
  have hlt := Int32.toInt_lt y
  have h8 : (x &&& y).toInt = ((x &&& y).toBitVec.toNat : Int) := by
    have h5 : (x &&& y).toInt = (x &&& y).toBitVec.toInt := rfl
    rw [h5, BitVec.toInt_eq_toNat_cond, if_pos (by omega)]
  exact dkHas_of h9.2 (by omega) (by omega)
/-- a loop's counter comes nearer to its bound -/
theorem dk_near {x y : Int32} {B : Int} {n : Nat} (h : (B - x.toInt).toNat < n + 1) (h1 : y.toInt = x.toInt + 1) (h2 : x.toInt < B) : (B - y.toInt).toNat < n := by omega
theorem dk_inc {S : dkS} {x : Int32} (hx : dkN S x) (h : dkAll1 S (fun p => decide (p.2 < 2147483647)) = true) : (x + 1).toInt = x.toInt + 1 := by
  obtain ⟨p, hp, h1, h2⟩ := hx
  have h9 := of_decide_eq_true (dkAll1_of h hp)
  have h8 := Int32.le_toInt x
  rw [Int32.toInt_add]
  exact dk_bm (by show _ ≤ x.toInt + 1; omega) (by show x.toInt + 1 ≤ _; omega)
