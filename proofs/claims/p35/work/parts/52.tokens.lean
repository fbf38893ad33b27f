/-! THE REFERENCE'S TOKENS: 0 the end, 1 a letter, 2 a NUMBER, 3 a comma, 4 a stop, 5 another; all words are total -/
theorem dkTh_p {x : Int32 × Int32} {a : Int32} {f : Int32 → Int32 × Int32} (h : x = (0, a)) : dkTh x f = f a := by rw [h]; exact dkTh_0 rfl
theorem dkTh_q {x : Int32 × Int32} {k a : Int32} {f : Int32 → Int32 × Int32} (h : x = (k, a)) (hk : k ≠ 0) : dkTh x f = (k, a) := by rw [h]; exact dkTh_n hk
/-- where the figures end -/
def dkEr (T : Nat → Int32) (n : Int32) : Nat → Int32 → Int32
  | 0, a => a
  | k + 1, a => bif dkDb T n.toInt a.toInt then dkEr T n k (a + 1) else a
def dkEd (T : Nat → Int32) (n a : Int32) : Int32 := dkEr T n (n.toInt - a.toInt).toNat a
theorem dkEd_f {T : Nat → Int32} {n a : Int32} (h : ¬ dkDg T n.toInt a.toInt) : dkEd T n a = a := by
  unfold dkEd
  cases (n.toInt - a.toInt).toNat with
  | zero => rfl
  | succ k =>
    show (bif dkDb T n.toInt a.toInt then dkEr T n k (a + 1) else a) = a
    rw [dkDb_f h]
    rfl
theorem dk_succ {n a : Int32} (h : a.toInt < n.toInt) : (a + 1).toInt = a.toInt + 1 := by
  have h1 := Int32.toInt_lt n
  have h2 := Int32.le_toInt a
  rw [Int32.toInt_add]
  exact dk_bm (by show _ ≤ a.toInt + 1; omega) (by show a.toInt + 1 ≤ _; omega)
theorem dkEd_t {T : Nat → Int32} {n a : Int32} (h : dkDg T n.toInt a.toInt) : dkEd T n a = dkEd T n (a + 1) := by
  have e := dk_succ h.1
  have h1 := h.1
  unfold dkEd
  rw [show (n.toInt - a.toInt).toNat = (n.toInt - (a + 1).toInt).toNat + 1 by rw [e]; omega]
  show (bif dkDb T n.toInt a.toInt then dkEr T n (n.toInt - (a + 1).toInt).toNat (a + 1) else a) = _
  rw [dkDb_t h]
  rfl
/-- the value of the first two figures -/
def dkVv (T : Nat → Int32) (n a : Int) : Int := bif dkDb T n (a + 1) then 10 * ((T a.toNat).toInt - 48) + ((T (a + 1).toNat).toInt - 48) else (T a.toNat).toInt - 48
theorem dkVv_1 {T : Nat → Int32} {n a : Int} (h : ¬ dkDg T n (a + 1)) : dkVv T n a = (T a.toNat).toInt - 48 := by
  unfold dkVv
  rw [dkDb_f h]
  rfl
theorem dkVv_2 {T : Nat → Int32} {n a : Int} (h : dkDg T n (a + 1)) : dkVv T n a = 10 * ((T a.toNat).toInt - 48) + ((T (a + 1).toNat).toInt - 48) := by
  unfold dkVv
  rw [dkDb_t h]
  rfl
def dkTk (T : Nat → Int32) (n a : Int32) : Int32 := if n.toInt ≤ a.toInt then 0 else if 48 ≤ (T (Int32.toNatClampNeg a)).toInt ∧ (T (Int32.toNatClampNeg a)).toInt ≤ 57 then (if dkNv T n.toInt a.toInt < 0 then 5 else 2) else if 97 ≤ (T (Int32.toNatClampNeg a)).toInt ∧ (T (Int32.toNatClampNeg a)).toInt ≤ 122 then 1 else if (T (Int32.toNatClampNeg a)).toInt = 44 then 3 else if (T (Int32.toNatClampNeg a)).toInt = 59 then 4 else 5
def dkTv (T : Nat → Int32) (n a : Int32) : Int32 := if n.toInt ≤ a.toInt then -1 else if 48 ≤ (T (Int32.toNatClampNeg a)).toInt ∧ (T (Int32.toNatClampNeg a)).toInt ≤ 57 then Int32.ofInt (dkVv T n.toInt a.toInt) else T (Int32.toNatClampNeg a)
def dkTe (T : Nat → Int32) (n a : Int32) : Int32 := if n.toInt ≤ a.toInt then a else if 48 ≤ (T (Int32.toNatClampNeg a)).toInt ∧ (T (Int32.toNatClampNeg a)).toInt ≤ 57 then dkEd T n a else a + 1
theorem dkT_end {T : Nat → Int32} {n a : Int32} (h : n.toInt ≤ a.toInt) : dkTk T n a = 0 ∧ dkTv T n a = -1 ∧ dkTe T n a = a := ⟨if_pos h, if_pos h, if_pos h⟩
theorem dkT_non {T : Nat → Int32} {n a : Int32} (h : a.toInt < n.toInt) (h1 : (T (Int32.toNatClampNeg a)).toInt < 48 ∨ 57 < (T (Int32.toNatClampNeg a)).toInt) : dkTv T n a = T (Int32.toNatClampNeg a) ∧ dkTe T n a = a + 1 :=
  ⟨(if_neg (by omega)).trans (if_neg (by omega)), (if_neg (by omega)).trans (if_neg (by omega))⟩
theorem dkT_let {T : Nat → Int32} {n a : Int32} (h : a.toInt < n.toInt) (h1 : 97 ≤ (T (Int32.toNatClampNeg a)).toInt) (h2 : (T (Int32.toNatClampNeg a)).toInt ≤ 122) : dkTk T n a = 1 ∧ dkTv T n a = T (Int32.toNatClampNeg a) ∧ dkTe T n a = a + 1 :=
  ⟨(if_neg (by omega)).trans ((if_neg (by omega)).trans (if_pos ⟨h1, h2⟩)), dkT_non h (by omega)⟩
theorem dkT_com {T : Nat → Int32} {n a : Int32} (h : a.toInt < n.toInt) (h1 : (T (Int32.toNatClampNeg a)).toInt = 44) : dkTk T n a = 3 ∧ dkTv T n a = T (Int32.toNatClampNeg a) ∧ dkTe T n a = a + 1 :=
  ⟨(if_neg (by omega)).trans ((if_neg (by omega)).trans ((if_neg (by omega)).trans (if_pos h1))), dkT_non h (by omega)⟩
theorem dkT_stp {T : Nat → Int32} {n a : Int32} (h : a.toInt < n.toInt) (h1 : (T (Int32.toNatClampNeg a)).toInt = 59) : dkTk T n a = 4 ∧ dkTv T n a = T (Int32.toNatClampNeg a) ∧ dkTe T n a = a + 1 :=
  ⟨(if_neg (by omega)).trans ((if_neg (by omega)).trans ((if_neg (by omega)).trans ((if_neg (by omega)).trans (if_pos h1)))), dkT_non h (by omega)⟩
theorem dkT_odd {T : Nat → Int32} {n a : Int32} (h : a.toInt < n.toInt) (h1 : (T (Int32.toNatClampNeg a)).toInt < 48 ∨ 57 < (T (Int32.toNatClampNeg a)).toInt) (h2 : (T (Int32.toNatClampNeg a)).toInt < 97 ∨ 122 < (T (Int32.toNatClampNeg a)).toInt) (h3 : (T (Int32.toNatClampNeg a)).toInt ≠ 44) (h4 : (T (Int32.toNatClampNeg a)).toInt ≠ 59) : dkTk T n a = 5 ∧ dkTv T n a = T (Int32.toNatClampNeg a) ∧ dkTe T n a = a + 1 :=
  ⟨(if_neg (by omega)).trans ((if_neg (by omega)).trans ((if_neg (by omega)).trans ((if_neg (by omega)).trans (if_neg (by omega))))), dkT_non h h1⟩
theorem dkT_fig {T : Nat → Int32} {n a : Int32} (h : dkDg T n.toInt a.toInt) : dkTk T n a = (if dkNv T n.toInt a.toInt < 0 then 5 else 2) ∧ dkTv T n a = Int32.ofInt (dkVv T n.toInt a.toInt) ∧ dkTe T n a = dkEd T n a := by
  have h1 := h.1
  have h2 : 48 ≤ (T (Int32.toNatClampNeg a)).toInt := h.2.1
  have h3 : (T (Int32.toNatClampNeg a)).toInt ≤ 57 := h.2.2
  exact ⟨(if_neg (by omega)).trans (if_pos ⟨h2, h3⟩), (if_neg (by omega)).trans (if_pos ⟨h2, h3⟩), (if_neg (by omega)).trans (if_pos ⟨h2, h3⟩)⟩
/-- the figures from a to b are read, their value is v -/
def dkAdv (T : Nat → Int32) (n a b v : Int32) : Prop := dkDg T n.toInt a.toInt ∧ dkEd T n b = dkEd T n a ∧ ((b = a ∧ v = 0) ∨ (b.toInt = a.toInt + 1 ∧ v.toInt = (T a.toInt.toNat).toInt - 48) ∨ (b.toInt = a.toInt + 2 ∧ dkDg T n.toInt (a.toInt + 1) ∧ v.toInt = 10 * ((T a.toInt.toNat).toInt - 48) + ((T (a.toInt + 1).toNat).toInt - 48)) ∨ (a.toInt + 3 ≤ b.toInt ∧ dkDg T n.toInt (a.toInt + 1) ∧ dkDg T n.toInt (a.toInt + 2) ∧ v.toInt = 10 * ((T a.toInt.toNat).toInt - 48) + ((T (a.toInt + 1).toNat).toInt - 48)))
theorem dkAdv_0 {T : Nat → Int32} {n a : Int32} (h : a.toInt < n.toInt) (h1 : 48 ≤ (T (Int32.toNatClampNeg a)).toInt) (h2 : (T (Int32.toNatClampNeg a)).toInt ≤ 57) : dkAdv T n a a 0 := ⟨⟨h, h1, h2⟩, rfl, Or.inl ⟨rfl, rfl⟩⟩
theorem dk_ten {v t : Int32} (h1 : 0 ≤ v.toInt) (h2 : v.toInt ≤ 9) (h3 : 48 ≤ t.toInt) (h4 : t.toInt ≤ 57) : (((10 : Int32) * v + t) - (48 : Int32)).toInt = 10 * v.toInt + (t.toInt - 48) := by
  have e1 : ((10 : Int32) * v).toInt = 10 * v.toInt := by
    rw [Int32.toInt_mul]
    exact dk_bm (by show _ ≤ 10 * v.toInt; omega) (by show 10 * v.toInt ≤ _; omega)
  have e2 : ((10 : Int32) * v + t).toInt = 10 * v.toInt + t.toInt := by
    rw [Int32.toInt_add, e1]
    exact dk_bm (by omega) (by omega)
  have e3 : (((10 : Int32) * v + t) - (48 : Int32)).toInt = 10 * v.toInt + t.toInt - 48 := by
    rw [Int32.toInt_sub, e2]
    exact dk_bm (by show _ ≤ 10 * v.toInt + t.toInt - 48; omega) (by show 10 * v.toInt + t.toInt - 48 ≤ _; omega)
  omega
theorem dkAdv_s1 {T : Nat → Int32} {n a b v : Int32} (h : dkAdv T n a b v) (d1 : b.toInt < n.toInt) (d2 : 48 ≤ (T (Int32.toNatClampNeg b)).toInt) (d3 : (T (Int32.toNatClampNeg b)).toInt ≤ 57) (hb : b.toInt < a.toInt + 2) : dkAdv T n a (b + 1) (((10 : Int32) * v + T (Int32.toNatClampNeg b)) - (48 : Int32)) := by
  obtain ⟨ha, he, h⟩ := h
  have hd : dkDg T n.toInt b.toInt := ⟨d1, d2, d3⟩
  have e := dk_succ d1
  refine ⟨ha, (dkEd_t hd).symm.trans he, ?_⟩
  rcases h with ⟨h1, h2⟩ | ⟨h1, h2⟩ | ⟨h1, -⟩ | ⟨h1, -⟩
  · subst h1 h2
    refine Or.inr (Or.inl ⟨e, ?_⟩)
    rw [dk_ten (by decide) (by decide) d2 d3]
    show 10 * (0 : Int) + _ = _
    have : (T (Int32.toNatClampNeg b)).toInt = (T b.toInt.toNat).toInt := rfl
    omega
  · have h3 : 48 ≤ (T a.toInt.toNat).toInt := ha.2.1
    have h4 : (T a.toInt.toNat).toInt ≤ 57 := ha.2.2
    refine Or.inr (Or.inr (Or.inl ⟨by omega, by rw [← h1]; exact hd, ?_⟩))
    rw [dk_ten (by omega) (by omega) d2 d3, h2, ← h1]
    rfl
  · omega
  · omega
theorem dkAdv_s2 {T : Nat → Int32} {n a b v : Int32} (h : dkAdv T n a b v) (d1 : b.toInt < n.toInt) (d2 : 48 ≤ (T (Int32.toNatClampNeg b)).toInt) (d3 : (T (Int32.toNatClampNeg b)).toInt ≤ 57) (hb : a.toInt + 2 ≤ b.toInt) : dkAdv T n a (b + 1) v := by
  obtain ⟨ha, he, h⟩ := h
  have hd : dkDg T n.toInt b.toInt := ⟨d1, d2, d3⟩
  have e := dk_succ d1
  refine ⟨ha, (dkEd_t hd).symm.trans he, ?_⟩
  rcases h with ⟨h1, h2⟩ | ⟨h1, h2⟩ | ⟨h1, h2, h3⟩ | ⟨h1, h2, h4, h3⟩
  · subst h1
    omega
  · omega
  · exact Or.inr (Or.inr (Or.inr ⟨by omega, h2, by rw [← h1]; exact hd, h3⟩))
  · exact Or.inr (Or.inr (Or.inr ⟨by omega, h2, h4, h3⟩))
theorem dkAdv_end {T : Nat → Int32} {n a b v : Int32} (h : dkAdv T n a b v) (d0 : n.toInt ≤ b.toInt ∨ (T (Int32.toNatClampNeg b)).toInt < 48 ∨ 57 < (T (Int32.toNatClampNeg b)).toInt) : dkTe T n a = b ∧ dkTv T n a = v ∧ ((b.toInt < a.toInt + 3 ∧ dkTk T n a = 2) ∨ (a.toInt + 3 ≤ b.toInt ∧ dkTk T n a = 5)) := by
  have d : ¬ dkDg T n.toInt b.toInt := fun q => by
    have q1 := q.1
    have q2 : 48 ≤ (T (Int32.toNatClampNeg b)).toInt := q.2.1
    have q3 : (T (Int32.toNatClampNeg b)).toInt ≤ 57 := q.2.2
    omega
  obtain ⟨ha, he, h⟩ := h
  obtain ⟨k1, k2, k3⟩ := dkT_fig ha
  refine ⟨by rw [k3, ← he, dkEd_f d], ?_⟩
  rcases h with ⟨h1, h2⟩ | ⟨h1, h2⟩ | ⟨h1, h2, h3⟩ | ⟨h1, h2, h4, h3⟩
  · subst h1
    exact absurd ha d
  · rw [h1] at d
    refine ⟨by rw [k2, dkVv_1 d, ← h2, Int32.ofInt_toInt], Or.inl ⟨by omega, ?_⟩⟩
    rw [k1, (dkNv_1 ha d).1, if_neg]
    have := ha.2.1
    omega
  · rw [h1] at d
    refine ⟨by rw [k2, dkVv_2 h2, ← h3, Int32.ofInt_toInt], Or.inl ⟨by omega, ?_⟩⟩
    rw [k1, (dkNv_2 ha h2 d).1, if_neg]
    have := ha.2.1
    have := h2.2.1
    omega
  · refine ⟨by rw [k2, dkVv_2 h2, ← h3, Int32.ofInt_toInt], Or.inr ⟨h1, ?_⟩⟩
    rw [k1, dkNv_3 ha h2 h4, if_pos (by decide)]
theorem dkNv_b (T : Nat → Int32) (n a : Int) : -1 ≤ dkNv T n a ∧ dkNv T n a ≤ 99 := by
  by_cases h : dkDg T n a
  · by_cases h1 : dkDg T n (a + 1)
    · by_cases h2 : dkDg T n (a + 2)
      · rw [dkNv_3 h h1 h2]; decide
      · rw [(dkNv_2 h h1 h2).1]; unfold dkDg at h h1; omega
    · rw [(dkNv_1 h h1).1]; unfold dkDg at h; omega
  · rw [dkNv_0 h]; decide
theorem dkNv_o (T : Nat → Int32) (n a : Int) : (Int32.ofInt (dkNv T n a)).toInt = dkNv T n a := dk_ofI (by have := dkNv_b T n a; omega) (by have := dkNv_b T n a; omega)
/-- a sound NUMBER: its value and end -/
theorem dkNv_w {T : Nat → Int32} {n a : Int32} (h : dkDg T n.toInt a.toInt) (h0 : ¬ dkNv T n.toInt a.toInt < 0) : dkVv T n.toInt a.toInt = dkNv T n.toInt a.toInt ∧ dkEd T n a = Int32.ofInt (dkNe T n.toInt a.toInt) := by
  have e := dk_succ h.1
  by_cases h1 : dkDg T n.toInt (a.toInt + 1)
  · have h1' : dkDg T n.toInt (a + 1).toInt := by rw [e]; exact h1
    have e2 := dk_succ h1'.1
    by_cases h2 : dkDg T n.toInt (a.toInt + 2)
    · rw [dkNv_3 h h1 h2] at h0
      exact absurd (by decide) h0
    · obtain ⟨q1, q2⟩ := dkNv_2 h h1 h2
      refine ⟨by rw [q1, dkVv_2 h1], ?_⟩
      have e3 : (a + 1 + 1).toInt = a.toInt + 2 := by rw [e2, e]; omega
      rw [q2, dkEd_t h, dkEd_t h1', dkEd_f (by rw [e3]; exact h2), ← e3, Int32.ofInt_toInt]
  · obtain ⟨q1, q2⟩ := dkNv_1 h h1
    refine ⟨by rw [q1, dkVv_1 h1], ?_⟩
    rw [q2, dkEd_t h, dkEd_f (by rw [e]; exact h1), ← e, Int32.ofInt_toInt]
/-- which token it is -/
theorem dkT_all (T : Nat → Int32) (n a : Int32) : (n.toInt ≤ a.toInt ∧ dkTk T n a = 0 ∧ dkTe T n a = a) ∨ (a.toInt < n.toInt ∧ 48 ≤ (T (Int32.toNatClampNeg a)).toInt ∧ (T (Int32.toNatClampNeg a)).toInt ≤ 57 ∧ dkNv T n.toInt a.toInt < 0 ∧ dkTk T n a = 5) ∨ (a.toInt < n.toInt ∧ 48 ≤ (T (Int32.toNatClampNeg a)).toInt ∧ (T (Int32.toNatClampNeg a)).toInt ≤ 57 ∧ 0 ≤ dkNv T n.toInt a.toInt ∧ dkTk T n a = 2 ∧ dkTv T n a = Int32.ofInt (dkNv T n.toInt a.toInt) ∧ dkTe T n a = Int32.ofInt (dkNe T n.toInt a.toInt)) ∨ (a.toInt < n.toInt ∧ 97 ≤ (T (Int32.toNatClampNeg a)).toInt ∧ (T (Int32.toNatClampNeg a)).toInt ≤ 122 ∧ dkTk T n a = 1 ∧ dkTv T n a = T (Int32.toNatClampNeg a) ∧ dkTe T n a = a + 1) ∨ (a.toInt < n.toInt ∧ (T (Int32.toNatClampNeg a)).toInt = 44 ∧ dkTk T n a = 3 ∧ dkTe T n a = a + 1) ∨ (a.toInt < n.toInt ∧ (T (Int32.toNatClampNeg a)).toInt = 59 ∧ dkTk T n a = 4 ∧ dkTe T n a = a + 1) ∨ (a.toInt < n.toInt ∧ ((T (Int32.toNatClampNeg a)).toInt < 48 ∨ 57 < (T (Int32.toNatClampNeg a)).toInt) ∧ ((T (Int32.toNatClampNeg a)).toInt < 97 ∨ 122 < (T (Int32.toNatClampNeg a)).toInt) ∧ (T (Int32.toNatClampNeg a)).toInt ≠ 44 ∧ (T (Int32.toNatClampNeg a)).toInt ≠ 59 ∧ dkTk T n a = 5) := by
  by_cases h : n.toInt ≤ a.toInt
  · exact Or.inl ⟨h, (dkT_end h).1, (dkT_end h).2.2⟩
  have h : a.toInt < n.toInt := by omega
  refine Or.inr ?_
  by_cases h1 : 48 ≤ (T (Int32.toNatClampNeg a)).toInt ∧ (T (Int32.toNatClampNeg a)).toInt ≤ 57
  · obtain ⟨h1, h2⟩ := h1
    have hd : dkDg T n.toInt a.toInt := ⟨h, h1, h2⟩
    obtain ⟨k1, k2, k3⟩ := dkT_fig hd
    by_cases h3 : dkNv T n.toInt a.toInt < 0
    · exact Or.inl ⟨h, h1, h2, h3, by rw [k1, if_pos h3]⟩
    · obtain ⟨w1, w2⟩ := dkNv_w hd h3
      exact Or.inr (Or.inl ⟨h, h1, h2, by omega, by rw [k1, if_neg h3], by rw [k2, w1], by rw [k3, w2]⟩)
  refine Or.inr (Or.inr ?_)
  by_cases h2 : 97 ≤ (T (Int32.toNatClampNeg a)).toInt ∧ (T (Int32.toNatClampNeg a)).toInt ≤ 122
  · obtain ⟨k1, k2, k3⟩ := dkT_let h h2.1 h2.2
    exact Or.inl ⟨h, h2.1, h2.2, k1, k2, k3⟩
  refine Or.inr ?_
  by_cases h3 : (T (Int32.toNatClampNeg a)).toInt = 44
  · obtain ⟨k1, k2, k3⟩ := dkT_com h h3
    exact Or.inl ⟨h, h3, k1, k3⟩
  refine Or.inr ?_
  by_cases h4 : (T (Int32.toNatClampNeg a)).toInt = 59
  · obtain ⟨k1, k2, k3⟩ := dkT_stp h h4
    exact Or.inl ⟨h, h4, k1, k3⟩
  · exact Or.inr ⟨h, by omega, by omega, h3, h4, (dkT_odd h (by omega) (by omega) h3 h4).1⟩
/-- which sign a token is -/
theorem dkK_c {T : Nat → Int32} {n a : Int32} (h : (dkTk T n a).toInt = 3) : dkSg T n 44 a = (0, dkTe T n a) := by
  rcases dkT_all T n a with ⟨q, k, -⟩ | ⟨q, -, -, -, k⟩ | ⟨q, -, -, -, k, -, -⟩ | ⟨q, -, -, k, -, -⟩ | ⟨q, q1, k, e⟩ | ⟨q, q1, k, e⟩ | ⟨q, -, -, -, -, k⟩ <;> first | (rw [k] at h; exact absurd h (by decide)) | (rw [e]; exact dkSg_t q q1)
theorem dkK_cn {T : Nat → Int32} {n a : Int32} (h : (dkTk T n a).toInt ≠ 3) : dkSg T n 44 a = (1, a) := by
  refine dkSg_f ?_
  show n.toInt ≤ a.toInt ∨ (T (Int32.toNatClampNeg a)).toInt ≠ 44
  rcases dkT_all T n a with ⟨q, k, -⟩ | ⟨q, q1, q2, -, k⟩ | ⟨q, q1, q2, -, k, -, -⟩ | ⟨q, q1, q2, k, -, -⟩ | ⟨q, q1, k, e⟩ | ⟨q, q1, k, e⟩ | ⟨q, q1, q2, q3, q4, k⟩ <;> first | omega | (rw [k] at h; exact absurd rfl h)
theorem dkK_s {T : Nat → Int32} {n a : Int32} (h : (dkTk T n a).toInt = 4) : dkSg T n 59 a = (0, dkTe T n a) := by
  rcases dkT_all T n a with ⟨q, k, -⟩ | ⟨q, -, -, -, k⟩ | ⟨q, -, -, -, k, -, -⟩ | ⟨q, -, -, k, -, -⟩ | ⟨q, q1, k, e⟩ | ⟨q, q1, k, e⟩ | ⟨q, -, -, -, -, k⟩ <;> first | (rw [k] at h; exact absurd h (by decide)) | (rw [e]; exact dkSg_t q q1)
theorem dkK_sn {T : Nat → Int32} {n a : Int32} (h : (dkTk T n a).toInt ≠ 4) : dkSg T n 59 a = (1, a) := by
  refine dkSg_f ?_
  show n.toInt ≤ a.toInt ∨ (T (Int32.toNatClampNeg a)).toInt ≠ 59
  rcases dkT_all T n a with ⟨q, k, -⟩ | ⟨q, q1, q2, -, k⟩ | ⟨q, q1, q2, -, k, -, -⟩ | ⟨q, q1, q2, k, -, -⟩ | ⟨q, q1, k, e⟩ | ⟨q, q1, k, e⟩ | ⟨q, q1, q2, q3, q4, k⟩ <;> first | omega | (rw [k] at h; exact absurd rfl h)
/-- the letter c -/
theorem dkK_l {T : Nat → Int32} {n a c : Int32} (h : (dkTk T n a).toInt = 1) (h1 : (dkTv T n a).toInt = c.toInt) : dkSg T n c a = (0, dkTe T n a) := by
  rcases dkT_all T n a with ⟨q, k, -⟩ | ⟨q, -, -, -, k⟩ | ⟨q, -, -, -, k, -, -⟩ | ⟨q, -, -, k, v, e⟩ | ⟨q, q1, k, e⟩ | ⟨q, q1, k, e⟩ | ⟨q, -, -, -, -, k⟩ <;> first | (rw [k] at h; exact absurd h (by decide)) | (rw [e]; exact dkSg_t q (by rw [← v]; exact h1))
theorem dkK_ln {T : Nat → Int32} {n a c : Int32} (h : (dkTk T n a).toInt ≠ 1 ∨ (dkTv T n a).toInt ≠ c.toInt) (hc : 97 ≤ c.toInt ∧ c.toInt ≤ 122) : dkSg T n c a = (1, a) := by
  refine dkSg_f ?_
  rcases dkT_all T n a with ⟨q, k, -⟩ | ⟨q, q1, q2, -, k⟩ | ⟨q, q1, q2, -, k, -, -⟩ | ⟨q, q1, q2, k, v, -⟩ | ⟨q, q1, k, e⟩ | ⟨q, q1, k, e⟩ | ⟨q, q1, q2, q3, q4, k⟩ <;> first | omega | (rw [k, v] at h; exact h.elim (fun q => absurd rfl q) Or.inr)
/-- the NUMBER -/
theorem dkK_0 {T : Nat → Int32} {n a lo hi : Int32} (h : (dkTk T n a).toInt = 2) (h1 : lo.toInt ≤ (dkTv T n a).toInt) (h2 : (dkTv T n a).toInt ≤ hi.toInt) : dkNg T n lo hi a = (0, dkTe T n a) := by
  rcases dkT_all T n a with ⟨q, k, -⟩ | ⟨q, -, -, -, k⟩ | ⟨q, -, -, q3, k, v, e⟩ | ⟨q, -, -, k, -, -⟩ | ⟨q, q1, k, e⟩ | ⟨q, q1, k, e⟩ | ⟨q, -, -, -, -, k⟩ <;> first | (rw [k] at h; exact absurd h (by decide)) | (rw [e]; rw [v, dkNv_o] at h1 h2; exact dkNg_0 q3 h1 h2)
theorem dkK_2 {T : Nat → Int32} {n a lo hi : Int32} (h : (dkTk T n a).toInt = 2) (h1 : (dkTv T n a).toInt < lo.toInt ∨ hi.toInt < (dkTv T n a).toInt) : dkNg T n lo hi a = (2, a) := by
  rcases dkT_all T n a with ⟨q, k, -⟩ | ⟨q, -, -, -, k⟩ | ⟨q, -, -, q3, k, v, e⟩ | ⟨q, -, -, k, -, -⟩ | ⟨q, q1, k, e⟩ | ⟨q, q1, k, e⟩ | ⟨q, -, -, -, -, k⟩ <;> first | (rw [k] at h; exact absurd h (by decide)) | (rw [v, dkNv_o] at h1; exact dkNg_2 q3 h1)
theorem dkK_v {T : Nat → Int32} {n a : Int32} (h : (dkTk T n a).toInt = 2) : dkTv T n a = dkNn T n a := by
  rcases dkT_all T n a with ⟨q, k, -⟩ | ⟨q, -, -, -, k⟩ | ⟨q, -, -, q3, k, v, e⟩ | ⟨q, -, -, k, -, -⟩ | ⟨q, q1, k, e⟩ | ⟨q, q1, k, e⟩ | ⟨q, -, -, -, -, k⟩ <;> first | (rw [k] at h; exact absurd h (by decide)) | exact v
theorem dkK_1 {T : Nat → Int32} {n a lo hi : Int32} (h : (dkTk T n a).toInt ≠ 2) : dkNg T n lo hi a = (1, a) := by
  refine dkNg_1 ?_
  have e0 : a.toInt.toNat = Int32.toNatClampNeg a := rfl
  rcases dkT_all T n a with ⟨q, k, -⟩ | ⟨q, q1, q2, q3, k⟩ | ⟨q, q1, q2, -, k, -, -⟩ | ⟨q, q1, q2, k, -, -⟩ | ⟨q, q1, k, e⟩ | ⟨q, q1, k, e⟩ | ⟨q, q1, q2, q3, q4, k⟩ <;> first | exact q3 | (rw [k] at h; exact absurd rfl h) | (rw [dkNv_0 (by unfold dkDg; rw [e0]; omega)]; decide)
/-- a dog's sign -/
theorem dkK_d {T : Nat → Int32} {n a : Int32} (h : (dkTk T n a).toInt = 1) : a.toInt < n.toInt ∧ T (Int32.toNatClampNeg a) = dkTv T n a ∧ dkTe T n a = a + 1 := by
  rcases dkT_all T n a with ⟨q, k, -⟩ | ⟨q, -, -, -, k⟩ | ⟨q, -, -, -, k, -, -⟩ | ⟨q, -, -, k, v, e⟩ | ⟨q, q1, k, e⟩ | ⟨q, q1, k, e⟩ | ⟨q, -, -, -, -, k⟩ <;> first | (rw [k] at h; exact absurd h (by decide)) | exact ⟨q, v.symm, e⟩
theorem dkSo_n {c : Int} (h : c < 97 ∨ 122 < c) : dkSo c = -1000000 := by
  unfold dkSo
  rw [if_neg (by omega), if_neg (by omega), if_neg (by omega), if_neg (by omega), if_neg (by omega)]
theorem dkK_dn {T : Nat → Int32} {n a : Int32} (h : (dkTk T n a).toInt ≠ 1) (h0 : (dkTk T n a).toInt ≠ 0) : a.toInt < n.toInt ∧ dkSo (T (Int32.toNatClampNeg a)).toInt = -1000000 := by
  rcases dkT_all T n a with ⟨q, k, -⟩ | ⟨q, q1, q2, -, k⟩ | ⟨q, q1, q2, -, k, -, -⟩ | ⟨q, q1, q2, k, v, e⟩ | ⟨q, q1, k, e⟩ | ⟨q, q1, k, e⟩ | ⟨q, q1, q2, q3, q4, k⟩ <;> first | exact ⟨q, dkSo_n (by omega)⟩ | (rw [k] at h; exact absurd rfl h) | (rw [k] at h0; exact absurd rfl h0)
theorem dkK_e {T : Nat → Int32} {n a : Int32} (h : (dkTk T n a).toInt = 0) : n.toInt ≤ a.toInt := by
  rcases dkT_all T n a with ⟨q, k, -⟩ | ⟨q, -, -, -, k⟩ | ⟨q, -, -, -, k, -, -⟩ | ⟨q, -, -, k, v, e⟩ | ⟨q, q1, k, e⟩ | ⟨q, q1, k, e⟩ | ⟨q, -, -, -, -, k⟩ <;> first | exact q | (rw [k] at h; exact absurd h (by decide))
