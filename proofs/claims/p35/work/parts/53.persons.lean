theorem dkP_1 {x : Int32 × Int32} {k b : Int32} (e : x = (k, b)) : x.1 = k := by rw [e]
theorem dkP_2 {x : Int32 × Int32} {k b : Int32} (e : x = (k, b)) : x.2 = b := by rw [e]
/-- a person behind its sign, a dog behind its sign -/
def dkMb (T : Nat → Int32) (n h a : Int32) : Int32 × Int32 := dkTh (dkNg T n 0 (h - 1) a) fun b => dkTh (dkSg T n 44 b) fun b => dkTh (dkNg T n 0 9 b) fun b => dkTh (dkSg T n 44 b) fun b => dkTh (dkNg T n 0 2 b) fun b => dkSg T n 59 b
def dkDo (T : Nat → Int32) (n h a : Int32) : Int32 × Int32 := dkTh (dkNg T n 0 (h - 1) a) fun b => dkSg T n 59 b
theorem dkMw_b {T : Nat → Int32} {n h a b : Int32} (q : dkSg T n 109 a = (0, b)) : dkMw T n h a = dkMb T n h b := dkTh_p q
theorem dkTh_ass {x : Int32 × Int32} {f k : Int32 → Int32 × Int32} : dkTh x (fun b => dkTh (f b) k) = dkTh (dkTh x f) k := by
  by_cases h : x.1 = 0
  · rw [dkTh_0 h, dkTh_0 h]
  · rw [dkTh_n h, dkTh_n h, dkTh_n h]
theorem dk_e0 {x y : Int32} (h : x.toInt = y.toInt) : x = y := Int32.toInt_inj.mp h
/-- persons: b is the place, p of them are read -/
def dkX1 (T : Nat → Int32) (n h a b p : Int32) : Prop := ∃ k : Nat, (k : Int) + p.toInt = 5 ∧ dkPw T n h k b = dkPw T n h 5 a ∧ dkPk T n h k b p = dkPk T n h 5 a 0
theorem dkX1_0 {T : Nat → Int32} {n h a : Int32} : dkX1 T n h a a 0 := ⟨5, rfl, rfl, rfl⟩
theorem dkX1_m {T : Nat → Int32} {n h a b p : Int32} (hX : dkX1 T n h a b p) (t : (dkTk T n b).toInt = 1) (v : (dkTv T n b).toInt = 109) (hp : p.toInt + 1 ≤ 5) : ∃ k : Nat, (k : Int) + p.toInt = 4 ∧ dkTh (dkMb T n h (dkTe T n b)) (dkPw T n h k) = dkPw T n h 5 a ∧ dkPk T n h k (dkMb T n h (dkTe T n b)).2 (p + 1) = dkPk T n h 5 a 0 := by
  obtain ⟨k, h1, h2, h3⟩ := hX
  have hs : dkSg T n 109 b = (0, dkTe T n b) := dkK_l t v
  cases k with
  | zero => exact absurd h1 (by show ((0 : Nat) : Int) + _ ≠ _; omega)
  | succ k =>
    refine ⟨k, by omega, ?_, ?_⟩
    · rw [← h2, dkPw_s (by rw [hs]), dkMw_b hs]
    · rw [← h3, dkPk_s (by rw [hs]), dkMw_b hs]
theorem dkX1_s {T : Nat → Int32} {n h a b p : Int32} (hX : dkX1 T n h a b p) (t : (dkTk T n b).toInt = 1) (v : (dkTv T n b).toInt = 109) (hp : p.toInt + 1 ≤ 5) (h0 : 0 ≤ p.toInt) (g : (dkMb T n h (dkTe T n b)).1 = 0) : dkX1 T n h a (dkMb T n h (dkTe T n b)).2 (p + 1) := by
  obtain ⟨k, h1, h2, h3⟩ := dkX1_m hX t v hp
  have e : (p + 1).toInt = p.toInt + 1 := by
    rw [Int32.toInt_add]
    exact dk_bm (by show _ ≤ p.toInt + 1; omega) (by show p.toInt + 1 ≤ _; omega)
  exact ⟨k, by omega, by rw [← h2, dkTh_0 g], h3⟩
theorem dkX1_f {T : Nat → Int32} {n h a b p : Int32} (hX : dkX1 T n h a b p) (t : (dkTk T n b).toInt = 1) (v : (dkTv T n b).toInt = 109) (hp : p.toInt + 1 ≤ 5) (g : (dkMb T n h (dkTe T n b)).1 ≠ 0) : dkPw T n h 5 a = dkMb T n h (dkTe T n b) := by
  obtain ⟨k, h1, h2, h3⟩ := dkX1_m hX t v hp
  rw [← h2, dkTh_n g]
theorem dkX1_o {T : Nat → Int32} {n h a b p : Int32} (hX : dkX1 T n h a b p) (t : (dkTk T n b).toInt = 1) (v : (dkTv T n b).toInt = 109) (hp : 5 ≤ p.toInt) : dkPw T n h 5 a = (3, b) := by
  obtain ⟨k, h1, h2, h3⟩ := hX
  cases k with
  | zero => rw [← h2, dkPw_3 (by rw [show dkSg T n 109 b = (0, dkTe T n b) from dkK_l t v])]
  | succ k => exact absurd h1 (by omega)
theorem dkX1_e {T : Nat → Int32} {n h a b p : Int32} (hX : dkX1 T n h a b p) (q : (dkTk T n b).toInt ≠ 1 ∨ (dkTv T n b).toInt ≠ 109) : dkPw T n h 5 a = (0, b) ∧ p = dkPk T n h 5 a 0 := by
  obtain ⟨k, h1, h2, h3⟩ := hX
  have hs : dkSg T n 109 b = (1, b) := dkK_ln q (by decide)
  exact ⟨by rw [← h2, dkPw_e (dkE_k hs (by decide))], by rw [← h3, dkPk_e (dkE_k hs (by decide))]⟩
/-- dogs: b is the place, d of them are read -/
def dkX2 (T : Nat → Int32) (n h a b d : Int32) : Prop := ∃ k : Nat, (k : Int) + d.toInt = 6 ∧ dkDw T n h k b = dkDw T n h 6 a ∧ dkDk T n h k b d = dkDk T n h 6 a 0
theorem dkX2_0 {T : Nat → Int32} {n h a : Int32} : dkX2 T n h a a 0 := ⟨6, rfl, rfl, rfl⟩
theorem dkX2_m {T : Nat → Int32} {n h a b d : Int32} (hX : dkX2 T n h a b d) (t : (dkTk T n b).toInt = 1) (v : dkSo (dkTv T n b).toInt ≠ -1000000) (hp : d.toInt + 1 ≤ 6) : ∃ k : Nat, (k : Int) + d.toInt = 5 ∧ dkTh (dkDo T n h (dkTe T n b)) (dkDw T n h k) = dkDw T n h 6 a ∧ ((dkDo T n h (dkTe T n b)).1 = 0 → dkDk T n h k (dkDo T n h (dkTe T n b)).2 (d + 1) = dkDk T n h 6 a 0) := by
  obtain ⟨k, h1, h2, h3⟩ := hX
  obtain ⟨q1, q2, q3⟩ := dkK_d t
  cases k with
  | zero => exact absurd h1 (by show ((0 : Nat) : Int) + _ ≠ _; omega)
  | succ k =>
    refine ⟨k, by omega, ?_, fun g => ?_⟩
    · rw [← h2, dkDw_s q1 (by rw [q2]; exact v), q3]
      exact dkTh_ass.symm
    · rw [← h3, dkDk_s q1, ← q3]
      have g1 : (dkNg T n 0 (h - 1) (dkTe T n b)).1 = 0 := by
        by_cases g2 : (dkNg T n 0 (h - 1) (dkTe T n b)).1 = 0
        · exact g2
        · rw [show dkDo T n h (dkTe T n b) = dkNg T n 0 (h - 1) (dkTe T n b) from dkTh_n g2] at g
          exact absurd g g2
      rw [show dkDo T n h (dkTe T n b) = dkSg T n 59 (dkNg T n 0 (h - 1) (dkTe T n b)).2 from dkTh_0 g1]
theorem dkX2_s {T : Nat → Int32} {n h a b d : Int32} (hX : dkX2 T n h a b d) (t : (dkTk T n b).toInt = 1) (v : dkSo (dkTv T n b).toInt ≠ -1000000) (hp : d.toInt + 1 ≤ 6) (h0 : 0 ≤ d.toInt) (g : (dkDo T n h (dkTe T n b)).1 = 0) : dkX2 T n h a (dkDo T n h (dkTe T n b)).2 (d + 1) := by
  obtain ⟨k, h1, h2, h3⟩ := dkX2_m hX t v hp
  have e : (d + 1).toInt = d.toInt + 1 := by
    rw [Int32.toInt_add]
    exact dk_bm (by show _ ≤ d.toInt + 1; omega) (by show d.toInt + 1 ≤ _; omega)
  exact ⟨k, by omega, by rw [← h2, dkTh_0 g], h3 g⟩
theorem dkX2_f {T : Nat → Int32} {n h a b d : Int32} (hX : dkX2 T n h a b d) (t : (dkTk T n b).toInt = 1) (v : dkSo (dkTv T n b).toInt ≠ -1000000) (hp : d.toInt + 1 ≤ 6) (g : (dkDo T n h (dkTe T n b)).1 ≠ 0) : dkDw T n h 6 a = dkDo T n h (dkTe T n b) := by
  obtain ⟨k, h1, h2, h3⟩ := dkX2_m hX t v hp
  rw [← h2, dkTh_n g]
theorem dkX2_o {T : Nat → Int32} {n h a b d : Int32} (hX : dkX2 T n h a b d) (t : (dkTk T n b).toInt = 1) (v : dkSo (dkTv T n b).toInt ≠ -1000000) (hp : 6 ≤ d.toInt) : dkDw T n h 6 a = (3, b) := by
  obtain ⟨k, h1, h2, h3⟩ := hX
  obtain ⟨q1, q2, q3⟩ := dkK_d t
  cases k with
  | zero => rw [← h2, dkDw_3 q1 (by rw [q2]; exact v)]
  | succ k => exact absurd h1 (by omega)
theorem dkX2_e {T : Nat → Int32} {n h a b d : Int32} (hX : dkX2 T n h a b d) (t : (dkTk T n b).toInt = 0) : dkDw T n h 6 a = (0, b) ∧ d = dkDk T n h 6 a 0 := by
  obtain ⟨k, h1, h2, h3⟩ := hX
  have q := dkK_e t
  exact ⟨by rw [← h2, dkDw_e q], by rw [← h3, dkDk_e q]⟩
theorem dkX2_u {T : Nat → Int32} {n h a b d : Int32} (hX : dkX2 T n h a b d) (t : (dkTk T n b).toInt ≠ 0) (v : (dkTk T n b).toInt ≠ 1 ∨ dkSo (dkTv T n b).toInt = -1000000) : dkDw T n h 6 a = (1, b) := by
  obtain ⟨k, h1, h2, h3⟩ := hX
  by_cases t1 : (dkTk T n b).toInt = 1
  · obtain ⟨q1, q2, q3⟩ := dkK_d t1
    rw [← h2, dkDw_1 q1 (by rw [q2]; exact v.elim (fun q => absurd t1 q) id)]
  · obtain ⟨q1, q2⟩ := dkK_dn t1 t
    rw [← h2, dkDw_1 q1 q2]
/-! THE WHOLE TEXT: what it says; its PLACES, PEOPLE, DOGS -/
def dkHh (T : Nat → Int32) (n : Int32) : Int32 := dkNn T n (dkSg T n 116 0).2
def dkTw (T : Nat → Int32) (n : Int32) : Int32 × Int32 := dkTh (dkLw T n 0) fun b => dkTh (dkPs T n (dkHh T n) b) fun b => dkDw T n (dkHh T n) 6 b
def dkTp (T : Nat → Int32) (n : Int32) : Int32 := dkPk T n (dkHh T n) 5 (dkLw T n 0).2 0
def dkTd (T : Nat → Int32) (n : Int32) : Int32 := dkDk T n (dkHh T n) 6 (dkPs T n (dkHh T n) (dkLw T n 0).2).2 0
theorem dkPs_w {T : Nat → Int32} {n h a b : Int32} (q : dkSg T n 109 a = (0, b)) : dkPs T n h a = dkPw T n h 5 a := by
  have q1 : (dkSg T n 109 a).1 = 0 := by rw [q]
  exact (dkPw_s q1).symm
theorem dkPs_1 {T : Nat → Int32} {n h a : Int32} (q : dkSg T n 109 a = (1, a)) : dkPs T n h a = (1, a) := by
  have e : dkMw T n h a = (1, a) := dkTh_q q (by decide)
  exact dkTh_q e (by decide)
/-- the words of the parts give those of the whole -/
theorem dkTw_l {T : Nat → Int32} {n k b : Int32} (e : dkLw T n 0 = (k, b)) (hk : k ≠ 0) : dkTw T n = (k, b) := dkTh_q e hk
theorem dkTw_p {T : Nat → Int32} {n h a k b : Int32} (e : dkLw T n 0 = (0, a)) (eh : dkHh T n = h) (e2 : dkPs T n h a = (k, b)) (hk : k ≠ 0) : dkTw T n = (k, b) := (dkTh_p e).trans (by rw [eh]; exact dkTh_q e2 hk)
theorem dkTw_d {T : Nat → Int32} {n h a c : Int32} (e : dkLw T n 0 = (0, a)) (eh : dkHh T n = h) (e2 : dkPs T n h a = (0, c)) : dkTw T n = dkDw T n h 6 c := (dkTh_p e).trans (by rw [eh]; exact dkTh_p e2)
theorem dkTp_d {T : Nat → Int32} {n h a p : Int32} (e : dkLw T n 0 = (0, a)) (eh : dkHh T n = h) (e2 : p = dkPk T n h 5 a 0) : p = dkTp T n := by
  unfold dkTp
  rw [e, eh]
  exact e2
theorem dkTd_d {T : Nat → Int32} {n h a c d : Int32} (e : dkLw T n 0 = (0, a)) (eh : dkHh T n = h) (e2 : dkPs T n h a = (0, c)) (e3 : d = dkDk T n h 6 c 0) : d = dkTd T n := by
  unfold dkTd
  rw [eh, e]
  show d = dkDk T n h 6 (dkPs T n h a).2 0
  rw [e2]
  exact e3
/-- the reference's dogs' sorts: 0 for none -/
theorem dkSo_k {c : Int} (h : c = 104 ∨ c = 116 ∨ c = 112 ∨ c = 107 ∨ c = 115) : dkSo c ≠ -1000000 := by
  rcases h with h | h | h | h | h <;> subst h <;> decide
theorem dkSo_0 {c : Int} (h1 : c ≠ 104) (h2 : c ≠ 116) (h3 : c ≠ 112) (h4 : c ≠ 107) (h5 : c ≠ 115) : dkSo c = -1000000 := by
  unfold dkSo
  rw [if_neg h1, if_neg h2, if_neg h3, if_neg h4, if_neg h5]
/-- the places at both loops of the reference's town -/
def dkSy (T : Nat → Int32) (n : Int32) (I : dkI) : Prop := I 340 11 = dkTk T n (I 340 10) ∧ I 340 12 = dkTv T n (I 340 10) ∧ I 340 9 = dkTe T n (I 340 10)
def dkX3 (T : Nat → Int32) (n h a p b d : Int32) : Prop := ∃ c, dkPw T n h 5 a = (0, c) ∧ p = dkPk T n h 5 a 0 ∧ dkX2 T n h c b d
theorem dkZ_s {I I1 : dkI} {x y : Int32} (h : ∀ j : Nat, (j : Int) < x.toInt → I 347 j = 0) (e : I1 = dkU I 347 (Int32.toNatClampNeg x) 0) (ey : y.toInt = x.toInt + 1) (hx : (0 : Int32).toInt ≤ x.toInt) : ∀ j : Nat, (j : Int) < y.toInt → I1 347 j = 0 := by
  intro j hj
  have h0 : (0 : Int32).toInt = 0 := rfl
  have h1 := dk_cln (i := x) (by omega)
  rw [e]
  by_cases q : j = Int32.toNatClampNeg x
  · rw [q, dkU_ss]
  · rw [dkU_sn q]
    exact h j (by omega)
