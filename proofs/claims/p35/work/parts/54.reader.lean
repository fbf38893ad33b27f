/-! THE CLASS'S READER, its loops -/
theorem dkN_hi {S : dkS} {x : Int32} {b : Int} (h : dkN S x) (h1 : dkAll1 S (fun p => decide (p.2 ≤ b)) = true) : x.toInt ≤ b := by
  obtain ⟨p, hp, h2, h3⟩ := h
  have := of_decide_eq_true (dkAll1_of h1 hp)
  omega
theorem dkN_lo {S : dkS} {x : Int32} {b : Int} (h : dkN S x) (h1 : dkAll1 S (fun p => decide (b ≤ p.1)) = true) : b ≤ x.toInt := by
  obtain ⟨p, hp, h2, h3⟩ := h
  have := of_decide_eq_true (dkAll1_of h1 hp)
  omega
theorem dkMw_1 {T : Nat → Int32} {n h a : Int32} (g : (dkMw T n h a).1 = 0) : (dkSg T n 109 a).1 = 0 := by
  by_cases g2 : (dkSg T n 109 a).1 = 0
  · exact g2
  · rw [show dkMw T n h a = dkSg T n 109 a from dkTh_n g2] at g
    exact absurd g g2
theorem dkPs_m {T : Nat → Int32} {n h a : Int32} (q : (dkSg T n 109 a).1 = 0) : dkPs T n h a = dkPw T n h 5 a := (dkPw_s q).symm
theorem dkX1c_1 {T : Nat → Int32} {n h a : Int32} (g : (dkMw T n h a).1 = 0) : dkX1 T n h a (dkMw T n h a).2 (0 + 1) := by
  have q := dkMw_1 g
  exact ⟨4, rfl, by rw [dkPw_s q, dkTh_0 g], (dkPk_s q).symm⟩
theorem dkX1c_m {T : Nat → Int32} {n h a b p : Int32} (hX : dkX1 T n h a b p) (q : (dkSg T n 109 b).1 = 0) (hp : p.toInt + 1 ≤ 5) : ∃ k : Nat, (k : Int) + p.toInt = 4 ∧ dkTh (dkMw T n h b) (dkPw T n h k) = dkPw T n h 5 a ∧ dkPk T n h k (dkMw T n h b).2 (p + 1) = dkPk T n h 5 a 0 := by
  obtain ⟨k, h1, h2, h3⟩ := hX
  cases k with
  | zero => exact absurd h1 (by show ((0 : Nat) : Int) + _ ≠ _; omega)
  | succ k => exact ⟨k, by omega, by rw [← h2, dkPw_s q], by rw [← h3, dkPk_s q]⟩
theorem dkX1c_s {T : Nat → Int32} {n h a b p : Int32} (hX : dkX1 T n h a b p) (hp : p.toInt + 1 ≤ 5) (h0 : (0 : Int32).toInt ≤ p.toInt) (g : (dkMw T n h b).1 = 0) : dkX1 T n h a (dkMw T n h b).2 (p + 1) := by
  obtain ⟨k, h1, h2, h3⟩ := dkX1c_m hX (dkMw_1 g) hp
  have h9 : (0 : Int32).toInt = 0 := rfl
  have e : (p + 1).toInt = p.toInt + 1 := by
    rw [Int32.toInt_add]
    exact dk_bm (by show _ ≤ p.toInt + 1; omega) (by show p.toInt + 1 ≤ _; omega)
  exact ⟨k, by omega, by rw [← h2, dkTh_0 g], h3⟩
theorem dkX1c_f {T : Nat → Int32} {n h a b p : Int32} (hX : dkX1 T n h a b p) (q1 : b.toInt < n.toInt) (q2 : (T (Int32.toNatClampNeg b)).toInt = 109) (hp : p.toInt + 1 ≤ 5) (g : (dkMw T n h b).1 ≠ 0) : dkPw T n h 5 a = dkMw T n h b := by
  obtain ⟨k, h1, h2, h3⟩ := dkX1c_m hX (by rw [dkSg_t q1 q2]) hp
  rw [← h2, dkTh_n g]
theorem dkX1c_o {T : Nat → Int32} {n h a b p : Int32} (hX : dkX1 T n h a b p) (q1 : b.toInt < n.toInt) (q2 : (T (Int32.toNatClampNeg b)).toInt = 109) (hp : 5 ≤ p.toInt) : dkPw T n h 5 a = (3, b) := by
  obtain ⟨k, h1, h2, h3⟩ := hX
  cases k with
  | zero => rw [← h2, dkPw_3 (by rw [dkSg_t q1 q2])]
  | succ k => exact absurd h1 (by omega)
theorem dkX1c_e {T : Nat → Int32} {n h a b p : Int32} (hX : dkX1 T n h a b p) (q : n.toInt ≤ b.toInt ∨ (T (Int32.toNatClampNeg b)).toInt ≠ 109) : dkPw T n h 5 a = (0, b) ∧ p = dkPk T n h 5 a 0 := by
  obtain ⟨k, h1, h2, h3⟩ := hX
  have hs : dkSg T n 109 b = (1, b) := dkSg_f q
  exact ⟨by rw [← h2, dkPw_e (dkE_k hs (by decide))], by rw [← h3, dkPk_e (dkE_k hs (by decide))]⟩
theorem dkX2c_m {T : Nat → Int32} {n h a b d : Int32} (hX : dkX2 T n h a b d) (q1 : b.toInt < n.toInt) (v : dkSo (T (Int32.toNatClampNeg b)).toInt ≠ -1000000) (hp : d.toInt + 1 ≤ 6) : ∃ k : Nat, (k : Int) + d.toInt = 5 ∧ dkTh (dkNg T n 0 (h - 1) (b + 1)) (fun b => dkTh (dkSg T n 59 b) (dkDw T n h k)) = dkDw T n h 6 a ∧ dkDk T n h k (dkSg T n 59 (dkNg T n 0 (h - 1) (b + 1)).2).2 (d + 1) = dkDk T n h 6 a 0 := by
  obtain ⟨k, h1, h2, h3⟩ := hX
  cases k with
  | zero => exact absurd h1 (by show ((0 : Nat) : Int) + _ ≠ _; omega)
  | succ k => exact ⟨k, by omega, by rw [← h2, dkDw_s q1 v], by rw [← h3, dkDk_s q1]⟩
theorem dkX2c_s {T : Nat → Int32} {n h a b d : Int32} (hX : dkX2 T n h a b d) (q1 : b.toInt < n.toInt) (v : dkSo (T (Int32.toNatClampNeg b)).toInt ≠ -1000000) (hp : d.toInt + 1 ≤ 6) (h0 : (0 : Int32).toInt ≤ d.toInt) (g1 : (dkNg T n 0 (h - 1) (b + 1)).1 = 0) (g2 : (dkSg T n 59 (dkNg T n 0 (h - 1) (b + 1)).2).1 = 0) : dkX2 T n h a (dkSg T n 59 (dkNg T n 0 (h - 1) (b + 1)).2).2 (d + 1) := by
  obtain ⟨k, h1, h2, h3⟩ := dkX2c_m hX q1 v hp
  have h9 : (0 : Int32).toInt = 0 := rfl
  have e : (d + 1).toInt = d.toInt + 1 := by
    rw [Int32.toInt_add]
    exact dk_bm (by show _ ≤ d.toInt + 1; omega) (by show d.toInt + 1 ≤ _; omega)
  exact ⟨k, by omega, by rw [← h2, dkTh_0 g1, dkTh_0 g2], h3⟩
theorem dkX2c_f1 {T : Nat → Int32} {n h a b d : Int32} (hX : dkX2 T n h a b d) (q1 : b.toInt < n.toInt) (v : dkSo (T (Int32.toNatClampNeg b)).toInt ≠ -1000000) (hp : d.toInt + 1 ≤ 6) (g1 : (dkNg T n 0 (h - 1) (b + 1)).1 ≠ 0) : dkDw T n h 6 a = dkNg T n 0 (h - 1) (b + 1) := by
  obtain ⟨k, h1, h2, h3⟩ := dkX2c_m hX q1 v hp
  rw [← h2, dkTh_n g1]
theorem dkX2c_f2 {T : Nat → Int32} {n h a b d : Int32} (hX : dkX2 T n h a b d) (q1 : b.toInt < n.toInt) (v : dkSo (T (Int32.toNatClampNeg b)).toInt ≠ -1000000) (hp : d.toInt + 1 ≤ 6) (g1 : (dkNg T n 0 (h - 1) (b + 1)).1 = 0) (g2 : (dkSg T n 59 (dkNg T n 0 (h - 1) (b + 1)).2).1 ≠ 0) : dkDw T n h 6 a = dkSg T n 59 (dkNg T n 0 (h - 1) (b + 1)).2 := by
  obtain ⟨k, h1, h2, h3⟩ := dkX2c_m hX q1 v hp
  rw [← h2, dkTh_0 g1, dkTh_n g2]
theorem dkX2c_o {T : Nat → Int32} {n h a b d : Int32} (hX : dkX2 T n h a b d) (q1 : b.toInt < n.toInt) (v : dkSo (T (Int32.toNatClampNeg b)).toInt ≠ -1000000) (hp : 6 ≤ d.toInt) : dkDw T n h 6 a = (3, b) := by
  obtain ⟨k, h1, h2, h3⟩ := hX
  cases k with
  | zero => rw [← h2, dkDw_3 q1 v]
  | succ k => exact absurd h1 (by omega)
theorem dkX2c_u {T : Nat → Int32} {n h a b d : Int32} (hX : dkX2 T n h a b d) (q1 : b.toInt < n.toInt) (v : dkSo (T (Int32.toNatClampNeg b)).toInt = -1000000) : dkDw T n h 6 a = (1, b) := by
  obtain ⟨k, h1, h2, h3⟩ := hX
  rw [← h2, dkDw_1 q1 v]
theorem dkX2c_e {T : Nat → Int32} {n h a b d : Int32} (hX : dkX2 T n h a b d) (q : n.toInt ≤ b.toInt) : dkDw T n h 6 a = (0, b) ∧ d = dkDk T n h 6 a 0 := by
  obtain ⟨k, h1, h2, h3⟩ := hX
  exact ⟨by rw [← h2, dkDw_e q], by rw [← h3, dkDk_e q]⟩
theorem dkTw_1 {T : Nat → Int32} {n : Int32} (g : (dkLw T n 0).1 ≠ 0) : dkTw T n = dkLw T n 0 := dkTh_n g
theorem dkTw_2 {T : Nat → Int32} {n : Int32} (g : (dkLw T n 0).1 = 0) (g2 : (dkPs T n (dkHh T n) (dkLw T n 0).2).1 ≠ 0) : dkTw T n = dkPs T n (dkHh T n) (dkLw T n 0).2 := (dkTh_0 g).trans (dkTh_n g2)
theorem dkTw_3 {T : Nat → Int32} {n : Int32} (g : (dkLw T n 0).1 = 0) (g2 : (dkPs T n (dkHh T n) (dkLw T n 0).2).1 = 0) : dkTw T n = dkDw T n (dkHh T n) 6 (dkPs T n (dkHh T n) (dkLw T n 0).2).2 := (dkTh_0 g).trans (dkTh_0 g2)
theorem dkTw_0 {T : Nat → Int32} {n : Int32} (g : (dkLw T n 0).1 = 0) (g2 : (dkPs T n (dkHh T n) (dkLw T n 0).2).1 = 0) (g3 : (dkDw T n (dkHh T n) 6 (dkPs T n (dkHh T n) (dkLw T n 0).2).2).1 = 0) : (dkTw T n).1 = 0 := by rw [dkTw_3 g g2]; exact g3
theorem dkPs_1s {T : Nat → Int32} {n h a : Int32} (g : (dkPs T n h a).1 = 0) : (dkSg T n 109 a).1 = 0 := by
  by_cases g2 : (dkMw T n h a).1 = 0
  · exact dkMw_1 g2
  · rw [show dkPs T n h a = dkMw T n h a from dkTh_n g2] at g
    exact absurd g g2
theorem dkTw_0p {T : Nat → Int32} {n : Int32} (g : (dkLw T n 0).1 = 0) (g2 : (dkPs T n (dkHh T n) (dkLw T n 0).2).1 = 0) : dkPk T n (dkHh T n) 5 (dkLw T n 0).2 0 = dkTp T n := rfl
theorem dkTw_0d {T : Nat → Int32} {n : Int32} (g : (dkLw T n 0).1 = 0) (g2 : (dkPs T n (dkHh T n) (dkLw T n 0).2).1 = 0) : dkDk T n (dkHh T n) 6 (dkPs T n (dkHh T n) (dkLw T n 0).2).2 0 = dkTd T n := rfl
theorem dkT_neT {t u c d : Nat} (ht : dkT t) (hu : dkT u) (hc : c < 11) (hd : d < 11) (h : c ≠ d) : t + c ≠ u + d := by
  intro q
  have h1 := dkTc_T ht hc
  rw [q, dkTc_T hu hd] at h1
  exact h h1.symm
theorem dkU_j {I : dkI} {k k' i j : Nat} {v : Int32} (h : i ≠ j) : dkU I k j v k' i = I k' i := by
  by_cases q : k' = k
  · subst q
    exact dkU_sn h
  · rw [dkU_n q]
