def dkRow (I : dkI) : Prop := ∀ r, r < 8 → (I 11 r = -1 ∧ I 341 r = -1000000) ∨ (¬ I 341 r = -1000000 ∧ I 11 r = I 342 r ∧ I 10 r = I 341 r)
def dkRowf (q : Nat × Nat × Nat × Nat) : Bool := Nat.blt q.2.1 10 || (Nat.blt 11 q.1 && Nat.blt q.2.1 341) || Nat.blt 342 q.1
theorem dkRow_k {ms : dkM} {I J : dkI} (h : dkF ms I J) (c : (ms.all fun q => dkRowf q) = true) (k : Nat) (hk : k = 10 ∨ k = 11 ∨ k = 341 ∨ k = 342) : J k = I k := by
  funext j
  refine h k j ?_
  rw [← Bool.not_eq_true]
  intro h4
  obtain ⟨q, hq, h5⟩ := List.any_eq_true.mp h4
  rw [Bool.and_eq_true, Bool.and_eq_true, Bool.and_eq_true] at h5
  have e1 := of_decide_eq_true h5.1.1.1
  have e2 := of_decide_eq_true h5.1.1.2
  have h6 := List.all_eq_true.mp c q hq
  unfold dkRowf at h6
  rw [Bool.or_eq_true, Bool.or_eq_true, Bool.and_eq_true] at h6
  rcases h6 with (h6 | h6) | h6
  · have := Nat.ble_eq.mp h6
    omega
  · have h7 := Nat.ble_eq.mp h6.1
    have h8 := Nat.ble_eq.mp h6.2
    omega
  · have := Nat.ble_eq.mp h6
    omega
theorem dkRow_F {ms ns : dkM} {I J K : dkI} (hR : dkRow I) (h1 : dkF ms I J) (h2 : dkF ns J K) (c1 : (ms.all fun q => dkRowf q) = true) (c2 : (ns.all fun q => dkRowf q) = true) : dkRow K := by
  intro r hr
  rw [dkRow_k h2 c2 11 (by decide), dkRow_k h2 c2 10 (by decide), dkRow_k h2 c2 341 (by decide), dkRow_k h2 c2 342 (by decide), dkRow_k h1 c1 11 (by decide), dkRow_k h1 c1 10 (by decide), dkRow_k h1 c1 341 (by decide), dkRow_k h1 c1 342 (by decide)]
  exact hR r hr
/-- what a row is, in whole numbers -/
def dkRq (I : dkI) (a : Int32) : Prop := ((I 11 (Int32.toNatClampNeg a)).toInt = -1 ∧ (I 341 (Int32.toNatClampNeg a)).toInt = -1000000) ∨ ((I 341 (Int32.toNatClampNeg a)).toInt ≠ -1000000 ∧ I 11 (Int32.toNatClampNeg a) = I 342 (Int32.toNatClampNeg a) ∧ I 10 (Int32.toNatClampNeg a) = I 341 (Int32.toNatClampNeg a) ∧ (I 11 (Int32.toNatClampNeg a)).toInt = (I 342 (Int32.toNatClampNeg a)).toInt ∧ (I 10 (Int32.toNatClampNeg a)).toInt = (I 341 (Int32.toNatClampNeg a)).toInt ∧ 0 ≤ (I 342 (Int32.toNatClampNeg a)).toInt ∧ (I 342 (Int32.toNatClampNeg a)).toInt ≤ 40)
theorem dkRow_q {I : dkI} (hR : dkRow I) (hO : dkOk I) {a : Int32} (h0 : 0 ≤ a.toInt) (h1 : a.toInt ≤ 7) : dkRq I a := by
  have e1 := dk_cln h0
  obtain ⟨p, hp, b1, b2⟩ := (show dkN [(0, 40)] (I 342 (Int32.toNatClampNeg a)) from hO 342 _)
  rw [List.mem_singleton] at hp
  subst hp
  rcases hR (Int32.toNatClampNeg a) (by omega) with ⟨h, h2⟩ | ⟨h, h2, h3⟩
  · exact Or.inl ⟨by rw [h]; rfl, by rw [h2]; rfl⟩
  · exact Or.inr ⟨fun q => h (Int32.toInt_inj.mp (q.trans rfl)), h2, h3, by rw [h2], by rw [h3], b1, b2⟩
theorem dkRow_0 : dkRow dkI0 := fun r hr => Or.inl ⟨rfl, rfl⟩

theorem dkRow_row {I J K : dkI} {n : Nat} {l v : Int32} (hR : dkRow I) (g10 : K 10 = J 10) (g11 : K 11 = J 11) (h10 : J 10 = dkV (I 10) n l) (h11 : J 11 = dkV (I 11) n v) (h341 : K 341 = dkV (I 341) n l) (h342 : K 342 = dkV (I 342) n v) (hl : l.toInt ≠ -1000000) : dkRow K := by
  intro r hr
  rw [g10, g11, h10, h11, h341, h342]
  by_cases q : r = n
  · subst q
    rw [dkV_s, dkV_s, dkV_s, dkV_s]
    exact Or.inr ⟨fun q => hl (by rw [q]; rfl), rfl, rfl⟩
  · rw [dkV_n q, dkV_n q, dkV_n q, dkV_n q]
    exact hR r hr
theorem dkRow_drop {I J K : dkI} {n : Nat} (hR : dkRow I) (g10 : K 10 = J 10) (g11 : K 11 = J 11) (e10 : J 10 = I 10) (h11 : J 11 = dkV (I 11) n (-1)) (h341 : K 341 = dkV (I 341) n (-1000000)) (h342 : K 342 = I 342) : dkRow K := by
  intro r hr
  rw [g10, g11, e10, h11, h341, h342]
  by_cases q : r = n
  · subst q
    rw [dkV_s, dkV_s]
    exact Or.inl ⟨rfl, rfl⟩
  · rw [dkV_n q, dkV_n q]
    exact hR r hr

set_option maxHeartbeats 4000000 in
set_option maxRecDepth 100000 in
theorem dkr_row {I J K : dkI} {a1 a2 a3 r1 r2 : Int32} (hR : dkRow I) (f1 : dkF [(2, 9, 0, 2147483647), (0, 0, 3, 3), (10, 10, 0, 7), (11, 11, 0, 7)] I J) (f2 : dkF [(340, 340, 4, 4), (341, 341, 0, 7), (342, 342, 0, 7), (343, 343, 0, 319)] J K) (hc1 : ((dkN [(-1000001, -1000001)] r1 ∧ dkN [(-2147483648, -1)] a1 ∧ a1.toInt + 1 ≤ (0 : Int) ∧ r1 = (-1000001) ∧ J 10  = I 10 ∧ J 11  = I 11 ∧ True) ∨ (dkN [(-1000001, -1000001)] r1 ∧ dkN [(8, 2147483647)] a1 ∧ (0 : Int) + 0 ≤ a1.toInt ∧ (7 : Int) + 1 ≤ a1.toInt ∧ r1 = (-1000001) ∧ J 10  = I 10 ∧ J 11  = I 11 ∧ True) ∨ (dkN [(-1000001, -1000001)] r1 ∧ dkN [(0, 7)] a1 ∧ dkN [(-2147483648, -1)] a2 ∧ (0 : Int) + 0 ≤ a1.toInt ∧ a1.toInt + 0 ≤ (7 : Int) ∧ a2.toInt + 1 ≤ (0 : Int) ∧ r1 = (-1000001) ∧ J 10  = I 10 ∧ J 11  = I 11 ∧ True) ∨ (dkN [(-1000001, -1000001)] r1 ∧ dkN [(0, 7)] a1 ∧ dkN [(3, 2147483647)] a2 ∧ (0 : Int) + 0 ≤ a1.toInt ∧ a1.toInt + 0 ≤ (7 : Int) ∧ (0 : Int) + 0 ≤ a2.toInt ∧ (2 : Int) + 1 ≤ a2.toInt ∧ r1 = (-1000001) ∧ J 10  = I 10 ∧ J 11  = I 11 ∧ True) ∨ (dkN [(-1000014, -1000014)] r1 ∧ dkN [(0, 7)] a1 ∧ dkN [(0, 2)] a2 ∧ dkN [(-2147483648, -1)] a3 ∧ dkN [(4, 4)] (J 0 3) ∧ (0 : Int) + 0 ≤ a1.toInt ∧ a1.toInt + 0 ≤ (7 : Int) ∧ (0 : Int) + 0 ≤ a2.toInt ∧ a2.toInt + 0 ≤ (2 : Int) ∧ a3.toInt + 0 ≤ (40 : Int) ∧ a3.toInt + 1 ≤ (0 : Int) ∧ ((-1000010 : Int32) - (4 : Int32)).toInt = (-1000010 : Int) - (4 : Int) ∧ r1 = (-1000010 : Int32) - (4 : Int32) ∧ J 10  = I 10 ∧ J 11  = I 11 ∧ True) ∨ (dkN [(-1000001, -1000001)] r1 ∧ dkN [(0, 7)] a1 ∧ dkN [(0, 2)] a2 ∧ dkN [(41, 2147483647)] a3 ∧ (0 : Int) + 0 ≤ a1.toInt ∧ a1.toInt + 0 ≤ (7 : Int) ∧ (0 : Int) + 0 ≤ a2.toInt ∧ a2.toInt + 0 ≤ (2 : Int) ∧ (40 : Int) + 1 ≤ a3.toInt ∧ r1 = (-1000001) ∧ J 10  = I 10 ∧ J 11  = I 11 ∧ True) ∨ (True ∧ dkN [(0, 7)] a1 ∧ dkN [(0, 2)] a2 ∧ dkN [(0, 40)] a3 ∧ dkN [(0, 0)] (J 0 3) ∧ (0 : Int) + 0 ≤ a1.toInt ∧ a1.toInt + 0 ≤ (7 : Int) ∧ (0 : Int) + 0 ≤ a2.toInt ∧ a2.toInt + 0 ≤ (2 : Int) ∧ a3.toInt + 0 ≤ (40 : Int) ∧ (0 : Int) + 0 ≤ a3.toInt ∧ r1 = a3 ∧ J 10  = dkV (I 10) (Int32.toNatClampNeg a1) a2 ∧ J 11  = dkV (I 11) (Int32.toNatClampNeg a1) a3 ∧ True))) (hc2 : ((dkN [(-1000001, -1000001)] r2 ∧ dkN [(-2147483648, -1)] a1 ∧ a1.toInt + 1 ≤ (0 : Int) ∧ r2 = (-1000001) ∧ K 341  = J 341 ∧ K 342  = J 342 ∧ True) ∨ (dkN [(-1000001, -1000001)] r2 ∧ dkN [(8, 2147483647)] a1 ∧ (0 : Int) + 0 ≤ a1.toInt ∧ (7 : Int) + 1 ≤ a1.toInt ∧ r2 = (-1000001) ∧ K 341  = J 341 ∧ K 342  = J 342 ∧ True) ∨ (dkN [(-1000001, -1000001)] r2 ∧ dkN [(0, 7)] a1 ∧ dkN [(-2147483648, -1)] a2 ∧ (0 : Int) + 0 ≤ a1.toInt ∧ a1.toInt + 0 ≤ (7 : Int) ∧ a2.toInt + 1 ≤ (0 : Int) ∧ r2 = (-1000001) ∧ K 341  = J 341 ∧ K 342  = J 342 ∧ True) ∨ (dkN [(-1000001, -1000001)] r2 ∧ dkN [(0, 7)] a1 ∧ dkN [(3, 2147483647)] a2 ∧ (0 : Int) + 0 ≤ a1.toInt ∧ a1.toInt + 0 ≤ (7 : Int) ∧ (0 : Int) + 0 ≤ a2.toInt ∧ (2 : Int) + 1 ≤ a2.toInt ∧ r2 = (-1000001) ∧ K 341  = J 341 ∧ K 342  = J 342 ∧ True) ∨ (dkN [(-1000014, -1000014)] r2 ∧ dkN [(0, 7)] a1 ∧ dkN [(0, 2)] a2 ∧ dkN [(-2147483648, -1)] a3 ∧ dkN [(4, 4)] (K 340 4) ∧ (0 : Int) + 0 ≤ a1.toInt ∧ a1.toInt + 0 ≤ (7 : Int) ∧ (0 : Int) + 0 ≤ a2.toInt ∧ a2.toInt + 0 ≤ (2 : Int) ∧ a3.toInt + 0 ≤ (40 : Int) ∧ a3.toInt + 1 ≤ (0 : Int) ∧ ((-1000010 : Int32) - (4 : Int32)).toInt = (-1000010 : Int) - (4 : Int) ∧ r2 = (-1000010 : Int32) - (4 : Int32) ∧ K 341  = J 341 ∧ K 342  = J 342 ∧ True) ∨ (dkN [(-1000001, -1000001)] r2 ∧ dkN [(0, 7)] a1 ∧ dkN [(0, 2)] a2 ∧ dkN [(41, 2147483647)] a3 ∧ (0 : Int) + 0 ≤ a1.toInt ∧ a1.toInt + 0 ≤ (7 : Int) ∧ (0 : Int) + 0 ≤ a2.toInt ∧ a2.toInt + 0 ≤ (2 : Int) ∧ (40 : Int) + 1 ≤ a3.toInt ∧ r2 = (-1000001) ∧ K 341  = J 341 ∧ K 342  = J 342 ∧ True) ∨ (True ∧ dkN [(0, 7)] a1 ∧ dkN [(0, 2)] a2 ∧ dkN [(0, 40)] a3 ∧ dkN [(0, 0)] (K 340 4) ∧ (0 : Int) + 0 ≤ a1.toInt ∧ a1.toInt + 0 ≤ (7 : Int) ∧ (0 : Int) + 0 ≤ a2.toInt ∧ a2.toInt + 0 ≤ (2 : Int) ∧ a3.toInt + 0 ≤ (40 : Int) ∧ (0 : Int) + 0 ≤ a3.toInt ∧ r2 = a3 ∧ K 341  = dkV (J 341) (Int32.toNatClampNeg a1) a2 ∧ K 342  = dkV (J 342) (Int32.toNatClampNeg a1) a3 ∧ True))) : dkRow K := by
  have e341 : J 341 = I 341 := funext fun j => f1 341 j rfl
  have e342 : J 342 = I 342 := funext fun j => f1 342 j rfl
  have g10 : K 10 = J 10 := funext fun j => f2 10 j rfl
  have g11 : K 11 = J 11 := funext fun j => f2 11 j rfl
  simp only [e341, e342] at hc2
  all_goals (rcases hc1 with ⟨-, -, u0a, ERa, H10a, H11a, -⟩ | ⟨-, -, u0a, u1a, ERa, H10a, H11a, -⟩ | ⟨-, -, -, u0a, u1a, u2a, ERa, H10a, H11a, -⟩ | ⟨-, -, -, u0a, u1a, u2a, u3a, ERa, H10a, H11a, -⟩ | ⟨-, -, -, -, -, u0a, u1a, u2a, u3a, u4a, u5a, u6a, ERa, H10a, H11a, -⟩ | ⟨-, -, -, -, u0a, u1a, u2a, u3a, u4a, ERa, H10a, H11a, -⟩ | ⟨-, -, -, -, -, u0a, u1a, u2a, u3a, u4a, u5a, ERa, H10a, H11a, -⟩ <;> rcases hc2 with ⟨-, -, u0b, ERb, H341b, H342b, -⟩ | ⟨-, -, u0b, u1b, ERb, H341b, H342b, -⟩ | ⟨-, -, -, u0b, u1b, u2b, ERb, H341b, H342b, -⟩ | ⟨-, -, -, u0b, u1b, u2b, u3b, ERb, H341b, H342b, -⟩ | ⟨-, -, -, -, -, u0b, u1b, u2b, u3b, u4b, u5b, u6b, ERb, H341b, H342b, -⟩ | ⟨-, -, -, -, u0b, u1b, u2b, u3b, u4b, ERb, H341b, H342b, -⟩ | ⟨-, -, -, -, -, u0b, u1b, u2b, u3b, u4b, u5b, ERb, H341b, H342b, -⟩ <;> first | (exfalso; omega) | exact (fun r hr => by rw [g10, g11, H10a, H11a, H341b, H342b]; exact hR r hr) | (exact dkRow_row hR g10 g11 H10a H11a H341b H342b (by omega)))

set_option maxHeartbeats 4000000 in
set_option maxRecDepth 100000 in
theorem dkr_drop {I J K : dkI} {a1 r1 r2 : Int32} (hR : dkRow I) (hO : dkOk I) (f1 : dkF [(0, 0, 3, 3), (11, 11, 0, 7)] I J) (f2 : dkF [(340, 340, 4, 4), (341, 341, 0, 7)] J K) (hc1 : ((dkN [(-1000001, -1000001)] r1 ∧ dkN [(-2147483648, -1)] a1 ∧ a1.toInt + 1 ≤ (0 : Int) ∧ r1 = (-1000001) ∧ J 11  = I 11 ∧ True) ∨ (dkN [(-1000001, -1000001)] r1 ∧ dkN [(8, 2147483647)] a1 ∧ (0 : Int) + 0 ≤ a1.toInt ∧ (7 : Int) + 1 ≤ a1.toInt ∧ r1 = (-1000001) ∧ J 11  = I 11 ∧ True) ∨ (True ∧ dkN [(0, 7)] a1 ∧ dkN [(0, 0)] (J 0 3) ∧ (0 : Int) + 0 ≤ a1.toInt ∧ a1.toInt + 0 ≤ (7 : Int) ∧ (I 11 (Int32.toNatClampNeg a1)).toInt ≠ (-1 : Int) ∧ r1 = (I 11 (Int32.toNatClampNeg a1)) ∧ J 11  = dkV (I 11) (Int32.toNatClampNeg a1) (-1) ∧ True) ∨ (dkN [(-1000011, -1000011)] r1 ∧ dkN [(0, 7)] a1 ∧ dkN [(1, 1)] (J 0 3) ∧ (0 : Int) + 0 ≤ a1.toInt ∧ a1.toInt + 0 ≤ (7 : Int) ∧ (I 11 (Int32.toNatClampNeg a1)).toInt = (-1 : Int) ∧ ((-1000010 : Int32) - (1 : Int32)).toInt = (-1000010 : Int) - (1 : Int) ∧ r1 = (-1000010 : Int32) - (1 : Int32) ∧ J 11  = I 11 ∧ True))) (hc2 : ((dkN [(-1000001, -1000001)] r2 ∧ dkN [(-2147483648, -1)] a1 ∧ a1.toInt + 1 ≤ (0 : Int) ∧ r2 = (-1000001) ∧ K 341  = J 341 ∧ K 342  = J 342 ∧ True) ∨ (dkN [(-1000001, -1000001)] r2 ∧ dkN [(8, 2147483647)] a1 ∧ (0 : Int) + 0 ≤ a1.toInt ∧ (7 : Int) + 1 ≤ a1.toInt ∧ r2 = (-1000001) ∧ K 341  = J 341 ∧ K 342  = J 342 ∧ True) ∨ (True ∧ dkN [(0, 7)] a1 ∧ dkN [(0, 0)] (K 340 4) ∧ (0 : Int) + 0 ≤ a1.toInt ∧ a1.toInt + 0 ≤ (7 : Int) ∧ (J 341 (Int32.toNatClampNeg a1)).toInt ≠ (-1000000 : Int) ∧ r2 = (J 342 (Int32.toNatClampNeg a1)) ∧ K 341  = dkV (J 341) (Int32.toNatClampNeg a1) (-1000000) ∧ K 342  = J 342 ∧ True) ∨ (dkN [(-1000011, -1000011)] r2 ∧ dkN [(0, 7)] a1 ∧ dkN [(1, 1)] (K 340 4) ∧ (0 : Int) + 0 ≤ a1.toInt ∧ a1.toInt + 0 ≤ (7 : Int) ∧ (J 341 (Int32.toNatClampNeg a1)).toInt = (-1000000 : Int) ∧ ((-1000010 : Int32) - (1 : Int32)).toInt = (-1000010 : Int) - (1 : Int) ∧ r2 = (-1000010 : Int32) - (1 : Int32) ∧ K 341  = J 341 ∧ K 342  = J 342 ∧ True))) : r1 = r2 ∧ dkRow K := by
  have e341 : J 341 = I 341 := funext fun j => f1 341 j rfl
  have e342 : J 342 = I 342 := funext fun j => f1 342 j rfl
  have g10 : K 10 = J 10 := funext fun j => f2 10 j rfl
  have g11 : K 11 = J 11 := funext fun j => f2 11 j rfl
  simp only [e341, e342] at hc2
  have e10 : J 10 = I 10 := funext fun j => f1 10 j rfl
  have hq : (0 ≤ a1.toInt ∧ a1.toInt ≤ 7 ∧ dkRq I a1) ∨ (a1.toInt < 0 ∨ 7 < a1.toInt) := by
    by_cases h : 0 ≤ a1.toInt ∧ a1.toInt ≤ 7
    · exact Or.inl ⟨h.1, h.2, dkRow_q hR hO h.1 h.2⟩
    · exact Or.inr (by omega)
  rcases hq with ⟨i0, i1, ⟨v1, v2⟩ | ⟨v1, v2, v3, v4, v5, v6, v7⟩⟩ | hq
  all_goals (rcases hc1 with ⟨-, -, u0a, ERa, H11a, -⟩ | ⟨-, -, u0a, u1a, ERa, H11a, -⟩ | ⟨-, -, -, u0a, u1a, u2a, ERa, H11a, -⟩ | ⟨-, -, -, u0a, u1a, u2a, u3a, ERa, H11a, -⟩ <;> rcases hc2 with ⟨-, -, u0b, ERb, H341b, H342b, -⟩ | ⟨-, -, u0b, u1b, ERb, H341b, H342b, -⟩ | ⟨-, -, -, u0b, u1b, u2b, ERb, H341b, H342b, -⟩ | ⟨-, -, -, u0b, u1b, u2b, u3b, ERb, H341b, H342b, -⟩ <;> first | (exfalso; omega) | exact ⟨(by simp only [ERa, ERb]), (fun r hr => by rw [g10, g11, e10, H11a, H341b, H342b]; exact hR r hr)⟩ | exact ⟨(by rw [ERa, ERb, v2]), dkRow_drop hR g10 g11 e10 H11a H341b H342b⟩)

theorem dk_cut8 (x : Int32) : x.toInt8.toInt32 = (x <<< ((24 : Int32) &&& 31)) >>> ((24 : Int32) &&& 31) := by
  rw [show ((24 : Int32) &&& 31) = 24 from rfl]
  apply Int32.toInt_inj.mp
  have h1 : (x.toInt8.toInt32).toInt = x.toInt.bmod (2 ^ 8) := by rw [Int8.toInt_toInt32, Int32.toInt_toInt8]
  have h2 : ((x <<< (24 : Int32)) >>> (24 : Int32)).toInt = ((x.toBitVec <<< 24).sshiftRight 24).toInt := by
    rw [← Int32.toInt_toBitVec, Int32.toBitVec_shiftRight, Int32.toBitVec_shiftLeft]
    rfl
  rw [h1, h2, BitVec.toInt_sshiftRight, BitVec.toInt_shiftLeft, ← Int32.toInt_toBitVec, BitVec.toInt_eq_toNat_cond (x := x.toBitVec)]
  have h3 : x.toBitVec.toNat < 4294967296 := x.toBitVec.isLt
  generalize x.toBitVec.toNat = N at h3 ⊢
  rw [Nat.shiftLeft_eq, Int.shiftRight_eq_div_pow]
  simp only [Int.bmod]
  split <;> split <;> split <;> omega
theorem dk_cut16 (x : Int32) : x.toInt16.toInt32 = (x <<< ((16 : Int32) &&& 31)) >>> ((16 : Int32) &&& 31) := by
  rw [show ((16 : Int32) &&& 31) = 16 from rfl]
  apply Int32.toInt_inj.mp
  have h1 : (x.toInt16.toInt32).toInt = x.toInt.bmod (2 ^ 16) := by rw [Int16.toInt_toInt32, Int32.toInt_toInt16]
  have h2 : ((x <<< (16 : Int32)) >>> (16 : Int32)).toInt = ((x.toBitVec <<< 16).sshiftRight 16).toInt := by
    rw [← Int32.toInt_toBitVec, Int32.toBitVec_shiftRight, Int32.toBitVec_shiftLeft]
    rfl
  rw [h1, h2, BitVec.toInt_sshiftRight, BitVec.toInt_shiftLeft, ← Int32.toInt_toBitVec, BitVec.toInt_eq_toNat_cond (x := x.toBitVec)]
  have h3 : x.toBitVec.toNat < 4294967296 := x.toBitVec.isLt
  generalize x.toBitVec.toNat = N at h3 ⊢
  rw [Nat.shiftLeft_eq, Int.shiftRight_eq_div_pow]
  simp only [Int.bmod]
  split <;> split <;> split <;> omega

set_option maxHeartbeats 4000000 in
set_option maxRecDepth 100000 in
theorem dkr_set {I J K : dkI} {a1 a2 a3 r1 r2 : Int32} (hR : dkRow I) (hO : dkOk I) (f1 : dkF [(2, 9, 0, 2147483647), (0, 0, 3, 3)] I J) (f2 : dkF [(340, 340, 4, 4), (343, 343, 0, 319)] J K) (hc1 : ((dkN [(-1000001, -1000001)] r1 ∧ dkN [(-2147483648, -1)] a1 ∧ a1.toInt + 1 ≤ (0 : Int) ∧ r1 = (-1000001) ∧ True) ∨ (dkN [(-1000001, -1000001)] r1 ∧ dkN [(8, 2147483647)] a1 ∧ (0 : Int) + 0 ≤ a1.toInt ∧ (7 : Int) + 1 ≤ a1.toInt ∧ r1 = (-1000001) ∧ True) ∨ (dkN [(-1000012, -1000012)] r1 ∧ dkN [(0, 7)] a1 ∧ dkN [(-2147483648, -1)] a2 ∧ dkN [(2, 2)] (J 0 3) ∧ (0 : Int) + 0 ≤ a1.toInt ∧ a1.toInt + 0 ≤ (7 : Int) ∧ (I 11 (Int32.toNatClampNeg a1)).toInt ≠ (-1 : Int) ∧ a2.toInt + 1 ≤ (0 : Int) ∧ ((-1000010 : Int32) - (2 : Int32)).toInt = (-1000010 : Int) - (2 : Int) ∧ r1 = (-1000010 : Int32) - (2 : Int32) ∧ True) ∨ (True ∧ dkN [(0, 7)] a1 ∧ dkN [(0, 39)] a2 ∧ dkN [(0, 0)] (J 0 3) ∧ (0 : Int) + 0 ≤ a1.toInt ∧ a1.toInt + 0 ≤ (7 : Int) ∧ (I 11 (Int32.toNatClampNeg a1)).toInt ≠ (-1 : Int) ∧ (0 : Int) + 0 ≤ a2.toInt ∧ a2.toInt + 1 ≤ (I 11 (Int32.toNatClampNeg a1)).toInt ∧ (I 10 (Int32.toNatClampNeg a1)).toInt = (0 : Int) ∧ r1 = a3.toInt8.toInt32 ∧ True) ∨ (True ∧ dkN [(0, 7)] a1 ∧ dkN [(0, 39)] a2 ∧ dkN [(0, 0)] (J 0 3) ∧ (0 : Int) + 0 ≤ a1.toInt ∧ a1.toInt + 0 ≤ (7 : Int) ∧ (I 11 (Int32.toNatClampNeg a1)).toInt ≠ (-1 : Int) ∧ (0 : Int) + 0 ≤ a2.toInt ∧ a2.toInt + 1 ≤ (I 11 (Int32.toNatClampNeg a1)).toInt ∧ (I 10 (Int32.toNatClampNeg a1)).toInt ≠ (0 : Int) ∧ (I 10 (Int32.toNatClampNeg a1)).toInt = (1 : Int) ∧ r1 = a3.toInt16.toInt32 ∧ True) ∨ (True ∧ dkN [(0, 7)] a1 ∧ dkN [(0, 39)] a2 ∧ dkN [(0, 0)] (J 0 3) ∧ (0 : Int) + 0 ≤ a1.toInt ∧ a1.toInt + 0 ≤ (7 : Int) ∧ (I 11 (Int32.toNatClampNeg a1)).toInt ≠ (-1 : Int) ∧ (0 : Int) + 0 ≤ a2.toInt ∧ a2.toInt + 1 ≤ (I 11 (Int32.toNatClampNeg a1)).toInt ∧ (I 10 (Int32.toNatClampNeg a1)).toInt ≠ (0 : Int) ∧ (I 10 (Int32.toNatClampNeg a1)).toInt ≠ (1 : Int) ∧ r1 = a3 ∧ True) ∨ (dkN [(-1000012, -1000012)] r1 ∧ dkN [(0, 7)] a1 ∧ dkN [(0, 2147483647)] a2 ∧ dkN [(2, 2)] (J 0 3) ∧ (0 : Int) + 0 ≤ a1.toInt ∧ a1.toInt + 0 ≤ (7 : Int) ∧ (I 11 (Int32.toNatClampNeg a1)).toInt ≠ (-1 : Int) ∧ (0 : Int) + 0 ≤ a2.toInt ∧ (I 11 (Int32.toNatClampNeg a1)).toInt + 0 ≤ a2.toInt ∧ ((-1000010 : Int32) - (2 : Int32)).toInt = (-1000010 : Int) - (2 : Int) ∧ r1 = (-1000010 : Int32) - (2 : Int32) ∧ True) ∨ (dkN [(-1000011, -1000011)] r1 ∧ dkN [(0, 7)] a1 ∧ dkN [(1, 1)] (J 0 3) ∧ (0 : Int) + 0 ≤ a1.toInt ∧ a1.toInt + 0 ≤ (7 : Int) ∧ (I 11 (Int32.toNatClampNeg a1)).toInt = (-1 : Int) ∧ ((-1000010 : Int32) - (1 : Int32)).toInt = (-1000010 : Int) - (1 : Int) ∧ r1 = (-1000010 : Int32) - (1 : Int32) ∧ True))) (hc2 : ((dkN [(-1000001, -1000001)] r2 ∧ dkN [(-2147483648, -1)] a1 ∧ a1.toInt + 1 ≤ (0 : Int) ∧ r2 = (-1000001) ∧ True) ∨ (dkN [(-1000001, -1000001)] r2 ∧ dkN [(8, 2147483647)] a1 ∧ (0 : Int) + 0 ≤ a1.toInt ∧ (7 : Int) + 1 ≤ a1.toInt ∧ r2 = (-1000001) ∧ True) ∨ (dkN [(-1000012, -1000012)] r2 ∧ dkN [(0, 7)] a1 ∧ dkN [(-2147483648, -1)] a2 ∧ dkN [(2, 2)] (K 340 4) ∧ (0 : Int) + 0 ≤ a1.toInt ∧ a1.toInt + 0 ≤ (7 : Int) ∧ (J 341 (Int32.toNatClampNeg a1)).toInt ≠ (-1000000 : Int) ∧ ((J 342 (Int32.toNatClampNeg a1)) - (1 : Int32)).toInt = (J 342 (Int32.toNatClampNeg a1)).toInt - (1 : Int) ∧ a2.toInt + 1 ≤ (0 : Int) ∧ ((-1000010 : Int32) - (2 : Int32)).toInt = (-1000010 : Int) - (2 : Int) ∧ r2 = (-1000010 : Int32) - (2 : Int32) ∧ True) ∨ (dkN [(-1000012, -1000012)] r2 ∧ dkN [(0, 7)] a1 ∧ dkN [(0, 2147483647)] a2 ∧ dkN [(2, 2)] (K 340 4) ∧ (0 : Int) + 0 ≤ a1.toInt ∧ a1.toInt + 0 ≤ (7 : Int) ∧ (J 341 (Int32.toNatClampNeg a1)).toInt ≠ (-1000000 : Int) ∧ ((J 342 (Int32.toNatClampNeg a1)) - (1 : Int32)).toInt = (J 342 (Int32.toNatClampNeg a1)).toInt - (1 : Int) ∧ (0 : Int) + 0 ≤ a2.toInt ∧ ((J 342 (Int32.toNatClampNeg a1)) - (1 : Int32)).toInt + 1 ≤ a2.toInt ∧ ((-1000010 : Int32) - (2 : Int32)).toInt = (-1000010 : Int) - (2 : Int) ∧ r2 = (-1000010 : Int32) - (2 : Int32) ∧ True) ∨ (True ∧ dkN [(0, 7)] a1 ∧ dkN [(0, 39)] a2 ∧ dkN [(0, 0)] (K 340 4) ∧ (0 : Int) + 0 ≤ a1.toInt ∧ a1.toInt + 0 ≤ (7 : Int) ∧ (J 341 (Int32.toNatClampNeg a1)).toInt ≠ (-1000000 : Int) ∧ ((J 342 (Int32.toNatClampNeg a1)) - (1 : Int32)).toInt = (J 342 (Int32.toNatClampNeg a1)).toInt - (1 : Int) ∧ (0 : Int) + 0 ≤ a2.toInt ∧ a2.toInt + 0 ≤ ((J 342 (Int32.toNatClampNeg a1)) - (1 : Int32)).toInt ∧ (((40 : Int32) * a1) + a2).toInt = ((40 : Int32) * a1).toInt + a2.toInt ∧ (J 341 (Int32.toNatClampNeg a1)).toInt ≠ (0 : Int) ∧ (J 341 (Int32.toNatClampNeg a1)).toInt ≠ (1 : Int) ∧ r2 = a3 ∧ True) ∨ (True ∧ dkN [(0, 7)] a1 ∧ dkN [(0, 39)] a2 ∧ dkN [(0, 0)] (K 340 4) ∧ (0 : Int) + 0 ≤ a1.toInt ∧ a1.toInt + 0 ≤ (7 : Int) ∧ (J 341 (Int32.toNatClampNeg a1)).toInt ≠ (-1000000 : Int) ∧ ((J 342 (Int32.toNatClampNeg a1)) - (1 : Int32)).toInt = (J 342 (Int32.toNatClampNeg a1)).toInt - (1 : Int) ∧ (0 : Int) + 0 ≤ a2.toInt ∧ a2.toInt + 0 ≤ ((J 342 (Int32.toNatClampNeg a1)) - (1 : Int32)).toInt ∧ (((40 : Int32) * a1) + a2).toInt = ((40 : Int32) * a1).toInt + a2.toInt ∧ (J 341 (Int32.toNatClampNeg a1)).toInt ≠ (0 : Int) ∧ (J 341 (Int32.toNatClampNeg a1)).toInt = (1 : Int) ∧ r2 = ((a3 <<< ((16 : Int32) &&& 31)) >>> ((16 : Int32) &&& 31)) ∧ True) ∨ (True ∧ dkN [(0, 7)] a1 ∧ dkN [(0, 39)] a2 ∧ dkN [(0, 0)] (K 340 4) ∧ (0 : Int) + 0 ≤ a1.toInt ∧ a1.toInt + 0 ≤ (7 : Int) ∧ (J 341 (Int32.toNatClampNeg a1)).toInt ≠ (-1000000 : Int) ∧ ((J 342 (Int32.toNatClampNeg a1)) - (1 : Int32)).toInt = (J 342 (Int32.toNatClampNeg a1)).toInt - (1 : Int) ∧ (0 : Int) + 0 ≤ a2.toInt ∧ a2.toInt + 0 ≤ ((J 342 (Int32.toNatClampNeg a1)) - (1 : Int32)).toInt ∧ (((40 : Int32) * a1) + a2).toInt = ((40 : Int32) * a1).toInt + a2.toInt ∧ (J 341 (Int32.toNatClampNeg a1)).toInt = (0 : Int) ∧ r2 = ((a3 <<< ((24 : Int32) &&& 31)) >>> ((24 : Int32) &&& 31)) ∧ True) ∨ (dkN [(-1000011, -1000011)] r2 ∧ dkN [(0, 7)] a1 ∧ dkN [(1, 1)] (K 340 4) ∧ (0 : Int) + 0 ≤ a1.toInt ∧ a1.toInt + 0 ≤ (7 : Int) ∧ (J 341 (Int32.toNatClampNeg a1)).toInt = (-1000000 : Int) ∧ ((-1000010 : Int32) - (1 : Int32)).toInt = (-1000010 : Int) - (1 : Int) ∧ r2 = (-1000010 : Int32) - (1 : Int32) ∧ True))) : r1 = r2 := by
  have e341 : J 341 = I 341 := funext fun j => f1 341 j rfl
  have e342 : J 342 = I 342 := funext fun j => f1 342 j rfl
  have g10 : K 10 = J 10 := funext fun j => f2 10 j rfl
  have g11 : K 11 = J 11 := funext fun j => f2 11 j rfl
  simp only [e341, e342] at hc2
  have hq : (0 ≤ a1.toInt ∧ a1.toInt ≤ 7 ∧ dkRq I a1) ∨ (a1.toInt < 0 ∨ 7 < a1.toInt) := by
    by_cases h : 0 ≤ a1.toInt ∧ a1.toInt ≤ 7
    · exact Or.inl ⟨h.1, h.2, dkRow_q hR hO h.1 h.2⟩
    · exact Or.inr (by omega)
  rcases hq with ⟨i0, i1, ⟨v1, v2⟩ | ⟨v1, v2, v3, v4, v5, v6, v7⟩⟩ | hq
  all_goals (rcases hc1 with ⟨-, -, u0a, ERa, -⟩ | ⟨-, -, u0a, u1a, ERa, -⟩ | ⟨-, -, -, -, u0a, u1a, u2a, u3a, u4a, ERa, -⟩ | ⟨-, -, -, -, u0a, u1a, u2a, u3a, u4a, u5a, ERa, -⟩ | ⟨-, -, -, -, u0a, u1a, u2a, u3a, u4a, u5a, u6a, ERa, -⟩ | ⟨-, -, -, -, u0a, u1a, u2a, u3a, u4a, u5a, u6a, ERa, -⟩ | ⟨-, -, -, -, u0a, u1a, u2a, u3a, u4a, u5a, ERa, -⟩ | ⟨-, -, -, u0a, u1a, u2a, u3a, ERa, -⟩ <;> rcases hc2 with ⟨-, -, u0b, ERb, -⟩ | ⟨-, -, u0b, u1b, ERb, -⟩ | ⟨-, -, -, -, u0b, u1b, u2b, u3b, u4b, u5b, ERb, -⟩ | ⟨-, -, -, -, u0b, u1b, u2b, u3b, u4b, u5b, u6b, ERb, -⟩ | ⟨-, -, -, -, u0b, u1b, u2b, u3b, u4b, u5b, u6b, u7b, u8b, ERb, -⟩ | ⟨-, -, -, -, u0b, u1b, u2b, u3b, u4b, u5b, u6b, u7b, u8b, ERb, -⟩ | ⟨-, -, -, -, u0b, u1b, u2b, u3b, u4b, u5b, u6b, u7b, ERb, -⟩ | ⟨-, -, -, u0b, u1b, u2b, u3b, ERb, -⟩ <;> first | (exfalso; omega) | (rw [ERa, ERb]; done) | (rw [ERa, ERb, dk_cut8]; done) | (rw [ERa, ERb, dk_cut16]; done))
