theorem dkc_lt {x y : Int32} (h : x < y) : x.toInt + 1 ≤ y.toInt := by
  have := dk_lt h
  omega
theorem dkc_le {x y : Int32} (h : x ≤ y) : x.toInt + 0 ≤ y.toInt := by
  have := dk_le h
  omega
theorem dkc_nlt {x y : Int32} (h : ¬ x < y) : y.toInt + 0 ≤ x.toInt := by
  have := dk_nlt h
  omega
theorem dkc_nle {x y : Int32} (h : ¬ x ≤ y) : y.toInt + 1 ≤ x.toInt := by
  have := dk_nle h
  omega
theorem dkN_lt {S : dkS} {x : Int32} {B : Int} (hx : dkN S x) (h : dkAll1 S (fun p => decide (p.2 < B)) = true) : x.toInt < B := by
  obtain ⟨p, hp, h1, h2⟩ := hx
  have h9 := of_decide_eq_true (dkAll1_of h hp)
  omega
theorem dkN_out {S : dkS} {x : Int32} {lo hi : Int} (hx : dkN S x) (h : dkAll1 S (fun p => decide (p.2 < lo) || decide (hi < p.1)) = true) : x.toInt < lo ∨ hi < x.toInt := by
  obtain ⟨p, hp, h1, h2⟩ := hx
  have h9 := dkAll1_of h hp
  rw [Bool.or_eq_true] at h9
  rcases h9 with h9 | h9
  · have := of_decide_eq_true h9
    exact Or.inl (by omega)
  · have := of_decide_eq_true h9
    exact Or.inr (by omega)
theorem dkN_01 {S : dkS} {x : Int32} (hx : dkN S x) (h : dkAll1 S (fun p => decide (0 ≤ p.1) && decide (p.2 ≤ 1)) = true) : x = 0 ∨ x = 1 := by
  obtain ⟨p, hp, h1, h2⟩ := hx
  have h9 := dkAll1_of h hp
  rw [Bool.and_eq_true] at h9
  have e1 := of_decide_eq_true h9.1
  have e2 := of_decide_eq_true h9.2
  rcases (by omega : x.toInt = 0 ∨ x.toInt = 1) with q | q
  · exact Or.inl (Int32.toInt_inj.mp (by rw [q]; rfl))
  · exact Or.inr (Int32.toInt_inj.mp (by rw [q]; rfl))
theorem dkN_zr {S : dkS} {x : Int32} (hx : dkN S x) (h : dkAll1 S (fun p => decide (0 ≤ p.1) && decide (p.2 ≤ 1)) = true) : narrow .boolean (.int x) = .int x := by
  rcases dkN_01 hx h with rfl | rfl <;> rfl
theorem dkN_zn {S : dkS} {x : Int32} (hx : dkN S x) (h : dkAll1 S (fun p => decide (0 ≤ p.1) && decide (p.2 ≤ 1)) = true) : vp_nar .boolean x = x := by
  rcases dkN_01 hx h with rfl | rfl <;> rfl
theorem dkN_cut (c c' : Int) (e : c' = c + 1) {a b : Int} {x : Int32} (h : dkN [(a, b)] x) : dkN [(a, c)] x ∨ dkN [(c', b)] x := by
  obtain ⟨p, hp, h1, h2⟩ := h
  rw [List.mem_singleton] at hp
  subst hp
  simp only at h1 h2
  by_cases q : x.toInt ≤ c
  · exact Or.inl ⟨(a, c), List.mem_cons_self, h1, q⟩
  · exact Or.inr ⟨(c', b), List.mem_cons_self, by show c' ≤ _; omega, h2⟩
theorem dkW_eq {g : dkG} {z : Nat} {I : dkI} {H H' : Heap} (h : H' = H) (hW : dkW g z I H) : dkW g z I H' := by
  rw [h]
  exact hW
