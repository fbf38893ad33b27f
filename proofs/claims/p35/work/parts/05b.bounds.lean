/-! BOUNDS that every state keeps -/
abbrev dkTopS : dkS := [(-2147483648, 2147483647)]
def dkBT (c j : Nat) : dkS := bif Nat.beq c 0 then (bif Nat.beq j 0 then [(0, 9)] else bif Nat.beq j 1 then [(0, 30)] else bif Nat.beq j 4 then [(0, 5)] else bif Nat.beq j 11 then [(0, 6)] else dkTopS) else dkTopS
def dkBW (j : Nat) : dkS := bif Nat.beq j 0 then [(0, 9)] else bif Nat.beq j 1 then [(0, 30)] else bif Nat.beq j 4 then [(0, 5)] else bif Nat.beq j 5 then [(0, 6)] else dkTopS
/-- which place of a Town the cell is: 11 for none -/
def dkTc (k : Nat) : Nat :=
  bif Nat.ble 14 k && Nat.ble k 35 then (k - 14) % 11 else
  bif Nat.ble 37 k && Nat.ble k 58 then (k - 37) % 11 else
  bif Nat.ble 61 k && Nat.ble k 324 then (k - 61) % 11 else
  bif Nat.ble 326 k && Nat.ble k 336 then k - 326 else 11
def dkB (k j : Nat) : dkS :=
  bif Nat.ble (dkTc k) 10 then dkBT (dkTc k) j else
  bif Nat.ble 346 k && Nat.ble k 350 then dkBW (j % 54) else
  bif Nat.beq k 10 then [(0, 2)] else bif Nat.beq k 11 then [(-1, 40)] else
  bif Nat.beq k 12 then (bif Nat.beq j 1 then [(0, 90)] else bif Nat.beq j 2 then [(0, 90)] else dkTopS) else
  bif Nat.beq k 13 then [(0, 255)] else bif Nat.beq k 345 then [(0, 255)] else
  bif Nat.beq k 59 then (bif Nat.beq j 1 then [(0, 23)] else bif Nat.beq j 2 then [(0, 24)] else dkTopS) else
  bif Nat.beq k 338 then (bif Nat.beq j 2 then [(0, 16)] else dkTopS) else
  bif Nat.beq k 340 then (bif Nat.beq j 6 then [(0, 90)] else bif Nat.beq j 9 then [(0, 90)] else bif Nat.beq j 10 then [(0, 90)] else bif Nat.beq j 17 then [(0, 24)] else bif Nat.beq j 25 then [(0, 16)] else dkTopS) else
  bif Nat.beq k 341 then [(-1000000, -1000000), (0, 2)] else bif Nat.beq k 342 then [(0, 40)] else bif Nat.beq k 351 then [(0, 1)] else dkTopS
def dkOk (I : dkI) : Prop := ∀ k j, dkN (dkB k j) (I k j)
theorem dkTc_a : ∀ c, c < 11 → dkTc (14 + c) = c ∧ dkTc (25 + c) = c ∧ dkTc (37 + c) = c ∧ dkTc (48 + c) = c ∧ dkTc (326 + c) = c := by decide +kernel
theorem dkTc_b : ∀ i, i < 24 → ∀ c, c < 11 → dkTc (61 + 11 * i + c) = c := by decide +kernel
theorem dkTc_T {t c : Nat} (ht : dkT t) (hc : c < 11) : dkTc (t + c) = c := by
  have h := dkTc_a c hc
  rcases ht with rfl | rfl | rfl | rfl | rfl | ⟨i, hi, rfl⟩
  · exact h.1
  · exact h.2.1
  · exact h.2.2.1
  · exact h.2.2.2.1
  · exact h.2.2.2.2
  · exact dkTc_b i hi c hc
theorem dkB_T {t c : Nat} (ht : dkT t) (hc : c < 11) (j : Nat) : dkB (t + c) j = dkBT c j := by
  unfold dkB
  rw [dkTc_T ht hc, show Nat.ble c 10 = true from Nat.ble_eq.mpr (by omega)]
  rfl
theorem dkB_R {r : Nat} (hr : 2 ≤ r ∧ r < 10) (j : Nat) : dkB r j = dkTopS := by
  rcases (by omega : r = 2 ∨ r = 3 ∨ r = 4 ∨ r = 5 ∨ r = 6 ∨ r = 7 ∨ r = 8 ∨ r = 9) with rfl | rfl | rfl | rfl | rfl | rfl | rfl | rfl <;> rfl
theorem dkO_set {I I1 : dkI} {k j : Nat} {v : Int32} (hO : dkOk I) (e : I1 = dkU I k j v) (h : dkN (dkB k j) v) : dkOk I1 := by
  intro k' j'
  subst e
  by_cases h1 : k' = k
  · subst h1
    by_cases h2 : j' = j
    · subst h2
      rw [dkU_ss]
      exact h
    · rw [dkU_sn h2]
      exact hO k' j'
  · rw [dkU_n h1]
    exact hO k' j'
theorem dkO_setT {I I1 : dkI} {t c j : Nat} {v : Int32} (hO : dkOk I) (ht : dkT t) (hc : c < 11) (e : I1 = dkU I (t + c) j v) (h : dkN (dkBT c j) v) : dkOk I1 :=
  dkO_set hO e (by rw [dkB_T ht hc]; exact h)
theorem dkO_setR {I I1 : dkI} {r j : Nat} {v : Int32} (hO : dkOk I) (hr : 2 ≤ r ∧ r < 10) (e : I1 = dkU I r j v) : dkOk I1 :=
  dkO_set hO e (by rw [dkB_R hr]; exact dkN_top v)
theorem dkO_at {I : dkI} (hO : dkOk I) {t c : Nat} (ht : dkT t) (hc : c < 11) (j : Nat) : dkN (dkBT c j) (I (t + c) j) := by
  rw [← dkB_T ht hc]
  exact hO (t + c) j
/-- the slices of 54 -/
theorem dk_cln {i : Int32} (h : 0 ≤ i.toInt) : (i.toNatClampNeg : Int) = i.toInt := by
  have h1 : i.toNatClampNeg = i.toInt.toNat := rfl
  omega
theorem dkB_w1 {k : Nat} (hk : 346 ≤ k ∧ k ≤ 350) (j : Nat) : dkB k j = dkBW (j % 54) := by
  rcases (by omega : k = 346 ∨ k = 347 ∨ k = 348 ∨ k = 349 ∨ k = 350) with rfl | rfl | rfl | rfl | rfl <;> rfl
theorem dkBW_top {j : Nat} (h : 6 ≤ j) : dkBW j = dkTopS := by
  unfold dkBW
  have e : ∀ a, a < 6 → Nat.beq j a = false := fun a ha => by
    rw [← Bool.not_eq_true, Nat.beq_eq]
    omega
  rw [e 0 (by decide), e 1 (by decide), e 4 (by decide), e 5 (by decide)]
  rfl
theorem dkB_w {k : Nat} {B : dkS} (hk : 346 ≤ k ∧ k ≤ 348) {i : Int32} {S : dkS} (hi : dkN S i) (h : (dkAll1 S (fun p => decide (6 ≤ p.1) && decide (p.2 ≤ 53)) && (B == dkTopS)) = true) : dkB k i.toNatClampNeg = B := by
  rw [Bool.and_eq_true] at h
  obtain ⟨p, hp, h1, h2⟩ := hi
  have h9 := dkAll1_of h.1 hp
  rw [Bool.and_eq_true] at h9
  have e1 := of_decide_eq_true h9.1
  have e2 := of_decide_eq_true h9.2
  have e3 := dk_cln (i := i) (by omega)
  rw [dkB_w1 (by omega), Nat.mod_eq_of_lt (by omega), dkBW_top (by omega), eq_of_beq h.2]
theorem dkB_zero {k : Nat} (hk : 346 ≤ k ∧ k ≤ 350) (j : Nat) : dkN (dkB k j) 0 := by
  rw [dkB_w1 hk]
  unfold dkBW
  cases Nat.beq (j % 54) 0 <;> cases Nat.beq (j % 54) 1 <;> cases Nat.beq (j % 54) 4 <;> cases Nat.beq (j % 54) 5 <;> exact dkHas_of (a := 0) (b := 0) rfl (by decide) (by decide)
/-- the copy of n ints -/
def dkCpn (I : dkI) (kf kt a b n : Nat) : dkI := fun k j => if k = kt ∧ b ≤ j ∧ j < b + n then I kf (a + (j - b)) else I k j
abbrev dkCp (I : dkI) (kf kt a b : Nat) : dkI := dkCpn I kf kt a b 54
theorem dkCp_in {I I1 : dkI} {kf kt a b j : Nat} (e : I1 = dkCp I kf kt a b) (h : b ≤ j ∧ j < b + 54) : I1 kt j = I kf (a + (j - b)) := by
  subst e
  exact if_pos ⟨rfl, h⟩
theorem dkCp_out {I I1 : dkI} {kf kt a b j : Nat} (e : I1 = dkCp I kf kt a b) (h : j < b ∨ b + 54 ≤ j) : I1 kt j = I kt j := by
  subst e
  exact if_neg fun q => by omega
theorem dkCp_n {I I1 : dkI} {kf kt a b k j : Nat} (e : I1 = dkCp I kf kt a b) (h : k ≠ kt) : I1 k j = I k j := by
  subst e
  exact if_neg fun q => h q.1
theorem dkCpn_0 (I : dkI) (kf kt a b : Nat) : I = dkCpn I kf kt a b 0 := by
  funext k j
  exact (if_neg fun q => by omega).symm
theorem dkCpn_step {I I1 I2 : dkI} {kf kt a b n : Nat} {v : Int32} (hne : kf ≠ kt) (e1 : I1 = dkCpn I kf kt a b n) (e2 : I2 = dkU I1 kt (b + n) v) (ev : v = I1 kf (a + n)) : I2 = dkCpn I kf kt a b (n + 1) := by
  have h1 : v = I kf (a + n) := by rw [ev, e1]; exact if_neg fun q => hne q.1
  rw [e2, h1, e1]
  funext k j
  by_cases c1 : k = kt
  · subst c1
    by_cases c2 : j = b + n
    · subst c2
      rw [dkU_ss]
      show _ = if k = k ∧ b ≤ b + n ∧ b + n < b + (n + 1) then I kf (a + (b + n - b)) else I k (b + n)
      rw [if_pos ⟨rfl, by omega, by omega⟩, Nat.add_sub_cancel_left]
    · rw [dkU_sn c2]
      show (if k = k ∧ b ≤ j ∧ j < b + n then I kf (a + (j - b)) else I k j) = if k = k ∧ b ≤ j ∧ j < b + (n + 1) then I kf (a + (j - b)) else I k j
      by_cases c3 : b ≤ j ∧ j < b + n
      · rw [if_pos ⟨rfl, c3⟩, if_pos ⟨rfl, by omega, by omega⟩]
      · rw [if_neg fun q => c3 q.2, if_neg fun q => by omega]
  · rw [dkU_n c1]
    show (if k = kt ∧ b ≤ j ∧ j < b + n then I kf (a + (j - b)) else I k j) = if k = kt ∧ b ≤ j ∧ j < b + (n + 1) then I kf (a + (j - b)) else I k j
    rw [if_neg fun q => c1 q.1, if_neg fun q => c1 q.1]
def dkZ (i : Int32) : Prop := i.toNatClampNeg % 54 = 0
theorem dkZ_mul {x w v : Int32} {S : dkS} (e : v = w * x) (hx : dkN S x) (h : (decide (w.toInt = 54) && dkAll1 S (fun p => decide (0 ≤ p.1) && decide (p.2 ≤ 1000))) = true) : dkZ v := by
  rw [Bool.and_eq_true] at h
  have hw := of_decide_eq_true h.1
  obtain ⟨p, hp, h1, h2⟩ := hx
  have h9 := dkAll1_of h.2 hp
  rw [Bool.and_eq_true] at h9
  have e1 := of_decide_eq_true h9.1
  have e2 := of_decide_eq_true h9.2
  have e3 : v.toInt = 54 * x.toInt := by rw [e, Int32.toInt_mul, hw]; exact dk_bm (by omega) (by omega)
  have e4 := dk_cln (i := v) (by omega)
  unfold dkZ
  omega
theorem dkO_cp {I I1 : dkI} {kf kt a b : Nat} (hO : dkOk I) (e : I1 = dkCp I kf kt a b) (hf : 346 ≤ kf ∧ kf ≤ 350) (ht : 346 ≤ kt ∧ kt ≤ 350) (ha : a % 54 = 0) (hb : b % 54 = 0) : dkOk I1 := by
  intro k j
  by_cases h1 : k = kt
  · subst h1
    by_cases h2 : b ≤ j ∧ j < b + 54
    · rw [dkCp_in e h2, dkB_w1 ht]
      have h3 := hO kf (a + (j - b))
      rw [dkB_w1 hf] at h3
      rw [show j % 54 = (a + (j - b)) % 54 by omega]
      exact h3
    · rw [dkCp_out e (by omega)]
      exact hO k j
  · rw [dkCp_n e h1]
    exact hO k j
theorem dkF_cp {ms : dkM} {I I1 I2 : dkI} {kf kt a b lo hi : Nat} (hF : dkF ms I I1) (e : I2 = dkCp I1 kf kt a b) (hb : lo ≤ b ∧ b ≤ hi) (h : (ms.any fun q => decide (q.1 ≤ kt) && decide (kt ≤ q.2.1) && decide (q.2.2.1 ≤ lo) && decide (hi + 53 ≤ q.2.2.2)) = true) : dkF ms I I2 := by
  intro k j hk
  by_cases h3 : k = kt
  · subst h3
    by_cases h4 : b ≤ j ∧ j < b + 54
    · exfalso
      obtain ⟨q, hq, h5⟩ := List.any_eq_true.mp h
      rw [Bool.and_eq_true, Bool.and_eq_true, Bool.and_eq_true] at h5
      have e5 := of_decide_eq_true h5.1.2
      have e6 := of_decide_eq_true h5.2
      have : dkIn ms k j = true := by
        refine List.any_eq_true.mpr ⟨q, hq, ?_⟩
        rw [Bool.and_eq_true, Bool.and_eq_true, Bool.and_eq_true]
        exact ⟨⟨h5.1.1, decide_eq_true (by omega)⟩, decide_eq_true (by omega)⟩
      rw [this] at hk
      cases hk
    · rw [dkCp_out e (by omega)]
      exact hF k j hk
  · rw [dkCp_n e h3]
    exact hF k j hk
/-- the slices one step down -/
def dkShn (I : dkI) (n : Nat) : dkI := fun k j => if k = 349 ∧ j < n then I 349 (j + 54) else I k j
theorem dkShn_0 (I : dkI) : I = dkShn I 0 := by
  funext k j
  exact (if_neg fun q => by omega).symm
theorem dkShn_in {I I1 : dkI} {n j : Nat} (e : I1 = dkShn I n) (h : j < n) : I1 349 j = I 349 (j + 54) := by
  rw [e]
  exact if_pos ⟨rfl, h⟩
theorem dkShn_n {I I1 : dkI} {n k j : Nat} (e : I1 = dkShn I n) (h : k ≠ 349) : I1 k j = I k j := by
  rw [e]
  exact if_neg fun q => h q.1
theorem dkShn_step {I I1 I2 : dkI} {n : Nat} {v : Int32} (e1 : I1 = dkShn I n) (e2 : I2 = dkU I1 349 n v) (ev : v = I1 349 (n + 54)) : I2 = dkShn I (n + 1) := by
  have h1 : v = I 349 (n + 54) := by rw [ev, e1]; exact if_neg fun q => by omega
  rw [e2, h1, e1]
  funext k j
  by_cases c1 : k = 349
  · subst c1
    by_cases c2 : j = n
    · subst c2
      rw [dkU_ss]
      exact (if_pos ⟨rfl, Nat.lt_succ_self _⟩).symm
    · rw [dkU_sn c2]
      show (if 349 = 349 ∧ j < n then I 349 (j + 54) else I 349 j) = if 349 = 349 ∧ j < n + 1 then I 349 (j + 54) else I 349 j
      by_cases c3 : j < n
      · rw [if_pos ⟨rfl, c3⟩, if_pos ⟨rfl, by omega⟩]
      · rw [if_neg fun q => c3 q.2, if_neg fun q => by omega]
  · rw [dkU_n c1]
    show (if k = 349 ∧ j < n then I 349 (j + 54) else I k j) = if k = 349 ∧ j < n + 1 then I 349 (j + 54) else I k j
    rw [if_neg fun q => c1 q.1, if_neg fun q => c1 q.1]
/-! places by name -/
theorem dk_aT0 {g : dkG} {z t : Nat} {I : dkI} {H : Heap} (ht : dkT t) (hW : dkW g z I H) : va_at g.1 vwCl (z + t, dkTown z t (I t)) H := by
  have h := hW t (by have := dkT_lt ht; omega)
  have e := dkC_T g z ht (c := 0) (by decide) (I t)
  rw [Nat.add_zero] at e
  rw [e] at h
  exact h
theorem dk_aTc {g : dkG} {z t : Nat} {I : dkI} {H : Heap} (ht : dkT t) (hW : dkW g z I H) {c : Nat} (hc : c < 11) : va_at g.1 vwCl (z + (t + c), dkTC g z t c (I (t + c))) H := by
  have h := hW (t + c) (by have := dkT_lt ht; omega)
  rw [dkC_T g z ht hc (I (t + c))] at h
  exact h
section DKT
variable {g : dkG} {z t : Nat} {I : dkI} {H : Heap}
theorem dk_aT1 (ht : dkT t) (hW : dkW g z I H) : va_at g.1 vwCl (z + (t + 1), dkArr g.2.1 5 (I (t + 1))) H := dk_aTc ht hW (by decide)
theorem dk_aT2 (ht : dkT t) (hW : dkW g z I H) : va_at g.1 vwCl (z + (t + 2), dkArr g.2.1 5 (I (t + 2))) H := dk_aTc ht hW (by decide)
theorem dk_aT3 (ht : dkT t) (hW : dkW g z I H) : va_at g.1 vwCl (z + (t + 3), dkArr g.2.1 5 (I (t + 3))) H := dk_aTc ht hW (by decide)
theorem dk_aT4 (ht : dkT t) (hW : dkW g z I H) : va_at g.1 vwCl (z + (t + 4), dkArr g.2.1 5 (I (t + 4))) H := dk_aTc ht hW (by decide)
theorem dk_aT5 (ht : dkT t) (hW : dkW g z I H) : va_at g.1 vwCl (z + (t + 5), dkArr g.2.1 5 (I (t + 5))) H := dk_aTc ht hW (by decide)
theorem dk_aT6 (ht : dkT t) (hW : dkW g z I H) : va_at g.1 vwCl (z + (t + 6), dkArr g.2.1 5 (I (t + 6))) H := dk_aTc ht hW (by decide)
theorem dk_aT7 (ht : dkT t) (hW : dkW g z I H) : va_at g.1 vwCl (z + (t + 7), dkArr g.2.1 6 (I (t + 7))) H := dk_aTc ht hW (by decide)
theorem dk_aT8 (ht : dkT t) (hW : dkW g z I H) : va_at g.1 vwCl (z + (t + 8), dkArr g.2.1 6 (I (t + 8))) H := dk_aTc ht hW (by decide)
theorem dk_aT9 (ht : dkT t) (hW : dkW g z I H) : va_at g.1 vwCl (z + (t + 9), dkArr g.2.1 6 (I (t + 9))) H := dk_aTc ht hW (by decide)
theorem dk_aT10 (ht : dkT t) (hW : dkW g z I H) : va_at g.1 vwCl (z + (t + 10), dkArr g.2.1 9 (I (t + 10))) H := dk_aTc ht hW (by decide)
theorem dkC_R (g : dkG) (z : Nat) {r : Nat} (hr : 2 ≤ r ∧ r < 10) (f : Nat → Int32) : dkC g z r f = dkArr g.2.1 40 f := by
  rcases (by omega : r = 2 ∨ r = 3 ∨ r = 4 ∨ r = 5 ∨ r = 6 ∨ r = 7 ∨ r = 8 ∨ r = 9) with rfl | rfl | rfl | rfl | rfl | rfl | rfl | rfl <;> rfl
theorem dk_aR {r : Nat} (hr : 2 ≤ r ∧ r < 10) (hW : dkW g z I H) : va_at g.1 vwCl (z + r, dkArr g.2.1 40 (I r)) H := by
  have h := hW r (by omega)
  rw [dkC_R g z hr] at h
  exact h
theorem dk_eTj (ht : dkT t) (f : Nat → Int32) : dkC g z t f = dkTown z t f := dkC_T g z ht (c := 0) (by decide) f
end DKT
theorem dkIn_R {ms : dkM} {r j : Nat} (hr : 2 ≤ r ∧ r < 10) (hj : j ≤ 2147483647) (h : (ms.any fun q => decide (q.1 ≤ 2) && decide (9 ≤ q.2.1) && decide (q.2.2.1 = 0) && decide (2147483647 ≤ q.2.2.2)) = true) : dkIn ms r j = true := by
  obtain ⟨q, hq, h5⟩ := List.any_eq_true.mp h
  rw [Bool.and_eq_true, Bool.and_eq_true, Bool.and_eq_true] at h5
  have e1 := of_decide_eq_true h5.1.1.1
  have e2 := of_decide_eq_true h5.1.1.2
  have e3 := of_decide_eq_true h5.1.2
  have e4 := of_decide_eq_true h5.2
  refine List.any_eq_true.mpr ⟨q, hq, ?_⟩
  rw [Bool.and_eq_true, Bool.and_eq_true, Bool.and_eq_true]
  exact ⟨⟨⟨decide_eq_true (by omega), decide_eq_true (by omega)⟩, decide_eq_true (by omega)⟩, decide_eq_true (by omega)⟩
theorem dkT_ge {t : Nat} (ht : dkT t) : 14 ≤ t := by
  rcases ht with rfl | rfl | rfl | rfl | rfl | ⟨i, hi, rfl⟩ <;> omega
theorem dkT_ne {t c k : Nat} (ht : dkT t) (hc : c < 11) (hk : Nat.beq (dkTc k) 11 = true) : t + c ≠ k := by
  intro e
  have h1 := dkTc_T ht hc
  rw [e, Nat.eq_of_beq_eq_true hk] at h1
  omega
theorem dkT_neR {t c r : Nat} (ht : dkT t) (hc : c < 11) (hr : 2 ≤ r ∧ r < 10) : t + c ≠ r := by
  have := dkT_ge ht
  omega
theorem dkSubM_hd (q : Nat × Nat × Nat × Nat) (ms : dkM) : dkSubM [q] (q :: ms) = true := by
  refine List.all_eq_true.mpr fun r hr => ?_
  rw [List.mem_singleton] at hr
  subst hr
  refine List.any_eq_true.mpr ⟨r, List.mem_cons_self, ?_⟩
  simp
theorem dk_rowAt {z : Nat} {i : Int32} (hi : vp_in i 8) : ∃ r, (2 ≤ r ∧ r < 10) ∧ (fun j => if j < 8 then some (z + (2 + j)) else none) i.toNatClampNeg = some (z + r) := by
  have hlt : i.toNatClampNeg < 8 := Nat.not_le.mp fun q => hi (Or.inr q)
  exact ⟨2 + i.toNatClampNeg, by omega, if_pos hlt⟩
theorem dk_townAt36 {z : Nat} {i : Int32} (hi : vp_in i 2) : ∃ t, dkT t ∧ (fun j => if j < 2 then some (z + (37 + 11 * j)) else none) i.toNatClampNeg = some (z + t) ∧ 37 ≤ t ∧ t + 10 ≤ 58 := by
  have hlt : i.toNatClampNeg < 2 := Nat.not_le.mp fun q => hi (Or.inr q)
  refine ⟨37 + 11 * i.toNatClampNeg, ?_, if_pos hlt, by omega, by omega⟩
  rcases (by omega : i.toNatClampNeg = 0 ∨ i.toNatClampNeg = 1) with h | h <;> rw [h]
  · exact Or.inr (Or.inr (Or.inl rfl))
  · exact Or.inr (Or.inr (Or.inr (Or.inl rfl)))
theorem dk_townAt60 {z : Nat} {i : Int32} (hi : vp_in i 24) : ∃ t, dkT t ∧ (fun j => if j < 24 then some (z + (61 + 11 * j)) else none) i.toNatClampNeg = some (z + t) ∧ 61 ≤ t ∧ t + 10 ≤ 324 := by
  have hlt : i.toNatClampNeg < 24 := Nat.not_le.mp fun q => hi (Or.inr q)
  exact ⟨61 + 11 * i.toNatClampNeg, Or.inr (Or.inr (Or.inr (Or.inr (Or.inr ⟨_, hlt, rfl⟩)))), if_pos hlt, by omega, by omega⟩
/-! more of ints -/
theorem dk_irem (x y : Int32) : x - x / y * y = x % y := by
  apply Int32.toInt_inj.mp
  have h1 := Int32.le_toInt (x % y)
  have h2 := Int32.toInt_lt (x % y)
  rw [Int32.toInt_sub, Int32.toInt_mul, Int32.toInt_div, Int.bmod_mul_bmod, Int.sub_bmod_bmod, Int.mul_comm (x.toInt.tdiv y.toInt), ← Int.tmod_def, ← Int32.toInt_mod]
  exact Int.bmod_eq_of_le_mul_two (by omega) (by omega)
theorem dk_lrem (x y : Int64) : x - x / y * y = x % y := by
  apply Int64.toInt_inj.mp
  have h1 := Int64.le_toInt (x % y)
  have h2 := Int64.toInt_lt (x % y)
  rw [Int64.toInt_sub, Int64.toInt_mul, Int64.toInt_div, Int.bmod_mul_bmod, Int.sub_bmod_bmod, Int.mul_comm (x.toInt.tdiv y.toInt), ← Int.tmod_def, ← Int64.toInt_mod]
  exact Int.bmod_eq_of_le_mul_two (by omega) (by omega)
theorem dkN_rem {S T U : dkS} {x y : Int32} (n : Int) (hn : 0 < n) (hx : dkN S x) (hy : dkN T y) (h : (dkAll1 S (fun p => decide (0 ≤ p.1)) && dkAll1 T (fun p => decide (p.1 = n) && decide (p.2 = n)) && dkHas U 0 (n - 1)) = true) : dkN U (x - x / y * y) := by
  rw [Bool.and_eq_true, Bool.and_eq_true] at h
  obtain ⟨p, hp, h1, h2⟩ := hx
  obtain ⟨q, hq, h3, h4⟩ := hy
  have e1 := of_decide_eq_true (dkAll1_of h.1.1 hp)
  have h9 := dkAll1_of h.1.2 hq
  rw [Bool.and_eq_true] at h9
  have e2 := of_decide_eq_true h9.1
  have e3 := of_decide_eq_true h9.2
  have e4 : (x - x / y * y).toInt = x.toInt.tmod n := by rw [dk_irem, Int32.toInt_mod, show y.toInt = n by omega]
  have e5 := Int.tmod_nonneg (a := x.toInt) n (by omega)
  have e6 := Int.tmod_lt_of_pos x.toInt hn
  exact dkHas_of h.2 (by rw [e4]; exact e5) (by rw [e4]; omega)
theorem dkN_ne0 {S : dkS} {x : Int32} (hx : dkN S x) (h : dkAll1 S (fun p => decide (0 < p.1) || decide (p.2 < 0)) = true) : ¬ x = 0 := by
  intro e
  subst e
  obtain ⟨p, hp, h1, h2⟩ := hx
  have h9 := dkAll1_of h hp
  have h0 : (0 : Int32).toInt = 0 := rfl
  rw [Bool.or_eq_true] at h9
  rcases h9 with h9 | h9
  · have := of_decide_eq_true h9
    omega
  · have := of_decide_eq_true h9
    omega
theorem dkN_shl1 {S U : dkS} {y : Int32} (lo hi : Nat) (hh : hi < 31) (hy : dkN S y) (h : (dkAll1 S (fun p => decide ((lo : Int) ≤ p.1) && decide (p.2 ≤ (hi : Int))) && dkHas U ((2 ^ lo : Nat) : Int) ((2 ^ hi : Nat) : Int)) = true) : dkN U ((1 : Int32) <<< (y &&& 31)) := by
  rw [Bool.and_eq_true] at h
  obtain ⟨p, hp, h1, h2⟩ := hy
  have h9 := dkAll1_of h.1 hp
  rw [Bool.and_eq_true] at h9
  have e1 := of_decide_eq_true h9.1
  have e2 := of_decide_eq_true h9.2
  have key : ∀ n, n < 31 → ((1 : Int32) <<< (Int32.ofInt (n : Nat) &&& 31)).toInt = ((2 ^ n : Nat) : Int) := by decide +kernel
  have e3 : y = Int32.ofInt (y.toInt.toNat : Nat) := by rw [show ((y.toInt.toNat : Nat) : Int) = y.toInt by omega, Int32.ofInt_toInt]
  have e4 := key y.toInt.toNat (by omega)
  rw [← e3] at e4
  have l1 : 2 ^ lo ≤ 2 ^ y.toInt.toNat := Nat.pow_le_pow_right (by decide) (by omega)
  have l2 : 2 ^ y.toInt.toNat ≤ 2 ^ hi := Nat.pow_le_pow_right (by decide) (by omega)
  exact dkHas_of h.2 (by rw [e4]; exact Int.ofNat_le.mpr l1) (by rw [e4]; exact Int.ofNat_le.mpr l2)
theorem dkN_njx {S : dkS} {i : Int32} {j : Nat} (hi : dkN S i) (h : dkAll1 S (fun p => decide (0 ≤ p.1) && (decide (p.2 < (j : Int)) || decide ((j : Int) < p.1))) = true) : j ≠ i.toNatClampNeg := by
  obtain ⟨p, hp, h1, h2⟩ := hi
  have h9 := dkAll1_of h hp
  have h7 : i.toNatClampNeg = i.toInt.toNat := rfl
  rw [Bool.and_eq_true, Bool.or_eq_true] at h9
  have h0 := of_decide_eq_true h9.1
  rcases h9.2 with h9 | h9
  · have := of_decide_eq_true h9
    omega
  · have := of_decide_eq_true h9
    omega
theorem dkN_min {S T U : dkS} {x y : Int32} (hx : dkN S x) (hy : dkN T y) (h : dkAll2 S T (fun p q => dkHas U (min p.1 q.1) (min p.2 q.2)) = true) : dkN U (if y < x then y else x) := by
  obtain ⟨p, hp, h1, h2⟩ := hx
  obtain ⟨q, hq, h3, h4⟩ := hy
  have h9 := dkAll2_of h hp hq
  split
  · rename_i c
    have := dk_lt c
    exact dkHas_of h9 (by omega) (by omega)
  · rename_i c
    have := dk_nlt c
    exact dkHas_of h9 (by omega) (by omega)
theorem dkN_max {S T U : dkS} {x y : Int32} (hx : dkN S x) (hy : dkN T y) (h : dkAll2 S T (fun p q => dkHas U (max p.1 q.1) (max p.2 q.2)) = true) : dkN U (if x < y then y else x) := by
  obtain ⟨p, hp, h1, h2⟩ := hx
  obtain ⟨q, hq, h3, h4⟩ := hy
  have h9 := dkAll2_of h hp hq
  split
  · rename_i c
    have := dk_lt c
    exact dkHas_of h9 (by omega) (by omega)
  · rename_i c
    have := dk_nlt c
    exact dkHas_of h9 (by omega) (by omega)
theorem dkN_gt {S : dkS} {x : Int32} {B : Int} (hx : dkN S x) (h : dkAll1 S (fun p => decide (B < p.1)) = true) : B < x.toInt := by
  obtain ⟨p, hp, h1, h2⟩ := hx
  have h9 := of_decide_eq_true (dkAll1_of h hp)
  omega
theorem dk_dec {S : dkS} {x : Int32} (hx : dkN S x) (h : dkAll1 S (fun p => decide (-2147483648 < p.1)) = true) : (x + -1).toInt = x.toInt - 1 := by
  obtain ⟨p, hp, h1, h2⟩ := hx
  have h9 := of_decide_eq_true (dkAll1_of h hp)
  have h8 := Int32.toInt_lt x
  rw [Int32.toInt_add, show (-1 : Int32).toInt = -1 from rfl]
  exact dk_bm (by omega) (by omega)
theorem dk_nearD {x y : Int32} {B : Int} {n : Nat} (h : (x.toInt - B).toNat < n + 1) (h1 : y.toInt = x.toInt - 1) (h2 : B < x.toInt) : (y.toInt - B).toNat < n := by omega
theorem dk_nearH {a b w : Int32} {B : Int} {n : Nat} {S : dkS} (h : (B - a.toInt).toNat < n + 1) (e : b = w + 1) (q : w = a) (hw : dkN S w) (c1 : dkAll1 S (fun p => decide (p.2 < B)) = true) (c2 : dkAll1 S (fun p => decide (p.2 < 2147483647)) = true) : (B - b.toInt).toNat < n := by
  have h1 := dk_inc hw c2
  have h2 := dkN_lt hw c1
  rw [← e] at h1
  rw [q] at h1 h2
  omega
theorem dk_incEq {a b w : Int32} (e : b = w + 1) (q : w = a) : b = a + 1 := by rw [e, q]
theorem dk_nearG {x y v : Int32} {n : Nat} (h : y.toInt.natAbs < n + 1) (e : v = x - x / y * y) (hne : ¬ y = 0) : v.toInt.natAbs < n := by
  rw [e, dk_irem, Int32.toInt_mod, Int.natAbs_tmod]
  have h0 : y.toInt.natAbs ≠ 0 := fun q => hne (Int32.toInt_inj.mp (by have h1 : (0 : Int32).toInt = 0 := rfl; omega))
  have := Nat.mod_lt x.toInt.natAbs (Nat.pos_of_ne_zero h0)
  omega
def dkL (S : dkS) (x : Int64) : Prop := ∃ q, q ∈ S ∧ q.1 ≤ x.toInt ∧ x.toInt ≤ q.2
theorem dkHasL {U : dkS} {a b : Int} (h : dkHas U a b = true) {x : Int64} (h1 : a ≤ x.toInt) (h2 : x.toInt ≤ b) : dkL U x := by
  unfold dkHas at h
  rw [Bool.or_eq_true] at h
  rcases h with h | h
  · exact absurd (of_decide_eq_true h) (by omega)
  · obtain ⟨u, hu, h⟩ := List.any_eq_true.mp h
    rw [Bool.and_eq_true] at h
    have e1 := of_decide_eq_true h.1
    have e2 := of_decide_eq_true h.2
    exact ⟨u, hu, by omega, by omega⟩
theorem dkL_lit {x : Int64} (c : Int) (h : x.toInt = c) : dkL [(c, c)] x := ⟨(c, c), List.mem_cons_self, by show c ≤ _; omega, by show _ ≤ c; omega⟩
theorem dkL_top (x : Int64) : dkL [(-9223372036854775808, 9223372036854775807)] x := ⟨_, List.mem_cons_self, by have := Int64.le_toInt x; show (-9223372036854775808 : Int) ≤ _; omega, by have := Int64.toInt_lt x; show _ ≤ (9223372036854775807 : Int); omega⟩
theorem dkL_sub {S T : dkS} {x : Int64} (h : dkL S x) (hs : dkAll1 S (fun p => dkHas T p.1 p.2) = true) : dkL T x := by
  obtain ⟨p, hp, h1, h2⟩ := h
  exact dkHasL (dkAll1_of hs hp) h1 h2
theorem dkL_mul {S U : dkS} {x y : Int64} (c : Int) (hc : 0 ≤ c) (hx : dkL S x) (hy : dkL [(c, c)] y) (h : dkAll1 S (fun p => decide (-9223372036854775808 ≤ p.1 * c) && decide (p.2 * c ≤ 9223372036854775807) && dkHas U (p.1 * c) (p.2 * c)) = true) : dkL U (x * y) := by
  obtain ⟨p, hp, h1, h2⟩ := hx
  obtain ⟨q, hq, h3, h4⟩ := hy
  rw [List.mem_singleton] at hq
  subst hq
  simp only at h3 h4
  have h9 := dkAll1_of h hp
  rw [Bool.and_eq_true, Bool.and_eq_true] at h9
  have e1 := of_decide_eq_true h9.1.1
  have e2 := of_decide_eq_true h9.1.2
  have m1 := Int.mul_le_mul_of_nonneg_right h1 hc
  have m2 := Int.mul_le_mul_of_nonneg_right h2 hc
  have e : (x * y).toInt = x.toInt * c := by rw [Int64.toInt_mul, show y.toInt = c by omega]; exact Int.bmod_eq_of_le_mul_two (by omega) (by omega)
  exact dkHasL h9.2 (by rw [e]; omega) (by rw [e]; omega)
theorem dkL_rem {S T U : dkS} {x y : Int64} (n : Int) (hx : dkL S x) (hy : dkL T y) (h : (dkAll1 S (fun p => decide (0 ≤ p.1)) && dkAll1 T (fun p => decide (1 ≤ p.1) && decide (p.2 ≤ n)) && dkHas U 0 (n - 1)) = true) : dkL U (x - x / y * y) := by
  rw [Bool.and_eq_true, Bool.and_eq_true] at h
  obtain ⟨p, hp, h1, h2⟩ := hx
  obtain ⟨q, hq, h3, h4⟩ := hy
  have e1 := of_decide_eq_true (dkAll1_of h.1.1 hp)
  have h9 := dkAll1_of h.1.2 hq
  rw [Bool.and_eq_true] at h9
  have e2 := of_decide_eq_true h9.1
  have e3 := of_decide_eq_true h9.2
  have e4 : (x - x / y * y).toInt = x.toInt.tmod y.toInt := by rw [dk_lrem, Int64.toInt_mod]
  have e5 := Int.tmod_nonneg (a := x.toInt) y.toInt (by omega)
  have e6 := Int.tmod_lt_of_pos x.toInt (show 0 < y.toInt by omega)
  exact dkHasL h.2 (by rw [e4]; exact e5) (by rw [e4]; omega)
theorem dkL_ne0 {S : dkS} {x : Int64} (hx : dkL S x) (h : dkAll1 S (fun p => decide (0 < p.1) || decide (p.2 < 0)) = true) : ¬ x = 0 := by
  intro e
  subst e
  obtain ⟨p, hp, h1, h2⟩ := hx
  have h9 := dkAll1_of h hp
  have h0 : (0 : Int64).toInt = 0 := rfl
  rw [Bool.or_eq_true] at h9
  rcases h9 with h9 | h9
  · have := of_decide_eq_true h9
    omega
  · have := of_decide_eq_true h9
    omega
theorem dkL_of {S : dkS} {x : Int32} (h : dkN S x) : dkL S x.toInt64 := by
  obtain ⟨p, hp, h1, h2⟩ := h
  exact ⟨p, hp, by rw [Int32.toInt_toInt64]; exact h1, by rw [Int32.toInt_toInt64]; exact h2⟩
theorem dkN_ofL {S T : dkS} {x : Int64} (h : dkL S x) (hs : dkAll1 S (fun p => decide (-2147483648 ≤ p.1) && decide (p.2 ≤ 2147483647) && dkHas T p.1 p.2) = true) : dkN T x.toInt32 := by
  obtain ⟨p, hp, h1, h2⟩ := h
  have h9 := dkAll1_of hs hp
  rw [Bool.and_eq_true, Bool.and_eq_true] at h9
  have e1 := of_decide_eq_true h9.1.1
  have e2 := of_decide_eq_true h9.1.2
  have e : x.toInt32.toInt = x.toInt := by rw [Int64.toInt_toInt32]; exact dk_bm (by omega) (by omega)
  exact dkHas_of h9.2 (by rw [e]; exact h1) (by rw [e]; exact h2)
/-! the static tables -/
def dkSzI (j : Nat) : Int32 := match j with | 0 => 10 | 1 => 11 | 2 => 12 | 3 => 11 | 4 => 13 | _ => 14
def dkMkI (j : Nat) : Int32 := match j with | 0 => 20 | 1 => 21 | 2 => 24 | 3 => 22 | 4 => 23 | _ => 23
theorem dkSz_v (j : Nat) : dkSz j = .int (dkSzI j) := by
  rcases (by omega : j = 0 ∨ j = 1 ∨ j = 2 ∨ j = 3 ∨ j = 4 ∨ 5 ≤ j) with rfl | rfl | rfl | rfl | rfl | h
  iterate 5 rfl
  obtain ⟨q, rfl⟩ : ∃ q, j = q + 5 := ⟨j - 5, by omega⟩
  rfl
theorem dkMk_v (j : Nat) : dkMk j = .int (dkMkI j) := by
  rcases (by omega : j = 0 ∨ j = 1 ∨ j = 2 ∨ j = 3 ∨ j = 4 ∨ 5 ≤ j) with rfl | rfl | rfl | rfl | rfl | h
  iterate 5 rfl
  obtain ⟨q, rfl⟩ : ∃ q, j = q + 5 := ⟨j - 5, by omega⟩
  rfl
theorem dkSz_d (j : Nat) : dkN [(10, 14)] (dkSzI j) := by
  rcases (by omega : j = 0 ∨ j = 1 ∨ j = 2 ∨ j = 3 ∨ j = 4 ∨ 5 ≤ j) with rfl | rfl | rfl | rfl | rfl | h
  iterate 5 exact dkHas_of (a := 10) (b := 14) rfl (by decide) (by decide)
  obtain ⟨q, rfl⟩ : ∃ q, j = q + 5 := ⟨j - 5, by omega⟩
  exact dkHas_of (a := 10) (b := 14) rfl (show (10 : Int) ≤ (14 : Int32).toInt by decide) (show (14 : Int32).toInt ≤ (14 : Int) by decide)
theorem dkMk_d (j : Nat) : dkN [(20, 24)] (dkMkI j) := by
  rcases (by omega : j = 0 ∨ j = 1 ∨ j = 2 ∨ j = 3 ∨ j = 4 ∨ 5 ≤ j) with rfl | rfl | rfl | rfl | rfl | h
  iterate 5 exact dkHas_of (a := 20) (b := 24) rfl (by decide) (by decide)
  obtain ⟨q, rfl⟩ : ∃ q, j = q + 5 := ⟨j - 5, by omega⟩
  exact dkHas_of (a := 20) (b := 24) rfl (show (20 : Int) ≤ (23 : Int32).toInt by decide) (show (23 : Int32).toInt ≤ (24 : Int) by decide)
