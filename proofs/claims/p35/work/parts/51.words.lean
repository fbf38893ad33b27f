/-! THE TAPE: n bytes T 0, T 1 ..; places are whole numbers -/
def dkDg (T : Nat → Int32) (n a : Int) : Prop := a < n ∧ 48 ≤ (T a.toNat).toInt ∧ (T a.toNat).toInt ≤ 57
def dkDb (T : Nat → Int32) (n a : Int) : Bool := decide (a < n) && decide (48 ≤ (T a.toNat).toInt) && decide ((T a.toNat).toInt ≤ 57)
theorem dkDb_t {T : Nat → Int32} {n a : Int} (h : dkDg T n a) : dkDb T n a = true := by
  unfold dkDb
  rw [decide_eq_true h.1, decide_eq_true h.2.1, decide_eq_true h.2.2]
  rfl
theorem dkDb_f {T : Nat → Int32} {n a : Int} (h : ¬ dkDg T n a) : dkDb T n a = false := by
  rw [← Bool.not_eq_true]
  intro q
  unfold dkDb at q
  rw [Bool.and_eq_true, Bool.and_eq_true] at q
  exact h ⟨of_decide_eq_true q.1.1, of_decide_eq_true q.1.2, of_decide_eq_true q.2⟩
/-- the NUMBER that begins at a: its value, -1 for none; its end -/
def dkNv (T : Nat → Int32) (n a : Int) : Int := bif dkDb T n a then (bif dkDb T n (a + 1) then (bif dkDb T n (a + 2) then -1 else 10 * ((T a.toNat).toInt - 48) + ((T (a + 1).toNat).toInt - 48)) else (T a.toNat).toInt - 48) else -1
def dkNe (T : Nat → Int32) (n a : Int) : Int := bif dkDb T n (a + 1) then a + 2 else a + 1
theorem dkNv_0 {T : Nat → Int32} {n a : Int} (h : ¬ dkDg T n a) : dkNv T n a = -1 := by
  unfold dkNv
  rw [dkDb_f h]
  rfl
theorem dkNv_1 {T : Nat → Int32} {n a : Int} (h : dkDg T n a) (h1 : ¬ dkDg T n (a + 1)) : dkNv T n a = (T a.toNat).toInt - 48 ∧ dkNe T n a = a + 1 := by
  unfold dkNv dkNe
  rw [dkDb_t h, dkDb_f h1]
  exact ⟨rfl, rfl⟩
theorem dkNv_2 {T : Nat → Int32} {n a : Int} (h : dkDg T n a) (h1 : dkDg T n (a + 1)) (h2 : ¬ dkDg T n (a + 2)) : dkNv T n a = 10 * ((T a.toNat).toInt - 48) + ((T (a + 1).toNat).toInt - 48) ∧ dkNe T n a = a + 2 := by
  unfold dkNv dkNe
  rw [dkDb_t h, dkDb_t h1, dkDb_f h2]
  exact ⟨rfl, rfl⟩
theorem dkNv_3 {T : Nat → Int32} {n a : Int} (h : dkDg T n a) (h1 : dkDg T n (a + 1)) (h2 : dkDg T n (a + 2)) : dkNv T n a = -1 := by
  unfold dkNv
  rw [dkDb_t h, dkDb_t h1, dkDb_t h2]
  rfl
/-- sign c stands at a -/
def dkCb (T : Nat → Int32) (n a c : Int) : Bool := decide (a < n) && decide ((T a.toNat).toInt = c)
theorem dkCb_t {T : Nat → Int32} {n a c : Int} (h : a < n) (h1 : (T a.toNat).toInt = c) : dkCb T n a c = true := by
  unfold dkCb
  rw [decide_eq_true h, decide_eq_true h1]
  rfl
theorem dkCb_f {T : Nat → Int32} {n a c : Int} (h : n ≤ a ∨ (T a.toNat).toInt ≠ c) : dkCb T n a c = false := by
  rw [← Bool.not_eq_true]
  intro q
  unfold dkCb at q
  rw [Bool.and_eq_true] at q
  have q1 := of_decide_eq_true q.1
  have q2 := of_decide_eq_true q.2
  omega
/-- a Met's condition made weaker -/
theorem dk_weakI {l : Launch} {y : MethodName} {ws : List Cond} {rm : Room} {Pc : Array Value → State → Prop} {g : dkG} {z : Nat} {P P' : Int32 → dkI → Prop} {mc ms : Nat} {free : Addr → Prop} (h : Met l y ws rm Pc (dkQi g z P) mc ms free) (w : ∀ r I, P r I → P' r I) : Met l y ws rm Pc (dkQi g z P') mc ms free := by
  intro p e ha hc hk s m args below hf happ hP hK
  obtain ⟨k, o, h1, h2, h3, ⟨⟨r, u, q1, q2, q3⟩, q4⟩, q5⟩ := h p e ha hc hk s m args below hf happ hP hK
  exact ⟨k, o, h1, h2, h3, ⟨⟨r, u, q1, w r u q2, q3⟩, q4⟩, q5⟩
theorem dk_weakV {l : Launch} {y : MethodName} {ws : List Cond} {rm : Room} {Pc : Array Value → State → Prop} {g : dkG} {z : Nat} {P P' : dkI → Prop} {mc ms : Nat} {free : Addr → Prop} (h : Met l y ws rm Pc (dkQv g z P) mc ms free) (w : ∀ I, P I → P' I) : Met l y ws rm Pc (dkQv g z P') mc ms free := by
  intro p e ha hc hk s m args below hf happ hP hK
  obtain ⟨k, o, h1, h2, h3, ⟨⟨u, q1, q2, q3⟩, q4⟩, q5⟩ := h p e ha hc hk s m args below hf happ hP hK
  exact ⟨k, o, h1, h2, h3, ⟨⟨u, q1, w u q2, q3⟩, q4⟩, q5⟩
/-! WHAT A READER SAYS: (0, the place where it ends) or (the FAULT's number, its place) -/
def dkTh (x : Int32 × Int32) (f : Int32 → Int32 × Int32) : Int32 × Int32 := if x.1 = 0 then f x.2 else x
theorem dkTh_0 {x : Int32 × Int32} {f : Int32 → Int32 × Int32} (h : x.1 = 0) : dkTh x f = f x.2 := if_pos h
theorem dkTh_n {x : Int32 × Int32} {f : Int32 → Int32 × Int32} (h : x.1 ≠ 0) : dkTh x f = x := if_neg h
/-- the sign c -/
def dkSg (T : Nat → Int32) (n c a : Int32) : Int32 × Int32 := if a.toInt < n.toInt ∧ (T (Int32.toNatClampNeg a)).toInt = c.toInt then (0, a + 1) else (1, a)
theorem dkSg_t {T : Nat → Int32} {n c a : Int32} (h : a.toInt < n.toInt) (h1 : (T (Int32.toNatClampNeg a)).toInt = c.toInt) : dkSg T n c a = (0, a + 1) := if_pos ⟨h, h1⟩
theorem dkSg_f {T : Nat → Int32} {n c a : Int32} (h : n.toInt ≤ a.toInt ∨ (T (Int32.toNatClampNeg a)).toInt ≠ c.toInt) : dkSg T n c a = (1, a) := if_neg (fun q => by omega)
/-- the NUMBER of lo to hi -/
def dkNg (T : Nat → Int32) (n lo hi a : Int32) : Int32 × Int32 := if dkNv T n.toInt a.toInt < 0 then (1, a) else if lo.toInt ≤ dkNv T n.toInt a.toInt ∧ dkNv T n.toInt a.toInt ≤ hi.toInt then (0, Int32.ofInt (dkNe T n.toInt a.toInt)) else (2, a)
theorem dkNg_1 {T : Nat → Int32} {n lo hi a : Int32} (h : dkNv T n.toInt a.toInt < 0) : dkNg T n lo hi a = (1, a) := if_pos h
theorem dkNg_2 {T : Nat → Int32} {n lo hi a : Int32} (h : 0 ≤ dkNv T n.toInt a.toInt) (h1 : dkNv T n.toInt a.toInt < lo.toInt ∨ hi.toInt < dkNv T n.toInt a.toInt) : dkNg T n lo hi a = (2, a) := (if_neg (by omega)).trans (if_neg (fun q => by omega))
theorem dkNg_0 {T : Nat → Int32} {n lo hi a : Int32} (h : 0 ≤ dkNv T n.toInt a.toInt) (h1 : lo.toInt ≤ dkNv T n.toInt a.toInt) (h2 : dkNv T n.toInt a.toInt ≤ hi.toInt) : dkNg T n lo hi a = (0, Int32.ofInt (dkNe T n.toInt a.toInt)) := (if_neg (by omega)).trans (if_pos ⟨h1, h2⟩)
def dkNn (T : Nat → Int32) (n a : Int32) : Int32 := Int32.ofInt (dkNv T n.toInt a.toInt)
/-- the law -/
def dkLw (T : Nat → Int32) (n a : Int32) : Int32 × Int32 := dkTh (dkSg T n 116 a) fun b => dkTh (dkNg T n 3 9 b) fun b => dkTh (dkSg T n 44 b) fun b => dkTh (dkNg T n 1 30 b) fun b => dkSg T n 59 b
/-- a person, h places -/
def dkMw (T : Nat → Int32) (n h a : Int32) : Int32 × Int32 := dkTh (dkSg T n 109 a) fun b => dkTh (dkNg T n 0 (h - 1) b) fun b => dkTh (dkSg T n 44 b) fun b => dkTh (dkNg T n 0 9 b) fun b => dkTh (dkSg T n 44 b) fun b => dkTh (dkNg T n 0 2 b) fun b => dkSg T n 59 b
/-- k more persons at most -/
def dkPw (T : Nat → Int32) (n h : Int32) : Nat → Int32 → Int32 × Int32
  | 0, a => if (dkSg T n 109 a).1 = 0 then (3, a) else (0, a)
  | k + 1, a => if (dkSg T n 109 a).1 = 0 then dkTh (dkMw T n h a) (dkPw T n h k) else (0, a)
theorem dkPw_e {T : Nat → Int32} {n h a : Int32} {k : Nat} (q : (dkSg T n 109 a).1 ≠ 0) : dkPw T n h k a = (0, a) := by
  cases k with
  | zero => exact if_neg q
  | succ k => exact if_neg q
theorem dkPw_3 {T : Nat → Int32} {n h a : Int32} (q : (dkSg T n 109 a).1 = 0) : dkPw T n h 0 a = (3, a) := if_pos q
theorem dkPw_s {T : Nat → Int32} {n h a : Int32} {k : Nat} (q : (dkSg T n 109 a).1 = 0) : dkPw T n h (k + 1) a = dkTh (dkMw T n h a) (dkPw T n h k) := if_pos q
/-- how many persons: c so far -/
def dkPk (T : Nat → Int32) (n h : Int32) : Nat → Int32 → Int32 → Int32
  | 0, _, c => c
  | k + 1, a, c => if (dkSg T n 109 a).1 = 0 then dkPk T n h k (dkMw T n h a).2 (c + 1) else c
theorem dkPk_e {T : Nat → Int32} {n h a c : Int32} {k : Nat} (q : (dkSg T n 109 a).1 ≠ 0) : dkPk T n h k a c = c := by
  cases k with
  | zero => rfl
  | succ k => exact if_neg q
theorem dkPk_s {T : Nat → Int32} {n h a c : Int32} {k : Nat} (q : (dkSg T n 109 a).1 = 0) : dkPk T n h (k + 1) a c = dkPk T n h k (dkMw T n h a).2 (c + 1) := if_pos q
/-- all persons -/
def dkPs (T : Nat → Int32) (n h a : Int32) : Int32 × Int32 := dkTh (dkMw T n h a) (dkPw T n h 4)
/-- a dog's sort by its sign, -1000000: none -/
def dkSo (c : Int) : Int32 := if c = 104 then 1 else if c = 116 then 2 else if c = 112 then 3 else if c = 107 then 4 else if c = 115 then 5 else -1000000
/-- k more dogs at most -/
def dkDw (T : Nat → Int32) (n h : Int32) : Nat → Int32 → Int32 × Int32
  | 0, a => if n.toInt ≤ a.toInt then (0, a) else if dkSo (T (Int32.toNatClampNeg a)).toInt = -1000000 then (1, a) else (3, a)
  | k + 1, a => if n.toInt ≤ a.toInt then (0, a) else if dkSo (T (Int32.toNatClampNeg a)).toInt = -1000000 then (1, a) else dkTh (dkNg T n 0 (h - 1) (a + 1)) fun b => dkTh (dkSg T n 59 b) (dkDw T n h k)
theorem dkDw_e {T : Nat → Int32} {n h a : Int32} {k : Nat} (q : n.toInt ≤ a.toInt) : dkDw T n h k a = (0, a) := by
  cases k with
  | zero => exact if_pos q
  | succ k => exact if_pos q
theorem dkDw_1 {T : Nat → Int32} {n h a : Int32} {k : Nat} (q : a.toInt < n.toInt) (q1 : dkSo (T (Int32.toNatClampNeg a)).toInt = -1000000) : dkDw T n h k a = (1, a) := by
  cases k with
  | zero => exact (if_neg (by omega)).trans (if_pos q1)
  | succ k => exact (if_neg (by omega)).trans (if_pos q1)
theorem dkDw_3 {T : Nat → Int32} {n h a : Int32} (q : a.toInt < n.toInt) (q1 : dkSo (T (Int32.toNatClampNeg a)).toInt ≠ -1000000) : dkDw T n h 0 a = (3, a) := (if_neg (by omega)).trans (if_neg q1)
theorem dkDw_s {T : Nat → Int32} {n h a : Int32} {k : Nat} (q : a.toInt < n.toInt) (q1 : dkSo (T (Int32.toNatClampNeg a)).toInt ≠ -1000000) : dkDw T n h (k + 1) a = dkTh (dkNg T n 0 (h - 1) (a + 1)) fun b => dkTh (dkSg T n 59 b) (dkDw T n h k) := (if_neg (by omega)).trans (if_neg q1)
/-- how many dogs: c so far -/
def dkDk (T : Nat → Int32) (n h : Int32) : Nat → Int32 → Int32 → Int32
  | 0, _, c => c
  | k + 1, a, c => if n.toInt ≤ a.toInt then c else dkDk T n h k (dkSg T n 59 (dkNg T n 0 (h - 1) (a + 1)).2).2 (c + 1)
theorem dkDk_e {T : Nat → Int32} {n h a c : Int32} {k : Nat} (q : n.toInt ≤ a.toInt) : dkDk T n h k a c = c := by
  cases k with
  | zero => rfl
  | succ k => exact if_pos q
theorem dkDk_s {T : Nat → Int32} {n h a c : Int32} {k : Nat} (q : a.toInt < n.toInt) : dkDk T n h (k + 1) a c = dkDk T n h k (dkSg T n 59 (dkNg T n 0 (h - 1) (a + 1)).2).2 (c + 1) := if_neg (by omega)
theorem dk_ofI {v : Int} (h1 : -2147483648 ≤ v) (h2 : v ≤ 2147483647) : (Int32.ofInt v).toInt = v := by
  rw [Int32.toInt_ofInt]
  exact dk_bm h1 h2
theorem dk_isI {x : Int32} {v : Int} (h : x.toInt = v) : x = Int32.ofInt v := by rw [← h, Int32.ofInt_toInt]
theorem dkE_k {x : Int32 × Int32} {k a : Int32} (e : x = (k, a)) (h : k ≠ 0) : x.1 ≠ 0 := by rw [e]; exact h
theorem dk_mulE (k : Int) {S : dkS} {x y : Int32} (hx : x.toInt = k) (hy : dkN S y) (hk : 0 ≤ k) (h : (S.all fun q => decide (-2147483648 ≤ k * q.1) && decide (k * q.2 ≤ 2147483647)) = true) : (x * y).toInt = k * y.toInt := by
  obtain ⟨q, hq, h3, h4⟩ := hy
  have h9 := List.all_eq_true.mp h q hq
  rw [Bool.and_eq_true] at h9
  rw [Int32.toInt_mul, hx]
  exact dk_bm (Int.le_trans (of_decide_eq_true h9.1) (Int.mul_le_mul_of_nonneg_left h3 hk)) (Int.le_trans (Int.mul_le_mul_of_nonneg_left h4 hk) (of_decide_eq_true h9.2))
