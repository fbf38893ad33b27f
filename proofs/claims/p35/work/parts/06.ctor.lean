/-! MAKING: constructors, cell by cell, at the heap's end -/
def dkI0 : dkI := fun k _ => if k = 11 then -1 else if k = 341 then -1000000 else 0
def dkReg (g : dkG) (z lo hi : Nat) (H : Heap) : Prop := ∀ k, lo ≤ k → k < hi → va_at g.1 vwCl (z + k, dkC g z k (dkI0 k)) H
theorem dkReg.kept {g : dkG} {z lo hi : Nat} {H H1 : Heap} (h : dkReg g z lo hi H) (hk : ∀ k, lo ≤ k → k < hi → H1[z + k]? = H[z + k]?) : dkReg g z lo hi H1 := fun k h1 h2 => (h k h1 h2).kept (hk k h1 h2)
theorem dkReg.app {g : dkG} {z a b c : Nat} {H : Heap} (h1 : dkReg g z a b H) (h2 : dkReg g z b c H) : dkReg g z a c H := fun k q1 q2 => by
  rcases Nat.lt_or_ge k b with h | h
  · exact h1 k q1 h
  · exact h2 k h q2
theorem dkReg.nil {g : dkG} {z a : Nat} {H : Heap} : dkReg g z a a H := fun k q1 q2 => absurd q1 (by omega)
theorem dkReg.one {g : dkG} {z a : Nat} {H : Heap} (h : va_at g.1 vwCl (z + a, dkC g z a (dkI0 a)) H) : dkReg g z a (a + 1) H := fun k q1 q2 => by
  have e : k = a := by omega
  subst e
  exact h
theorem dkReg.town {g : dkG} {z t : Nat} (ht : dkT t) {H : Heap} (h : ∀ c, c < 11 → va_at g.1 vwCl (z + (t + c), dkTC g z t c (fun _ => 0)) H) : dkReg g z t (t + 11) H := fun k q1 q2 => by
  obtain ⟨c, rfl⟩ : ∃ c, k = t + c := ⟨k - t, by omega⟩
  have h0 : dkI0 (t + c) = fun _ => 0 := by
    have h1 : ¬ (t + c = 11) := by rcases ht with rfl | rfl | rfl | rfl | rfl | ⟨i, hi, rfl⟩ <;> omega
    have h2 : ¬ (t + c = 341) := by rcases ht with rfl | rfl | rfl | rfl | rfl | ⟨i, hi, rfl⟩ <;> omega
    funext j
    simp [dkI0, h1, h2]
  rw [dkC_T g z ht (by omega), h0]
  exact h c (by omega)
section DKI
variable {p : Program} {l : Launch} {e : Env} {R : Room} {s : State} {m : MethodId} {args : Array Value} {below : List Frame} {meth : Method} {c : Code} {H : Heap} {locs : List Loc} {cells slots : Nat} {Q : State → Prop}
variable {cc : ByteArray} {pc : Nat} {ls : Array Slot} {rest st0 As : List Value} {g : dkG} {H0 : Heap} {A : Nat → Prop}
variable {y : MethodName} {bytes : ByteArray} {maxL nL na index b mc mS : Nat} {ws : List Cond} {own host : String} {Ts : List Cond} {rm : Room} {PH P : Heap → Prop}
theorem dk_I (S : CallFix p m c cc nL s args Ts own) (hM : Met l y ws rm (va_Pc (.ref b :: As) (fun U => PH U.heap ∧ dkK g U)) (va_Qv (S := Unit) (fun _ => True) (fun _ t => P t.heap) (dkA b)) mc mS (dkA b)) (cw : CallB R s args own index y bytes maxL none ws rm mc mS na ∧ y.name = "<init>" ∧ (Cond.instanceMethod y).before args s = true) (hB : PH H) (hK : dkK g s) (hS : va_S A H0 H locs) (hA : ∀ q : Nat, b ≤ q → A q) (hn : As.length = na) (hl : ls.size = nL) (hst : st0 = As.reverse ++ .ref b :: rest) (hr : (rest.map fun v => v.category).sum ≤ 8) (hdg : decode cc pc = .ok (.invokespecial index, 3)) (hf : cells + mc ≤ R.cells ∧ slots + mS ≤ R.slots)
    (kk : ∀ (H1 : Heap) (locs1 : List Loc), P H1 → (∀ q : Nat, q < H.size → q < b → H1[q]? = H[q]?) → va_S A H0 H1 locs1 → W p l e R s m args below meth c H1 locs1 (cells + mc) (slots + mS) Q (F0 m (pc + 3) ls rest)) : W p l e R s m args below meth c H locs cells slots Q (F0 m pc ls st0) :=
  va_callv (va_runI S hM cw ⟨fun a U f mk q => ⟨q.1, q.2.1, dkK.same (s := U) (U := U.calling f mk a) rfl q.2.2⟩, fun U hU hW9 => ⟨rfl, by rw [hU]; exact hB, dkK.warm hW9 hK⟩⟩ rfl hn hl hst (lv_room hr) hdg hf) hS (fun q _ h => hA q h) (fun q h => hA q h) (fun _ t H1 locs1 ht _ _ hP _ hk hS1 => kk H1 locs1 (by rw [← ht]; exact hP) (fun q h1 h2 => hk q h1 (Nat.not_le.mpr h2)) hS1)
theorem dk_IN (S : CallFix p m c cc nL s args Ts own) (hM : Met l y ws rm (va_Pc (.ref b :: As) (fun U => PH U.heap ∧ dkK g U)) (va_Qv (S := Unit) (fun _ => True) (fun _ t => P t.heap) (dkA b)) mc mS (dkA b)) (cw : va_CN R s args own index y host bytes maxL none ws rm mc mS na ∧ y.name = "<init>" ∧ (Cond.instanceMethod y).before args s = true) (hB : PH H) (hK : dkK g s) (hS : va_S A H0 H locs) (hA : ∀ q : Nat, b ≤ q → A q) (hn : As.length = na) (hl : ls.size = nL) (hst : st0 = As.reverse ++ .ref b :: rest) (hr : (rest.map fun v => v.category).sum ≤ 8) (hdg : decode cc pc = .ok (.invokespecial index, 3)) (hf : cells + mc ≤ R.cells ∧ slots + mS ≤ R.slots)
    (kk : ∀ (H1 : Heap) (locs1 : List Loc), P H1 → (∀ q : Nat, q < H.size → q < b → H1[q]? = H[q]?) → va_S A H0 H1 locs1 → W p l e R s m args below meth c H1 locs1 (cells + mc) (slots + mS) Q (F0 m (pc + 3) ls rest)) : W p l e R s m args below meth c H locs cells slots Q (F0 m pc ls st0) :=
  va_callv (va_runIN S hM cw ⟨fun a U f mk q => ⟨q.1, q.2.1, dkK.same (s := U) (U := U.calling f mk a) rfl q.2.2⟩, fun U hU hW9 => ⟨rfl, by rw [hU]; exact hB, dkK.warm hW9 hK⟩⟩ rfl hn hl hst (lv_room hr) hdg hf) hS (fun q _ h => hA q h) (fun q h => hA q h) (fun _ t H1 locs1 ht _ _ hP _ hk hS1 => kk H1 locs1 (by rw [← ht]; exact hP) (fun q h1 h2 => hk q h1 (Nat.not_le.mpr h2)) hS1)
end DKI
def dkPre (g : dkG) (z k : Nat) (e : va_E) : Heap → Prop := fun H => va_at g.1 vwCl (z + k, e) H ∧ H.size = z + (k + 1)
def dkPost (g : dkG) (z lo hi : Nat) : Heap → Prop := fun H => dkReg g z lo hi H ∧ H.size = z + hi
theorem dk_heap {p : Program} {l : Launch} {e : Env} {R : Room} {s : State} {m : MethodId} {args : Array Value} {below : List Frame} {meth : Method} {c : Code} {H H' : Heap} {locs : List Loc} {cells slots : Nat} {Q : State → Prop} {f : JFrame} (h : H = H') (k : W p l e R s m args below meth c H locs cells slots Q f) : W p l e R s m args below meth c H' locs cells slots Q f := h ▸ k
theorem dk_arr_ext {g : dkG} {c : ClassId} {a n : Nat} {f f' : Nat → Int32} {H : Heap} (h : ∀ j, j < n → f j = f' j) (hat : va_at g.1 vwCl (a, dkArr c n f) H) : va_at g.1 vwCl (a, dkArr c n f') H := by
  have e : vp_cell c (n, .inl f) = vp_cell c (n, .inl f') := by
    rw [vp_cell_i, vp_cell_i]
    unfold arrV
    congr 1
    apply Array.ext
    · simp
    · intro i h1 h2
      have h3 : i < n := by simpa using h1
      simp [h i h3]
  show H[a]? = some (vp_cell c (n, .inl f'))
  rw [← e]
  exact hat
theorem dk_sizes {g : dkG} {z : Nat} {H : Heap} {f : Nat → Int32} (hat : va_at g.1 vwCl (z + 11, dkArr g.2.1 8 f) H) (h : ∀ j, j < 8 → f j = -1) : va_at g.1 vwCl (z + 11, dkC g z 11 (dkI0 11)) H :=
  dk_arr_ext (f' := dkI0 11) (fun j hj => (h j hj).trans rfl) hat
theorem dk_images {g : dkG} {z : Nat} {H : Heap} (hat : va_at g.1 vwCl (z + 36, dkRefs g.2.2.2.1 2 (va_up (va_up (fun _ => none) (Int32.toNatClampNeg 0) (some (z + 37))) (Int32.toNatClampNeg 1) (some (z + 48)))) H) : va_at g.1 vwCl (z + 36, dkC g z 36 (dkI0 36)) H := by
  have e : (va_up (va_up (fun _ => none) (Int32.toNatClampNeg 0) (some (z + 37))) (Int32.toNatClampNeg 1) (some (z + 48))) = (fun i => if i < 2 then some (z + (37 + 11 * i)) else none) := by
    funext i
    match i with
    | 0 => rfl
    | 1 => rfl
    | i + 2 =>
      show (if i + 2 = 1 then _ else if i + 2 = 0 then _ else none) = _
      rw [if_neg (by omega), if_neg (by omega), if_neg (by omega)]
  show va_at g.1 vwCl (z + 36, dkRefs g.2.2.2.1 2 (fun i => if i < 2 then some (z + (37 + 11 * i)) else none)) H
  rw [← e]
  exact hat
theorem dkPost_eq {g : dkG} {z lo hi : Nat} {H H' : Heap} (h : H' = H) (hp : dkPost g z lo hi H) : dkPost g z lo hi H' := by
  rw [h]
  exact hp
theorem dk_kLt {D : va_G} {cl : List vw_C} {z a n : Nat} {e : va_E} {H H1 : Heap} (h : va_at D cl (z + a, e) H) (ho : ∀ q : Nat, q < z + n → H1[q]? = H[q]?) (hl : a < n) : va_at D cl (z + a, e) H1 := h.kept (ho _ (Nat.add_lt_add_left hl z))
theorem dk_kNe {D : va_G} {cl : List vw_C} {z a n : Nat} {e : va_E} {H H1 : Heap} (h : va_at D cl (z + a, e) H) (ho : ∀ q : Nat, q ≠ z + n → H1[q]? = H[q]?) (hl : a ≠ n) : va_at D cl (z + a, e) H1 := h.kept (ho _ (fun q => hl (Nat.add_left_cancel q)))
theorem dk_kCa {D : va_G} {cl : List vw_C} {z a n : Nat} {e : va_E} {H H1 : Heap} (h : va_at D cl (z + a, e) H) (ho : ∀ q : Nat, q < H.size → q < z + n → H1[q]? = H[q]?) (hl : a < n) : va_at D cl (z + a, e) H1 := h.kept (ho _ h.lt (Nat.add_lt_add_left hl z))
theorem dkReg.kLt {g : dkG} {z lo hi n : Nat} {H H1 : Heap} (h : dkReg g z lo hi H) (ho : ∀ q : Nat, q < z + n → H1[q]? = H[q]?) (hl : hi ≤ n) : dkReg g z lo hi H1 := fun k q1 q2 => dk_kLt (h k q1 q2) ho (Nat.lt_of_lt_of_le q2 hl)
theorem dkReg.kNe {g : dkG} {z lo hi n : Nat} {H H1 : Heap} (h : dkReg g z lo hi H) (ho : ∀ q : Nat, q ≠ z + n → H1[q]? = H[q]?) (hl : n < lo ∨ hi ≤ n) : dkReg g z lo hi H1 := fun k q1 q2 => dk_kNe (h k q1 q2) ho (by omega)
theorem dkReg.kCa {g : dkG} {z lo hi n : Nat} {H H1 : Heap} (h : dkReg g z lo hi H) (ho : ∀ q : Nat, q < H.size → q < z + n → H1[q]? = H[q]?) (hl : hi ≤ n) : dkReg g z lo hi H1 := fun k q1 q2 => dk_kCa (h k q1 q2) ho (Nat.lt_of_lt_of_le q2 hl)
theorem dk_A0 {z a : Nat} : ∀ q : Nat, z + a ≤ q → dkA (z + 0) q := fun q h => Nat.le_trans (Nat.le_add_right z a) h
theorem dk_Ale {z a b : Nat} (hl : b ≤ a) : ∀ q : Nat, z + a ≤ q → dkA (z + b) q := fun q h => Nat.le_trans (Nat.add_le_add_left hl z) h
theorem dk_df0 : ∀ j, j < 3 → defaultValue (tyX0 j) = vp_V [.null, .int 0, .int 0] j := by
  intro j hj
  rcases (by omega : j = 0 ∨ j = 1 ∨ j = 2) with rfl | rfl | rfl <;> rfl
theorem dk_df1 : ∀ j, j < 3 → defaultValue (tyX1 j) = vp_V [.null, .null, .int 0] j := by
  intro j hj
  rcases (by omega : j = 0 ∨ j = 1 ∨ j = 2) with rfl | rfl | rfl <;> rfl
theorem dk_df2 : ∀ j, j < 6 → defaultValue (tyX2 j) = vp_V [.null, .int 0, .int 0, .null, .int 0, .int 0] j := by
  intro j hj
  rcases (by omega : j = 0 ∨ j = 1 ∨ j = 2 ∨ j = 3 ∨ j = 4 ∨ j = 5) with rfl | rfl | rfl | rfl | rfl | rfl <;> rfl
theorem dk_df3 : ∀ j, j < 4 → defaultValue (tyX3 j) = vp_V [.null, .null, .int 0, .null] j := by
  intro j hj
  rcases (by omega : j = 0 ∨ j = 1 ∨ j = 2 ∨ j = 3) with rfl | rfl | rfl | rfl <;> rfl
theorem dk_df4 : ∀ j, j < 19 → defaultValue (tyX4 j) = vp_V [.int 0, .int 0, .int 0, .int 0, .int 0, .null, .null, .null, .null, .null, .null, .int 0, .null, .null, .null, .int 0, .int 0, .int 0, .null] j := by
  intro j hj
  rcases (by omega : j = 0 ∨ j = 1 ∨ j = 2 ∨ j = 3 ∨ j = 4 ∨ j = 5 ∨ j = 6 ∨ j = 7 ∨ j = 8 ∨ j = 9 ∨ j = 10 ∨ j = 11 ∨ j = 12 ∨ j = 13 ∨ j = 14 ∨ j = 15 ∨ j = 16 ∨ j = 17 ∨ j = 18) with rfl | rfl | rfl | rfl | rfl | rfl | rfl | rfl | rfl | rfl | rfl | rfl | rfl | rfl | rfl | rfl | rfl | rfl | rfl <;> rfl
theorem dk_df5 : ∀ j, j < 10 → defaultValue (tyX5 j) = vp_V [.null, .null, .null, .int 0, .null, .null, .null, .null, .null, .null] j := by
  intro j hj
  rcases (by omega : j = 0 ∨ j = 1 ∨ j = 2 ∨ j = 3 ∨ j = 4 ∨ j = 5 ∨ j = 6 ∨ j = 7 ∨ j = 8 ∨ j = 9) with rfl | rfl | rfl | rfl | rfl | rfl | rfl | rfl | rfl | rfl <;> rfl
theorem dk_df6 : ∀ j, j < 26 → defaultValue (tyX6 j) = vp_V [.null, .null, .null, .null, .int 0, .null, .int 0, .int 0, .int 0, .int 0, .int 0, .int 0, .int 0, .null, .null, .null, .null, .int 0, .null, .null, .int 0, .int 0, .int 0, .null, .null, .int 0] j := by
  intro j hj
  rcases (by omega : j = 0 ∨ j = 1 ∨ j = 2 ∨ j = 3 ∨ j = 4 ∨ j = 5 ∨ j = 6 ∨ j = 7 ∨ j = 8 ∨ j = 9 ∨ j = 10 ∨ j = 11 ∨ j = 12 ∨ j = 13 ∨ j = 14 ∨ j = 15 ∨ j = 16 ∨ j = 17 ∨ j = 18 ∨ j = 19 ∨ j = 20 ∨ j = 21 ∨ j = 22 ∨ j = 23 ∨ j = 24 ∨ j = 25) with rfl | rfl | rfl | rfl | rfl | rfl | rfl | rfl | rfl | rfl | rfl | rfl | rfl | rfl | rfl | rfl | rfl | rfl | rfl | rfl | rfl | rfl | rfl | rfl | rfl | rfl <;> rfl
