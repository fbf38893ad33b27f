/-! CONTRACTS over the whole world, and calls -/
def dkSz : Nat → Value := fun j => match j with | 0 => .int 10 | 1 => .int 11 | 2 => .int 12 | 3 => .int 11 | 4 => .int 13 | _ => .int 14
def dkMk : Nat → Value := fun j => match j with | 0 => .int 20 | 1 => .int 21 | 2 => .int 24 | 3 => .int 22 | 4 => .int 23 | _ => .int 23
/-- the two static tables, which nobody writes -/
def dkSA (n : String) (f : Nat → Value) (z : Nat) (U : State) : Prop := ∃ a : Nat, va_Z "DogKings$Asks" n "[I" (.ref a) (dkA z) U U.heap ∧ va_T .int a 6 f (dkA z) U U.heap
def dkST (z : Nat) (U : State) : Prop := dkSA "SIZE_BODY" dkSz z U ∧ dkSA "MARK_BODY" dkMk z U
theorem dkSA.kept {n : String} {f : Nat → Value} {z : Nat} {s U : State} (h : dkSA n f z s) (hvm : s.vm.Alike U.vm) (hq : ∀ a : Nat, a < s.heap.size → ¬ dkA z a → U.heap[a]? = s.heap[a]?) : dkSA n f z U := by
  obtain ⟨a, h1, h2⟩ := h
  exact ⟨a, (h1.moved hvm).kept hq, (h2.moved hvm).kept hq⟩
theorem dkST.kept {z : Nat} {s U : State} (h : dkST z s) (hvm : s.vm.Alike U.vm) (hq : ∀ a : Nat, a < s.heap.size → ¬ dkA z a → U.heap[a]? = s.heap[a]?) : dkST z U := ⟨h.1.kept hvm hq, h.2.kept hvm hq⟩
def dkPc (g : dkG) (z : Nat) (av : List Value) (I : dkI) : Array Value → State → Prop := va_Pc av (fun U => dkW g z I U.heap ∧ dkK g U ∧ dkST z U)
abbrev dkQi (g : dkG) (z : Nat) (post : Int32 → dkI → Prop) : Array Value → State → Outcome → State → Prop := va_Qi (S := dkI) post (fun I' t => dkW g z I' t.heap) (dkA z)
abbrev dkQl (g : dkG) (z : Nat) (post : Int64 → dkI → Prop) : Array Value → State → Outcome → State → Prop := va_Ql (S := dkI) post (fun I' t => dkW g z I' t.heap) (dkA z)
abbrev dkQv (g : dkG) (z : Nat) (post : dkI → Prop) : Array Value → State → Outcome → State → Prop := va_Qv (S := dkI) post (fun I' t => dkW g z I' t.heap) (dkA z)
abbrev dkR (n : Nat) : Room := { frames := n, cells := 0, slots := 0, locals := 48 * n }
theorem dk_blind {g : dkG} {z : Nat} {av : List Value} {I : dkI} : FrameBlind (dkPc g z av I) := fun a U f mk q => ⟨q.1, q.2.1, dkK.same (s := U) (U := U.calling f mk a) rfl q.2.2.1, q.2.2.2.kept (U := U.calling f mk a) (Vm.Alike.refl U.vm) (fun _ _ _ => rfl)⟩
/-- what a method may change: cells from .. to, of them the ints from .. to -/
abbrev dkM : Type := List (Nat × Nat × Nat × Nat)
def dkIn (ms : dkM) (k j : Nat) : Bool := ms.any fun q => decide (q.1 ≤ k) && decide (k ≤ q.2.1) && decide (q.2.2.1 ≤ j) && decide (j ≤ q.2.2.2)
def dkSubM (ns ms : dkM) : Bool := ns.all fun q => ms.any fun r => decide (r.1 ≤ q.1) && decide (q.2.1 ≤ r.2.1) && decide (r.2.2.1 ≤ q.2.2.1) && decide (q.2.2.2 ≤ r.2.2.2)
def dkF (ms : dkM) (I I' : dkI) : Prop := ∀ k j, dkIn ms k j = false → I' k j = I k j
theorem dkF_rf (ms : dkM) (I : dkI) : dkF ms I I := fun _ _ _ => rfl
theorem dkF_set {ms : dkM} {I I1 I2 : dkI} {k j : Nat} {v : Int32} (h : dkF ms I I1) (e : I2 = dkU I1 k j v) (hk : dkIn ms k j = true) : dkF ms I I2 := by
  intro k' j' h'
  subst e
  by_cases h1 : k' = k
  · subst h1
    by_cases h2 : j' = j
    · subst h2
      rw [hk] at h'
      cases h'
    · rw [dkU_sn h2]
      exact h k' j' h'
  · rw [dkU_n h1]
    exact h k' j' h'
theorem dkIn_sub {ms ns : dkM} {k j : Nat} (h : dkIn ns k j = true) (hs : dkSubM ns ms = true) : dkIn ms k j = true := by
  obtain ⟨q, hq, h5⟩ := List.any_eq_true.mp h
  rw [Bool.and_eq_true, Bool.and_eq_true, Bool.and_eq_true] at h5
  have e1 := of_decide_eq_true h5.1.1.1
  have e2 := of_decide_eq_true h5.1.1.2
  have e5 := of_decide_eq_true h5.1.2
  have e6 := of_decide_eq_true h5.2
  obtain ⟨r, hr, h6⟩ := List.any_eq_true.mp (List.all_eq_true.mp hs q hq)
  rw [Bool.and_eq_true, Bool.and_eq_true, Bool.and_eq_true] at h6
  have e3 := of_decide_eq_true h6.1.1.1
  have e4 := of_decide_eq_true h6.1.1.2
  have e7 := of_decide_eq_true h6.1.2
  have e8 := of_decide_eq_true h6.2
  refine List.any_eq_true.mpr ⟨r, hr, ?_⟩
  rw [Bool.and_eq_true, Bool.and_eq_true, Bool.and_eq_true]
  exact ⟨⟨⟨decide_eq_true (by omega), decide_eq_true (by omega)⟩, decide_eq_true (by omega)⟩, decide_eq_true (by omega)⟩
theorem dkF_call {ms ns : dkM} {I I1 I2 : dkI} (h : dkF ms I I1) (h2 : dkF ns I1 I2) (hs : dkSubM ns ms = true) : dkF ms I I2 := by
  intro k j hk
  have h3 : dkIn ns k j = false := by
    rw [← Bool.not_eq_true]
    intro h4
    rw [dkIn_sub h4 hs] at hk
    cases hk
  rw [h2 k j h3, h k j hk]
theorem dkF_mono {ms ns : dkM} {I I1 : dkI} (h : dkF ns I I1) (hs : dkSubM ns ms = true) : dkF ms I I1 := dkF_call (dkF_rf ms I) h hs
theorem dkSubM_rf (ms : dkM) : dkSubM ms ms = true := by
  refine List.all_eq_true.mpr fun q hq => List.any_eq_true.mpr ⟨q, hq, ?_⟩
  simp
theorem dk_clt (i : Int32) : i.toNatClampNeg ≤ 2147483647 := by
  have h1 : i.toNatClampNeg = i.toInt.toNat := rfl
  have := Int32.toInt_lt i
  omega
/-- at an index of known range, in a fixed cell -/
theorem dkIn_v {ms : dkM} {k : Nat} {i : Int32} {S : dkS} (hi : dkN S i) (h : dkAll1 S (fun p => decide (0 ≤ p.1) && ms.any fun q => decide (q.1 ≤ k) && decide (k ≤ q.2.1) && decide ((q.2.2.1 : Int) ≤ p.1) && decide (p.2 ≤ (q.2.2.2 : Int))) = true) : dkIn ms k i.toNatClampNeg = true := by
  obtain ⟨p, hp, h1, h2⟩ := hi
  have h9 := dkAll1_of h hp
  rw [Bool.and_eq_true] at h9
  have e0 := of_decide_eq_true h9.1
  obtain ⟨q, hq, h5⟩ := List.any_eq_true.mp h9.2
  rw [Bool.and_eq_true, Bool.and_eq_true, Bool.and_eq_true] at h5
  have e5 := of_decide_eq_true h5.1.2
  have e6 := of_decide_eq_true h5.2
  have h7 : i.toNatClampNeg = i.toInt.toNat := rfl
  refine List.any_eq_true.mpr ⟨q, hq, ?_⟩
  rw [Bool.and_eq_true, Bool.and_eq_true, Bool.and_eq_true]
  exact ⟨⟨h5.1.1, decide_eq_true (by omega)⟩, decide_eq_true (by omega)⟩
/-- in a cell of a Town or a row that is known by name -/
theorem dkIn_T {ms : dkM} {t c j w : Nat} (hc : c ≤ w) (hj : j ≤ 2147483647) : dkIn ((t, t + w, 0, 2147483647) :: ms) (t + c) j = true := by
  unfold dkIn
  rw [List.any_cons, Bool.or_eq_true]
  left
  simp
  omega
/-- a Town's cells among those of a range -/
theorem dkF_hull {ms : dkM} {a b lo hi : Nat} {I I1 I2 : dkI} (h : dkF ms I I1) (h2 : dkF [(a, b, 0, 2147483647)] I1 I2) (h3 : lo ≤ a) (h4 : b ≤ hi) (hs : dkSubM [(lo, hi, 0, 2147483647)] ms = true) : dkF ms I I2 := by
  refine dkF_call h (dkF_mono (ms := [(lo, hi, 0, 2147483647)]) h2 ?_) hs
  simp [dkSubM]
  omega
section DKC
variable {p : Program} {l : Launch} {e : Env} {R : Room} {s : State} {m : MethodId} {args : Array Value} {below : List Frame} {meth : Method} {c : Code} {H : Heap} {locs : List Loc} {cells slots : Nat} {Q : State → Prop}
variable {cc : ByteArray} {pc : Nat} {ls : Array Slot} {rest st0 As : List Value} {g : dkG} {z : Nat} {I : dkI} {H0 : Heap}
variable {y : MethodName} {bytes : ByteArray} {maxL nL n na index k ci : Nat} {ret : Option FieldType} {ws : List Cond} {own C : String} {T : u_T} {N : Nat} {Ts : List Cond} {fs : List Value}
theorem dk_Vi {post : Int32 → dkI → Prop} (S : CallFix p m c cc nL s args Ts own) (hM : Met l y ws (dkR n) (dkPc g z (.ref (z + k) :: As) I) (dkQi g z post) 0 0 (dkA z)) (cw : CallW R s args own C index y bytes maxL ret ws (dkR n) 0 0 na) (hat : va_at g.1 vwCl (z + k, .inr (ci, fs)) H) (hc : vwCl[ci]? = some (C, T, N)) (hK : dkK g s) (hT : dkST z s) (hW : dkW g z I H) (hS : va_S (dkA z) s.heap H locs) (hn : As.length = na) (hl : ls.size = nL) (hst : st0 = As.reverse ++ .ref (z + k) :: rest) (hr : (rest.map fun v => v.category).sum ≤ 8) (hdg : decode cc pc = .ok (.invokevirtual index, 3)) (hf : cells + 0 ≤ R.cells ∧ slots + 0 ≤ R.slots)
    (kk : ∀ (r : Int32) (I1 : dkI) (H1 : Heap) (locs1 : List Loc), post r I1 → dkW g z I1 H1 → va_S (dkA z) s.heap H1 locs1 → W p l e R s m args below meth c H1 locs1 cells slots Q (F0 m (pc + 3) ls (.int r :: rest))) : W p l e R s m args below meth c H locs cells slots Q (F0 m pc ls st0) :=
  va_calli (va_runV S hM cw ⟨dk_blind, dk_recv hK hat hc, fun U hU hW9 => ⟨rfl, by rw [hU]; exact hW, dkK.warm hW9 hK, hT.kept hW9.alike (fun a h1 h2 => by rw [hU]; exact hS.2.1 a h1 h2)⟩⟩ rfl hn hl hst (lv_room hr) hdg hf) hS (fun q _ h => h) (fun q h => h) (fun r u t H1 locs1 ht _ hp hB _ _ hS1 => kk r u H1 locs1 hp (by rw [← ht]; exact hB) hS1)
theorem dk_Vl {post : Int64 → dkI → Prop} (S : CallFix p m c cc nL s args Ts own) (hM : Met l y ws (dkR n) (dkPc g z (.ref (z + k) :: As) I) (dkQl g z post) 0 0 (dkA z)) (cw : CallW R s args own C index y bytes maxL ret ws (dkR n) 0 0 na) (hat : va_at g.1 vwCl (z + k, .inr (ci, fs)) H) (hc : vwCl[ci]? = some (C, T, N)) (hK : dkK g s) (hT : dkST z s) (hW : dkW g z I H) (hS : va_S (dkA z) s.heap H locs) (hn : As.length = na) (hl : ls.size = nL) (hst : st0 = As.reverse ++ .ref (z + k) :: rest) (hr : (rest.map fun v => v.category).sum ≤ 8) (hdg : decode cc pc = .ok (.invokevirtual index, 3)) (hf : cells + 0 ≤ R.cells ∧ slots + 0 ≤ R.slots)
    (kk : ∀ (r : Int64) (I1 : dkI) (H1 : Heap) (locs1 : List Loc), post r I1 → dkW g z I1 H1 → va_S (dkA z) s.heap H1 locs1 → W p l e R s m args below meth c H1 locs1 cells slots Q (F0 m (pc + 3) ls (.long r :: rest))) : W p l e R s m args below meth c H locs cells slots Q (F0 m pc ls st0) :=
  va_calll (va_runV S hM cw ⟨dk_blind, dk_recv hK hat hc, fun U hU hW9 => ⟨rfl, by rw [hU]; exact hW, dkK.warm hW9 hK, hT.kept hW9.alike (fun a h1 h2 => by rw [hU]; exact hS.2.1 a h1 h2)⟩⟩ rfl hn hl hst (lv_room hr) hdg hf) hS (fun q _ h => h) (fun q h => h) (fun r u t H1 locs1 ht _ hp hB _ _ hS1 => kk r u H1 locs1 hp (by rw [← ht]; exact hB) hS1)
theorem dk_Vv {post : dkI → Prop} (S : CallFix p m c cc nL s args Ts own) (hM : Met l y ws (dkR n) (dkPc g z (.ref (z + k) :: As) I) (dkQv g z post) 0 0 (dkA z)) (cw : CallW R s args own C index y bytes maxL ret ws (dkR n) 0 0 na) (hat : va_at g.1 vwCl (z + k, .inr (ci, fs)) H) (hc : vwCl[ci]? = some (C, T, N)) (hK : dkK g s) (hT : dkST z s) (hW : dkW g z I H) (hS : va_S (dkA z) s.heap H locs) (hn : As.length = na) (hl : ls.size = nL) (hst : st0 = As.reverse ++ .ref (z + k) :: rest) (hr : (rest.map fun v => v.category).sum ≤ 8) (hdg : decode cc pc = .ok (.invokevirtual index, 3)) (hf : cells + 0 ≤ R.cells ∧ slots + 0 ≤ R.slots)
    (kk : ∀ (I1 : dkI) (H1 : Heap) (locs1 : List Loc), post I1 → dkW g z I1 H1 → va_S (dkA z) s.heap H1 locs1 → W p l e R s m args below meth c H1 locs1 cells slots Q (F0 m (pc + 3) ls rest)) : W p l e R s m args below meth c H locs cells slots Q (F0 m pc ls st0) :=
  va_callv (va_runV S hM cw ⟨dk_blind, dk_recv hK hat hc, fun U hU hW9 => ⟨rfl, by rw [hU]; exact hW, dkK.warm hW9 hK, hT.kept hW9.alike (fun a h1 h2 => by rw [hU]; exact hS.2.1 a h1 h2)⟩⟩ rfl hn hl hst (lv_room hr) hdg hf) hS (fun q _ h => h) (fun q h => h) (fun u t H1 locs1 ht _ hp hB _ _ hS1 => kk u H1 locs1 hp (by rw [← ht]; exact hB) hS1)
theorem dk_Si {post : Int32 → dkI → Prop} (S : CallFix p m c cc nL s args Ts own) (hM : Met l y ws (dkR n) (dkPc g z As I) (dkQi g z post) 0 0 (dkA z)) (cw : CallB R s args own index y bytes maxL ret ws (dkR n) 0 0 na ∧ (Cond.static y).before args s = true) (hK : dkK g s) (hT : dkST z s) (hW : dkW g z I H) (hS : va_S (dkA z) s.heap H locs) (hn : As.length = na) (hl : ls.size = nL) (hst : st0 = As.reverse ++ rest) (hr : (rest.map fun v => v.category).sum ≤ 8) (hdg : decode cc pc = .ok (.invokestatic index, 3)) (hf : cells + 0 ≤ R.cells ∧ slots + 0 ≤ R.slots)
    (kk : ∀ (r : Int32) (I1 : dkI) (H1 : Heap) (locs1 : List Loc), post r I1 → dkW g z I1 H1 → va_S (dkA z) s.heap H1 locs1 → W p l e R s m args below meth c H1 locs1 cells slots Q (F0 m (pc + 3) ls (.int r :: rest))) : W p l e R s m args below meth c H locs cells slots Q (F0 m pc ls st0) :=
  va_calli (va_runS S hM cw ⟨dk_blind, fun U hU hW9 => ⟨rfl, by rw [hU]; exact hW, dkK.warm hW9 hK, hT.kept hW9.alike (fun a h1 h2 => by rw [hU]; exact hS.2.1 a h1 h2)⟩⟩ rfl hn hl hst (lv_room hr) hdg hf) hS (fun q _ h => h) (fun q h => h) (fun r u t H1 locs1 ht _ hp hB _ _ hS1 => kk r u H1 locs1 hp (by rw [← ht]; exact hB) hS1)
theorem dk_Sv {post : dkI → Prop} (S : CallFix p m c cc nL s args Ts own) (hM : Met l y ws (dkR n) (dkPc g z As I) (dkQv g z post) 0 0 (dkA z)) (cw : CallB R s args own index y bytes maxL ret ws (dkR n) 0 0 na ∧ (Cond.static y).before args s = true) (hK : dkK g s) (hT : dkST z s) (hW : dkW g z I H) (hS : va_S (dkA z) s.heap H locs) (hn : As.length = na) (hl : ls.size = nL) (hst : st0 = As.reverse ++ rest) (hr : (rest.map fun v => v.category).sum ≤ 8) (hdg : decode cc pc = .ok (.invokestatic index, 3)) (hf : cells + 0 ≤ R.cells ∧ slots + 0 ≤ R.slots)
    (kk : ∀ (I1 : dkI) (H1 : Heap) (locs1 : List Loc), post I1 → dkW g z I1 H1 → va_S (dkA z) s.heap H1 locs1 → W p l e R s m args below meth c H1 locs1 cells slots Q (F0 m (pc + 3) ls rest)) : W p l e R s m args below meth c H locs cells slots Q (F0 m pc ls st0) :=
  va_callv (va_runS S hM cw ⟨dk_blind, fun U hU hW9 => ⟨rfl, by rw [hU]; exact hW, dkK.warm hW9 hK, hT.kept hW9.alike (fun a h1 h2 => by rw [hU]; exact hS.2.1 a h1 h2)⟩⟩ rfl hn hl hst (lv_room hr) hdg hf) hS (fun q _ h => h) (fun q h => h) (fun u t H1 locs1 ht _ hp hB _ _ hS1 => kk u H1 locs1 hp (by rw [← ht]; exact hB) hS1)
theorem dk_SiN {host : String} {post : Int32 → dkI → Prop} (S : CallFix p m c cc nL s args Ts own) (hM : Met l y ws (dkR n) (dkPc g z As I) (dkQi g z post) 0 0 (dkA z)) (cw : va_CN R s args own index y host bytes maxL ret ws (dkR n) 0 0 na ∧ (Cond.static y).before args s = true ∧ True) (hK : dkK g s) (hT : dkST z s) (hW : dkW g z I H) (hS : va_S (dkA z) s.heap H locs) (hn : As.length = na) (hl : ls.size = nL) (hst : st0 = As.reverse ++ rest) (hr : (rest.map fun v => v.category).sum ≤ 8) (hdg : decode cc pc = .ok (.invokestatic index, 3)) (hf : cells + 0 ≤ R.cells ∧ slots + 0 ≤ R.slots)
    (kk : ∀ (r : Int32) (I1 : dkI) (H1 : Heap) (locs1 : List Loc), post r I1 → dkW g z I1 H1 → va_S (dkA z) s.heap H1 locs1 → W p l e R s m args below meth c H1 locs1 cells slots Q (F0 m (pc + 3) ls (.int r :: rest))) : W p l e R s m args below meth c H locs cells slots Q (F0 m pc ls st0) :=
  va_calli (va_runSN S hM cw ⟨dk_blind, fun U hU hW9 => ⟨rfl, by rw [hU]; exact hW, dkK.warm hW9 hK, hT.kept hW9.alike (fun a h1 h2 => by rw [hU]; exact hS.2.1 a h1 h2)⟩⟩ rfl hn hl hst (lv_room hr) hdg hf) hS (fun q _ h => h) (fun q h => h) (fun r u t H1 locs1 ht _ hp hB _ _ hS1 => kk r u H1 locs1 hp (by rw [← ht]; exact hB) hS1)
theorem dk_ViN {host : String} {post : Int32 → dkI → Prop} (S : CallFix p m c cc nL s args Ts own) (hM : Met l y ws (dkR n) (dkPc g z (.ref (z + k) :: As) I) (dkQi g z post) 0 0 (dkA z)) (cw : va_CN R s args own index y host bytes maxL ret ws (dkR n) 0 0 na ∧ (Cond.instanceMethod y).before args s = true ∧ (Cond.selects C y y).before args s = true) (hat : va_at g.1 vwCl (z + k, .inr (ci, fs)) H) (hc : vwCl[ci]? = some (C, T, N)) (hK : dkK g s) (hT : dkST z s) (hW : dkW g z I H) (hS : va_S (dkA z) s.heap H locs) (hn : As.length = na) (hl : ls.size = nL) (hst : st0 = As.reverse ++ .ref (z + k) :: rest) (hr : (rest.map fun v => v.category).sum ≤ 8) (hdg : decode cc pc = .ok (.invokevirtual index, 3)) (hf : cells + 0 ≤ R.cells ∧ slots + 0 ≤ R.slots)
    (kk : ∀ (r : Int32) (I1 : dkI) (H1 : Heap) (locs1 : List Loc), post r I1 → dkW g z I1 H1 → va_S (dkA z) s.heap H1 locs1 → W p l e R s m args below meth c H1 locs1 cells slots Q (F0 m (pc + 3) ls (.int r :: rest))) : W p l e R s m args below meth c H locs cells slots Q (F0 m pc ls st0) :=
  va_calli (va_runVN S hM cw ⟨dk_blind, dk_recv hK hat hc, fun U hU hW9 => ⟨rfl, by rw [hU]; exact hW, dkK.warm hW9 hK, hT.kept hW9.alike (fun a h1 h2 => by rw [hU]; exact hS.2.1 a h1 h2)⟩⟩ rfl hn hl hst (lv_room hr) hdg hf) hS (fun q _ h => h) (fun q h => h) (fun r u t H1 locs1 ht _ hp hB _ _ hS1 => kk r u H1 locs1 hp (by rw [← ht]; exact hB) hS1)
/-- new int[n][k]: the outer array at the heap's end, the inner ones behind it -/
theorem dk_mna (hexec : p.tables.exec = Jvm.exec) (hb : c.code = cc) {A : Nat → Prop} (hown : s.vm.findClass own = some m.cls) (hclink : (Cond.classLink own index ("[" ++ (FieldType.array .int).toString)).before args s = true) (harr : (Cond.arrayClass .int).before args s = true) (hK : dkK g s) (hS : va_S A H0 H locs) {h : Nat} (hh : H.size = h) {x w : Int32} {N' K' : Nat} (hn : ¬ x < 0) (hk : ¬ w < 0) (hN : x.toNatClampNeg = N') (hM : w.toNatClampNeg = K') (hb1 : N' * 4 ≤ 536870912) (hb2 : K' * 4 ≤ 536870912) (hcells : cells + (1 + N') ≤ R.cells) (hslots : slots + (N' + N' * K') ≤ R.slots) (hdg : decode cc pc = .ok (.multianewarray index 2, 4)) (hA : ∀ q : Nat, H0.size ≤ q → A q)
    (kk : ∀ (H1 : Heap) (locs1 : List Loc), va_at g.1 vwCl (h, dkRefs g.2.2.2.2 N' (fun i => if i < N' then some (h + 1 + i) else none)) H1 → (∀ j : Nat, j < N' → va_at g.1 vwCl (h + 1 + j, dkArr g.2.1 K' (fun _ => 0)) H1) → (∀ q : Nat, q < h → H1[q]? = H[q]?) → H1.size = h + 1 + N' → va_S A H0 H1 locs1 →
      W p l e R s m args below meth c H1 locs1 (cells + 1 + N') (slots + N' + N' * K') Q (F0 m (pc + 4) ls (.ref h :: rest))) : W p l e R s m args below meth c H locs cells slots Q (F0 m pc ls (.int w :: .int x :: rest)) := by
  subst hN
  subst hM
  subst hh
  intro T hT Xs
  obtain ⟨vm₁, cA, comp, -, fA, fC, hO, -, X', step⟩ := Xs.multianewarray2F hexec hown hclink (show (Cond.arrayOver (.array .int)).before args s = true from hK.2.2.2) harr (g := F0 m pc ls (.int w :: .int x :: rest)) rfl (by rw [hb]; exact hdg) rfl hn hk hb1 hb2 (by omega) rfl rfl hcells hslots
  have ec : g.2.1 = comp := Option.some.inj (((hK.1.2 0 _ rfl).2).symm.trans fC)
  have eA : g.2.2.2.2 = cA := Option.some.inj (((hK.1.2 3 _ rfl).2).symm.trans fA)
  subst ec
  subst eA
  generalize hF : Jvm.Free.Multi.fill (T.setVm vm₁) g.2.2.2.2 g.2.1 x.toNatClampNeg w.toNatClampNeg (defaultValue .int) x.toNatClampNeg = F at X' step
  have hTh : (T.setVm vm₁).heap = H := hT
  obtain ⟨f1, f2, -, -⟩ := Jvm.Free.Multi.fill_facts (T.setVm vm₁) g.2.2.2.2 g.2.1 x.toNatClampNeg w.toNatClampNeg (defaultValue .int) x.toNatClampNeg
  rw [hF, hTh] at f1 f2
  have hold : ∀ q : Nat, q < H.size → F.heap[q]? = H[q]? := fun q hq => by
    have := Jvm.Free.Multi.fill_old (T.setVm vm₁) g.2.2.2.2 g.2.1 x.toNatClampNeg w.toNatClampNeg (defaultValue .int) (a := q) (by rw [hTh]; exact hq) x.toNatClampNeg
    rw [hF, hTh] at this
    exact this
  have hrow : ∀ j : Nat, j < x.toNatClampNeg → va_at g.1 vwCl (H.size + 1 + j, dkArr g.2.1 w.toNatClampNeg (fun _ => 0)) F.heap := fun j hj => by
    have := Jvm.Free.Multi.fill_inner (T.setVm vm₁) g.2.2.2.2 g.2.1 x.toNatClampNeg w.toNatClampNeg (defaultValue .int) x.toNatClampNeg j hj
    rw [hF, hTh] at this
    show F.heap[_]? = some (vp_cell _ _)
    rw [this, vp_cell_i, ← arrV_new]
    rfl
  rw [vr_outer] at f2
  have e9 : T.heap.size = H.size := by rw [hT]
  obtain ⟨t, a1, b1⟩ := kk F.heap _ f2 hrow hold f1 ⟨by rw [f1]; have := hS.1; omega, fun q h1 h2 => (hold q (Nat.lt_of_lt_of_le h1 hS.1)).trans (hS.2.1 q h1 h2), hS.2.2⟩ F rfl X'
  refine ⟨t, step t ?_, b1⟩
  rw [e9]
  exact a1
end DKC
