theorem dkc_lt {x y : Int32} (h : x < y) : x.toInt + 1 ≤ y.toInt := by
  have := dk_lt h
  omega
theorem dkc_le {x y : Int32} (h : x ≤ y) : x.toInt + 0 ≤ y.toInt := by
  have := dk_le h
  omega
theorem dkc_nlt {x y : Int32} (h : ¬ x < y) : y.toInt + 0 ≤ x.toInt := by
  have := dk_nlt h
  omega
theorem dkc_nle {x y : Int32} (h : ¬ x ≤ y) : y.toInt + 1 ≤ x.toInt := by
  have := dk_nle h
  omega
theorem dkN_lt {S : dkS} {x : Int32} {B : Int} (hx : dkN S x) (h : dkAll1 S (fun p => decide (p.2 < B)) = true) : x.toInt < B := by
  obtain ⟨p, hp, h1, h2⟩ := hx
  have h9 := of_decide_eq_true (dkAll1_of h hp)
  omega
theorem dkN_out {S : dkS} {x : Int32} {lo hi : Int} (hx : dkN S x) (h : dkAll1 S (fun p => decide (p.2 < lo) || decide (hi < p.1)) = true) : x.toInt < lo ∨ hi < x.toInt := by
  obtain ⟨p, hp, h1, h2⟩ := hx
  have h9 := dkAll1_of h hp
  rw [Bool.or_eq_true] at h9
  rcases h9 with h9 | h9
  · have := of_decide_eq_true h9
    exact Or.inl (by omega)
  · have := of_decide_eq_true h9
    exact Or.inr (by omega)
theorem dkN_01 {S : dkS} {x : Int32} (hx : dkN S x) (h : dkAll1 S (fun p => decide (0 ≤ p.1) && decide (p.2 ≤ 1)) = true) : x = 0 ∨ x = 1 := by
  obtain ⟨p, hp, h1, h2⟩ := hx
  have h9 := dkAll1_of h hp
  rw [Bool.and_eq_true] at h9
  have e1 := of_decide_eq_true h9.1
  have e2 := of_decide_eq_true h9.2
  rcases (by omega : x.toInt = 0 ∨ x.toInt = 1) with q | q
  · exact Or.inl (Int32.toInt_inj.mp (by rw [q]; rfl))
  · exact Or.inr (Int32.toInt_inj.mp (by rw [q]; rfl))
theorem dkN_zr {S : dkS} {x : Int32} (hx : dkN S x) (h : dkAll1 S (fun p => decide (0 ≤ p.1) && decide (p.2 ≤ 1)) = true) : narrow .boolean (.int x) = .int x := by
  rcases dkN_01 hx h with rfl | rfl <;> rfl
theorem dkN_zn {S : dkS} {x : Int32} (hx : dkN S x) (h : dkAll1 S (fun p => decide (0 ≤ p.1) && decide (p.2 ≤ 1)) = true) : vp_nar .boolean x = x := by
  rcases dkN_01 hx h with rfl | rfl <;> rfl
theorem dkN_cut (c c' : Int) (e : c' = c + 1) {a b : Int} {x : Int32} (h : dkN [(a, b)] x) : dkN [(a, c)] x ∨ dkN [(c', b)] x := by
  obtain ⟨p, hp, h1, h2⟩ := h
  rw [List.mem_singleton] at hp
  subst hp
  simp only at h1 h2
  by_cases q : x.toInt ≤ c
  · exact Or.inl ⟨(a, c), List.mem_cons_self, h1, q⟩
  · exact Or.inr ⟨(c', b), List.mem_cons_self, by show c' ≤ _; omega, h2⟩
theorem dkW_eq {g : dkG} {z : Nat} {I : dkI} {H H' : Heap} (h : H' = H) (hW : dkW g z I H) : dkW g z I H' := by
  rw [h]
  exact hW
theorem dk_at0 {g : dkG} {z : Nat} {I : dkI} {H : Heap} (hW : dkW g z I H) : va_at g.1 vwCl (z + 0, dkDK z (I 0)) H := hW 0 (by decide)
theorem dk_at1 {g : dkG} {z : Nat} {I : dkI} {H : Heap} (hW : dkW g z I H) : va_at g.1 vwCl (z + 1, dkRefs g.2.2.2.2 8 (fun i => if i < 8 then some (z + (2 + i)) else none)) H := hW 1 (by decide)
theorem dk_at11 {g : dkG} {z : Nat} {I : dkI} {H : Heap} (hW : dkW g z I H) : va_at g.1 vwCl (z + 11, dkArr g.2.1 8 (I 11)) H := hW 11 (by decide)
theorem dk_at12 {g : dkG} {z : Nat} {I : dkI} {H : Heap} (hW : dkW g z I H) : va_at g.1 vwCl (z + 12, dkReader z (I 12)) H := hW 12 (by decide)
theorem dk_at25 {g : dkG} {z : Nat} {I : dkI} {H : Heap} (hW : dkW g z I H) : va_at g.1 vwCl (z + 25, dkTown z 25 (I 25)) H := hW 25 (by decide)
theorem dk_at36 {g : dkG} {z : Nat} {I : dkI} {H : Heap} (hW : dkW g z I H) : va_at g.1 vwCl (z + 36, dkRefs g.2.2.2.1 2 (fun i => if i < 2 then some (z + (37 + 11 * i)) else none)) H := hW 36 (by decide)
theorem dk_at37 {g : dkG} {z : Nat} {I : dkI} {H : Heap} (hW : dkW g z I H) : va_at g.1 vwCl (z + 37, dkTown z 37 (I 37)) H := hW 37 (by decide)
theorem dk_at48 {g : dkG} {z : Nat} {I : dkI} {H : Heap} (hW : dkW g z I H) : va_at g.1 vwCl (z + 48, dkTown z 48 (I 48)) H := hW 48 (by decide)
theorem dk_at59 {g : dkG} {z : Nat} {I : dkI} {H : Heap} (hW : dkW g z I H) : va_at g.1 vwCl (z + 59, dkActs z (I 59)) H := hW 59 (by decide)
theorem dk_at338 {g : dkG} {z : Nat} {I : dkI} {H : Heap} (hW : dkW g z I H) : va_at g.1 vwCl (z + 338, dkAsks z (I 338)) H := hW 338 (by decide)
theorem dk_at340 {g : dkG} {z : Nat} {I : dkI} {H : Heap} (hW : dkW g z I H) : va_at g.1 vwCl (z + 340, dkModel z (I 340)) H := hW 340 (by decide)
theorem dk_at341 {g : dkG} {z : Nat} {I : dkI} {H : Heap} (hW : dkW g z I H) : va_at g.1 vwCl (z + 341, dkArr g.2.1 8 (I 341)) H := hW 341 (by decide)
theorem dk_at346 {g : dkG} {z : Nat} {I : dkI} {H : Heap} (hW : dkW g z I H) : va_at g.1 vwCl (z + 346, dkArr g.2.1 54 (I 346)) H := hW 346 (by decide)
theorem dk_at351 {g : dkG} {z : Nat} {I : dkI} {H : Heap} (hW : dkW g z I H) : va_at g.1 vwCl (z + 351, dkArr g.2.2.1 2 (I 351)) H := hW 351 (by decide)
theorem iX0_init_0 : ∀ w ∈ wsX00, w ∈ wsX0_init := fun _ h => List.mem_cons_of_mem _ (List.mem_append_left _ (List.mem_append_right _ h))
theorem iX0_init_4 : ∀ w ∈ wsX40, w ∈ wsX0_init := fun _ h => List.mem_cons_of_mem _ (List.mem_append_right _ h)
theorem iX1_begun_1 : ∀ w ∈ wsX10, w ∈ wsX1_begun := fun _ h => List.mem_cons_of_mem _ (List.mem_append_right _ h)
theorem iX1_init_1 : ∀ w ∈ wsX10, w ∈ wsX1_init := fun _ h => List.mem_cons_of_mem _ (List.mem_append_right _ h)
theorem iX2_append_2 : ∀ w ∈ wsX20, w ∈ wsX2_append := fun _ h => List.mem_cons_of_mem _ (List.mem_append_right _ h)
theorem iX2_coming_2 : ∀ w ∈ wsX20, w ∈ wsX2_coming := fun _ h => List.mem_cons_of_mem _ (List.mem_append_right _ h)
theorem iX2_init_2 : ∀ w ∈ wsX20, w ∈ wsX2_init := fun _ h => List.mem_cons_of_mem _ (List.mem_append_left _ (List.mem_append_right _ h))
theorem iX2_init_4 : ∀ w ∈ wsX40, w ∈ wsX2_init := fun _ h => List.mem_cons_of_mem _ (List.mem_append_right _ h)
theorem iX2_isFull_2 : ∀ w ∈ wsX20, w ∈ wsX2_isFull := fun _ h => List.mem_cons_of_mem _ (List.mem_append_right _ h)
theorem iX2_meets_2 : ∀ w ∈ wsX20, w ∈ wsX2_meets := fun _ h => List.mem_cons_of_mem _ (List.mem_append_right _ h)
theorem iX2_reads_2 : ∀ w ∈ wsX20, w ∈ wsX2_reads := fun _ h => List.mem_cons_of_mem _ (List.mem_append_left _ (List.mem_append_right _ h))
theorem iX3_init_3 : ∀ w ∈ wsX30, w ∈ wsX3_init := fun _ h => List.mem_cons_of_mem _ (List.mem_append_right _ h)
theorem iX3_init_4 : ∀ w ∈ wsX40, w ∈ wsX3_init := fun _ h => List.mem_cons_of_mem _ (List.mem_append_left _ (List.mem_append_right _ h))
theorem iX4_allReigns_4 : ∀ w ∈ wsX40, w ∈ wsX4_allReigns := fun _ h => List.mem_cons_of_mem _ (List.mem_append_right _ h)
theorem iX4_init_4 : ∀ w ∈ wsX40, w ∈ wsX4_init := fun _ h => List.mem_cons_of_mem _ (List.mem_append_right _ h)
theorem iX4_stands_4 : ∀ w ∈ wsX40, w ∈ wsX4_stands := fun _ h => List.mem_cons_of_mem _ (List.mem_append_right _ h)
theorem iX5_count_0 : ∀ w ∈ wsX00, w ∈ wsX5_count := fun _ h => List.mem_cons_of_mem _ (List.mem_append_left _ (List.mem_append_right _ h))
theorem iX5_count_2 : ∀ w ∈ wsX20, w ∈ wsX5_count := fun _ h => List.mem_cons_of_mem _ (List.mem_append_right _ h)
theorem iX5_count_4 : ∀ w ∈ wsX40, w ∈ wsX5_count := fun _ h => List.mem_cons_of_mem _ (List.mem_append_left _ (List.mem_append_left _ (List.mem_append_right _ h)))
theorem iX5_count_5 : ∀ w ∈ wsX50, w ∈ wsX5_count := fun _ h => List.mem_cons_of_mem _ (List.mem_append_left _ (List.mem_append_left _ (List.mem_append_left _ (List.mem_append_right _ h))))
theorem iX5_crowned_5 : ∀ w ∈ wsX50, w ∈ wsX5_crowned := fun _ h => List.mem_cons_of_mem _ (List.mem_append_left _ (List.mem_append_left _ (List.mem_append_right _ h)))
theorem iX5_drawn_5 : ∀ w ∈ wsX50, w ∈ wsX5_drawn := fun _ h => List.mem_cons_of_mem _ (List.mem_append_left _ (List.mem_append_left _ (List.mem_append_right _ h)))
theorem iX5_fault_2 : ∀ w ∈ wsX20, w ∈ wsX5_fault := fun _ h => List.mem_cons_of_mem _ (List.mem_append_right _ h)
theorem iX5_fault_5 : ∀ w ∈ wsX50, w ∈ wsX5_fault := fun _ h => List.mem_cons_of_mem _ (List.mem_append_left _ (List.mem_append_right _ h))
theorem iX5_feed_5 : ∀ w ∈ wsX50, w ∈ wsX5_feed := fun _ h => List.mem_cons_of_mem _ (List.mem_append_left _ (List.mem_append_right _ h))
theorem iX5_found_5 : ∀ w ∈ wsX50, w ∈ wsX5_found := fun _ h => List.mem_cons_of_mem _ (List.mem_append_right _ h)
theorem iX5_hangs_5 : ∀ w ∈ wsX50, w ∈ wsX5_hangs := fun _ h => List.mem_cons_of_mem _ (List.mem_append_left _ (List.mem_append_left _ (List.mem_append_right _ h)))
theorem iX5_image_5 : ∀ w ∈ wsX50, w ∈ wsX5_image := fun _ h => List.mem_cons_of_mem _ (List.mem_append_left _ (List.mem_append_right _ h))
theorem iX5_init_0 : ∀ w ∈ wsX00, w ∈ wsX5_init := fun _ h => List.mem_cons_of_mem _ (List.mem_append_left _ (List.mem_append_left _ (List.mem_append_right _ h)))
theorem iX5_init_1 : ∀ w ∈ wsX10, w ∈ wsX5_init := fun _ h => List.mem_cons_of_mem _ (List.mem_append_right _ h)
theorem iX5_init_2 : ∀ w ∈ wsX20, w ∈ wsX5_init := fun _ h => List.mem_cons_of_mem _ (List.mem_append_left _ (List.mem_append_left _ (List.mem_append_left _ (List.mem_append_left _ (List.mem_append_right _ h)))))
theorem iX5_init_3 : ∀ w ∈ wsX30, w ∈ wsX5_init := fun _ h => List.mem_cons_of_mem _ (List.mem_append_left _ (List.mem_append_right _ h))
theorem iX5_init_4 : ∀ w ∈ wsX40, w ∈ wsX5_init := fun _ h => List.mem_cons_of_mem _ (List.mem_append_left _ (List.mem_append_left _ (List.mem_append_left _ (List.mem_append_right _ h))))
theorem iX5_init_5 : ∀ w ∈ wsX50, w ∈ wsX5_init := fun _ h => List.mem_cons_of_mem _ (List.mem_append_left _ (List.mem_append_left _ (List.mem_append_left _ (List.mem_append_left _ (List.mem_append_left _ (List.mem_append_right _ h))))))
theorem iX5_isDog_4 : ∀ w ∈ wsX40, w ∈ wsX5_isDog := fun _ h => List.mem_cons_of_mem _ (List.mem_append_right _ h)
theorem iX5_isDog_5 : ∀ w ∈ wsX50, w ∈ wsX5_isDog := fun _ h => List.mem_cons_of_mem _ (List.mem_append_left _ (List.mem_append_right _ h))
theorem iX5_isMissing_5 : ∀ w ∈ wsX50, w ∈ wsX5_isMissing := fun _ h => List.mem_cons_of_mem _ (List.mem_append_right _ h)
theorem iX5_isPerson_4 : ∀ w ∈ wsX40, w ∈ wsX5_isPerson := fun _ h => List.mem_cons_of_mem _ (List.mem_append_right _ h)
theorem iX5_isPerson_5 : ∀ w ∈ wsX50, w ∈ wsX5_isPerson := fun _ h => List.mem_cons_of_mem _ (List.mem_append_left _ (List.mem_append_right _ h))
theorem iX5_isPlace_4 : ∀ w ∈ wsX40, w ∈ wsX5_isPlace := fun _ h => List.mem_cons_of_mem _ (List.mem_append_right _ h)
theorem iX5_isPlace_5 : ∀ w ∈ wsX50, w ∈ wsX5_isPlace := fun _ h => List.mem_cons_of_mem _ (List.mem_append_left _ (List.mem_append_right _ h))
theorem iX5_minutes_5 : ∀ w ∈ wsX50, w ∈ wsX5_minutes := fun _ h => List.mem_cons_of_mem _ (List.mem_append_left _ (List.mem_append_left _ (List.mem_append_right _ h)))
theorem iX5_nothingFound_5 : ∀ w ∈ wsX50, w ∈ wsX5_nothingFound := fun _ h => List.mem_cons_of_mem _ (List.mem_append_right _ h)
theorem iX5_restore_5 : ∀ w ∈ wsX50, w ∈ wsX5_restore := fun _ h => List.mem_cons_of_mem _ (List.mem_append_left _ (List.mem_append_left _ (List.mem_append_right _ h)))
theorem iX5_row_5 : ∀ w ∈ wsX50, w ∈ wsX5_row := fun _ h => List.mem_cons_of_mem _ (List.mem_append_right _ h)
theorem iX5_status_5 : ∀ w ∈ wsX50, w ∈ wsX5_status := fun _ h => List.mem_cons_of_mem _ (List.mem_append_right _ h)
theorem iX5_town_2 : ∀ w ∈ wsX20, w ∈ wsX5_town := fun _ h => List.mem_cons_of_mem _ (List.mem_append_left _ (List.mem_append_left _ (List.mem_append_right _ h)))
theorem iX5_town_5 : ∀ w ∈ wsX50, w ∈ wsX5_town := fun _ h => List.mem_cons_of_mem _ (List.mem_append_left _ (List.mem_append_left _ (List.mem_append_left _ (List.mem_append_right _ h))))
theorem iX5_trace_5 : ∀ w ∈ wsX50, w ∈ wsX5_trace := fun _ h => List.mem_cons_of_mem _ (List.mem_append_left _ (List.mem_append_right _ h))
theorem iX5_undo_0 : ∀ w ∈ wsX00, w ∈ wsX5_undo := fun _ h => List.mem_cons_of_mem _ (List.mem_append_left _ (List.mem_append_right _ h))
theorem iX5_undo_5 : ∀ w ∈ wsX50, w ∈ wsX5_undo := fun _ h => List.mem_cons_of_mem _ (List.mem_append_left _ (List.mem_append_left _ (List.mem_append_right _ h)))
theorem iX6_advances_6 : ∀ w ∈ wsX60, w ∈ wsX6_advances := fun _ h => List.mem_cons_of_mem _ (List.mem_append_right _ h)
theorem iX6_byteAt_6 : ∀ w ∈ wsX60, w ∈ wsX6_byteAt := fun _ h => List.mem_cons_of_mem _ (List.mem_append_right _ h)
theorem iX6_count_6 : ∀ w ∈ wsX60, w ∈ wsX6_count := fun _ h => List.mem_cons_of_mem _ (List.mem_append_right _ h)
theorem iX6_fault_6 : ∀ w ∈ wsX60, w ∈ wsX6_fault := fun _ h => List.mem_cons_of_mem _ (List.mem_append_right _ h)
theorem iX6_feed_6 : ∀ w ∈ wsX60, w ∈ wsX6_feed := fun _ h => List.mem_cons_of_mem _ (List.mem_append_right _ h)
theorem iX6_figure_6 : ∀ w ∈ wsX60, w ∈ wsX6_figure := fun _ h => List.mem_cons_of_mem _ (List.mem_append_right _ h)
theorem iX6_follows_6 : ∀ w ∈ wsX60, w ∈ wsX6_follows := fun _ h => List.mem_cons_of_mem _ (List.mem_append_right _ h)
theorem iX6_found_6 : ∀ w ∈ wsX60, w ∈ wsX6_found := fun _ h => List.mem_cons_of_mem _ (List.mem_append_right _ h)
theorem iX6_init_6 : ∀ w ∈ wsX60, w ∈ wsX6_init := fun _ h => List.mem_cons_of_mem _ (List.mem_append_right _ h)
theorem iX6_isDog_6 : ∀ w ∈ wsX60, w ∈ wsX6_isDog := fun _ h => List.mem_cons_of_mem _ (List.mem_append_right _ h)
theorem iX6_isMissing_6 : ∀ w ∈ wsX60, w ∈ wsX6_isMissing := fun _ h => List.mem_cons_of_mem _ (List.mem_append_right _ h)
theorem iX6_isPerson_6 : ∀ w ∈ wsX60, w ∈ wsX6_isPerson := fun _ h => List.mem_cons_of_mem _ (List.mem_append_right _ h)
theorem iX6_isStreet_6 : ∀ w ∈ wsX60, w ∈ wsX6_isStreet := fun _ h => List.mem_cons_of_mem _ (List.mem_append_right _ h)
theorem iX6_isTown_6 : ∀ w ∈ wsX60, w ∈ wsX6_isTown := fun _ h => List.mem_cons_of_mem _ (List.mem_append_right _ h)
theorem iX6_isWell_6 : ∀ w ∈ wsX60, w ∈ wsX6_isWell := fun _ h => List.mem_cons_of_mem _ (List.mem_append_right _ h)
theorem iX6_reigns_6 : ∀ w ∈ wsX60, w ∈ wsX6_reigns := fun _ h => List.mem_cons_of_mem _ (List.mem_append_right _ h)
theorem iX6_restore_6 : ∀ w ∈ wsX60, w ∈ wsX6_restore := fun _ h => List.mem_cons_of_mem _ (List.mem_append_right _ h)
theorem iX6_row_6 : ∀ w ∈ wsX60, w ∈ wsX6_row := fun _ h => List.mem_cons_of_mem _ (List.mem_append_right _ h)
theorem iX6_status_6 : ∀ w ∈ wsX60, w ∈ wsX6_status := fun _ h => List.mem_cons_of_mem _ (List.mem_append_right _ h)
theorem iX6_takes_6 : ∀ w ∈ wsX60, w ∈ wsX6_takes := fun _ h => List.mem_cons_of_mem _ (List.mem_append_right _ h)
theorem iX6_town_6 : ∀ w ∈ wsX60, w ∈ wsX6_town := fun _ h => List.mem_cons_of_mem _ (List.mem_append_right _ h)
theorem iX6_trace_6 : ∀ w ∈ wsX60, w ∈ wsX6_trace := fun _ h => List.mem_cons_of_mem _ (List.mem_append_right _ h)
theorem iX6_undo_6 : ∀ w ∈ wsX60, w ∈ wsX6_undo := fun _ h => List.mem_cons_of_mem _ (List.mem_append_right _ h)
theorem iX6_well_6 : ∀ w ∈ wsX60, w ∈ wsX6_well := fun _ h => List.mem_cons_of_mem _ (List.mem_append_right _ h)
