set_option maxRecDepth 20000 in
theorem hp1 : k2_sels lw_privs_1 = (List.range' 0 16).map awW := rfl
set_option maxRecDepth 20000 in
theorem hp2 : k2_sels lw_privs_2 = (List.range' 16 16).map awW := rfl
set_option maxRecDepth 20000 in
theorem hp3 : k2_sels lw_privs_3 = (List.range' 32 16).map awW := rfl
set_option maxRecDepth 20000 in
theorem hp4 : k2_sels lw_privs_4 = (List.range' 48 16).map awW := rfl
set_option maxRecDepth 20000 in
theorem hp5 : k2_sels lw_privs_5 = (List.range' 64 6).map awW := rfl
set_option maxRecDepth 20000 in
theorem ht1 : tables_1_1 = (List.range' 70 240).map awW := rfl
set_option maxRecDepth 20000 in
theorem ht2 : tables_1_2 = (List.range' 310 240).map awW := rfl
set_option maxRecDepth 20000 in
theorem ht3 : tables_1_3 = (List.range' 550 240).map awW := rfl
set_option maxRecDepth 20000 in
theorem ht4 : tables_1_4 = (List.range' 790 240).map awW := rfl
set_option maxRecDepth 20000 in
theorem ht5 : tables_1_5 = (List.range' 1030 228).map awW := rfl
theorem awTbl : ∀ i, i < 1258 → awW i ∈ lw_tbl := by
  have h : k2_sels lw_privs = k2_sels lw_privs_1 ++ (k2_sels lw_privs_2 ++ (k2_sels lw_privs_3 ++ (k2_sels lw_privs_4 ++ (k2_sels lw_privs_5)))) := by unfold lw_privs k2_sels; simp only [List.map_append]
  unfold lw_tbl
  rw [h]
  exact fun i hi => (memOr_rng (a := 0) (b := 70) (memOr_rng (memOf_rng hp1) (memOr_rng (memOf_rng hp2) (memOr_rng (memOf_rng hp3) (memOr_rng (memOf_rng hp4) (memOf_rng hp5))))) (memOr_rng (memOf_rng ht1) (memOr_rng (memOf_rng ht2) (memOr_rng (memOf_rng ht3) (memOr_rng (memOf_rng ht4) (memOf_rng ht5)))))) i (Nat.zero_le i) hi
theorem wsL_law_in : ∀ w ∈ wsL_law, w ∈ lw_tbl := memIn_ids _ iaL_law awTbl haL_law (by decide +kernel)
theorem inlX0 : ∀ w ∈ wsX00, w ∈ wsL_law := fun _ h => List.mem_append_left _ (List.mem_append_left _ (List.mem_append_left _ (List.mem_append_right _ h)))
theorem inX0 : ∀ w ∈ wsX00, w ∈ lw_tbl := fun w h => wsL_law_in w (inlX0 w h)
theorem inlX1 : ∀ w ∈ wsX10, w ∈ wsL_law := fun _ h => List.mem_append_left _ (List.mem_append_right _ h)
theorem inX1 : ∀ w ∈ wsX10, w ∈ lw_tbl := fun w h => wsL_law_in w (inlX1 w h)
theorem inlX2 : ∀ w ∈ wsX20, w ∈ wsL_law := fun _ h => List.mem_append_left _ (List.mem_append_left _ (List.mem_append_left _ (List.mem_append_left _ (List.mem_append_left _ (List.mem_append_right _ h)))))
theorem inX2 : ∀ w ∈ wsX20, w ∈ lw_tbl := fun w h => wsL_law_in w (inlX2 w h)
theorem inlX3 : ∀ w ∈ wsX30, w ∈ wsL_law := fun _ h => List.mem_append_left _ (List.mem_append_left _ (List.mem_append_right _ h))
theorem inX3 : ∀ w ∈ wsX30, w ∈ lw_tbl := fun w h => wsL_law_in w (inlX3 w h)
theorem inlX4 : ∀ w ∈ wsX40, w ∈ wsL_law := fun _ h => List.mem_append_left _ (List.mem_append_left _ (List.mem_append_left _ (List.mem_append_left _ (List.mem_append_right _ h))))
theorem inX4 : ∀ w ∈ wsX40, w ∈ lw_tbl := fun w h => wsL_law_in w (inlX4 w h)
theorem inlX5 : ∀ w ∈ wsX50, w ∈ wsL_law := fun _ h => List.mem_append_left _ (List.mem_append_left _ (List.mem_append_left _ (List.mem_append_left _ (List.mem_append_left _ (List.mem_append_left _ (List.mem_append_left _ (List.mem_append_right _ h)))))))
theorem inX5 : ∀ w ∈ wsX50, w ∈ lw_tbl := fun w h => wsL_law_in w (inlX5 w h)
theorem inlX6 : ∀ w ∈ wsX60, w ∈ wsL_law := fun _ h => List.mem_append_left _ (List.mem_append_left _ (List.mem_append_left _ (List.mem_append_left _ (List.mem_append_left _ (List.mem_append_left _ (List.mem_append_right _ h))))))
theorem inX6 : ∀ w ∈ wsX60, w ∈ lw_tbl := fun w h => wsL_law_in w (inlX6 w h)
theorem inJ6 : ∀ w ∈ wsJ60, w ∈ lw_tbl := by decide +kernel
theorem inJ9 : ∀ w ∈ wsJ90, w ∈ lw_tbl := by decide +kernel
theorem inJ10 : ∀ w ∈ wsJ100, w ∈ lw_tbl := by decide +kernel
