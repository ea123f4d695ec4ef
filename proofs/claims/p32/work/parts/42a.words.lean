theorem my_in {big : List Cond} (ws : List Cond) (ps : List Nat) (h : ws = ps.filterMap (fun i => big[i]?)) : ∀ w ∈ ws, w ∈ big := by
  intro w hw
  rw [h] at hw
  obtain ⟨i, -, hi⟩ := List.mem_filterMap.mp hw
  exact List.mem_of_getElem? hi
set_option maxRecDepth 20000 in
theorem wsL_law0_r1_in : ∀ w ∈ wsL_law0_r1, w ∈ lw_tbl := my_in _ [24, 25, 12, 26, 27, 28, 29, 30, 31, 32, 33, 13, 108, 60, 61, 14, 109, 79, 80, 15, 110, 35, 36, 37] rfl
set_option maxRecDepth 20000 in
theorem wsL_law0_r2_in : ∀ w ∈ wsL_law0_r2, w ∈ lw_tbl := my_in _ [59, 38, 39, 40, 41, 42, 44, 63, 64, 65, 66, 68, 69, 70, 82, 83, 84, 107, 85, 86, 87, 88, 89, 90] rfl
set_option maxRecDepth 20000 in
theorem wsL_law0_r3_in : ∀ w ∈ wsL_law0_r3, w ∈ lw_tbl := my_in _ [91, 500, 501, 11, 502, 507, 508, 369, 370, 371, 372, 249, 250, 251, 252, 19, 373, 374, 375, 376, 377, 147, 148, 149] rfl
set_option maxRecDepth 20000 in
theorem wsL_law0_r4_in : ∀ w ∈ wsL_law0_r4, w ∈ lw_tbl := my_in _ [343, 344, 345, 346, 311, 312, 313, 348, 349, 350, 351, 286, 287, 288, 283, 284, 285, 280, 281, 282, 352, 354, 5, 355] rfl
set_option maxRecDepth 20000 in
theorem wsL_law0_r5_in : ∀ w ∈ wsL_law0_r5, w ∈ lw_tbl := my_in _ [466, 467, 468, 469, 470, 471, 472, 473, 307, 308, 309, 310, 315, 316, 317, 318, 319, 320, 321, 322, 323, 324, 325, 326] rfl
