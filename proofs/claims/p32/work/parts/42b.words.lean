set_option maxRecDepth 20000 in
theorem wsL_law0_r6_in : ∀ w ∈ wsL_law0_r6, w ∈ lw_tbl := my_in _ [166, 167, 20, 168, 335, 336, 337, 338, 339, 340, 341, 342, 245, 246, 247, 248, 268, 269, 270, 271, 146, 303, 304, 305] rfl
set_option maxRecDepth 20000 in
theorem wsL_law0_r7_in : ∀ w ∈ wsL_law0_r7, w ∈ lw_tbl := my_in _ [306, 302, 327, 328, 329, 330, 331, 332, 333, 334, 356, 357, 358, 359, 361, 362, 363, 364, 365, 367, 6, 368, 503, 504] rfl
set_option maxRecDepth 20000 in
theorem wsL_law0_r8_in : ∀ w ∈ wsL_law0_r8, w ∈ lw_tbl := my_in _ [505, 506, 272, 273, 274, 275, 289, 276, 277, 278, 279, 290, 291, 292, 293, 294, 295, 296, 297, 298, 299, 300, 301, 378] rfl
set_option maxRecDepth 20000 in
theorem wsL_law0_r9_in : ∀ w ∈ wsL_law0_r9, w ∈ lw_tbl := my_in _ [379, 380, 381, 382, 21, 482, 483, 484, 485, 486, 487, 488, 489, 490, 491, 494, 139, 140, 141, 142, 144, 0, 145, 495] rfl
