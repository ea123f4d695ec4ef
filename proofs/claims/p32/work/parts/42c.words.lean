set_option maxRecDepth 20000 in
theorem wsL_law0_r10_in : ∀ w ∈ wsL_law0_r10, w ∈ lw_tbl := my_in _ [151, 152, 153, 154, 156, 1, 157, 496, 497, 498, 499, 122, 123, 124, 125, 127, 128, 129, 130, 131, 133, 132, 22, 134] rfl
set_option maxRecDepth 20000 in
theorem wsL_law0_r11_in : ∀ w ∈ wsL_law0_r11, w ∈ lw_tbl := my_in _ [135, 136, 137, 138, 150, 158, 160, 2, 161, 162, 164, 3, 165, 398, 399, 400, 401, 402, 403, 404, 405, 406, 409, 410] rfl
set_option maxRecDepth 20000 in
theorem wsL_law0_r12_in : ∀ w ∈ wsL_law0_r12, w ∈ lw_tbl := my_in _ [411, 412, 413, 415, 7, 416, 417, 418, 420, 8, 421, 422, 424, 9, 425, 426, 428, 10, 429, 430, 431, 432, 433, 434] rfl
