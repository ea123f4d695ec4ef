set_option maxRecDepth 20000 in
theorem ggL_law_X3_agreement : GoodIn wsL_law wsX3_agreement := goodIn_r _ [173, 12, 174, 175, 176, 177, 11, 178, 25, 89, 90, 91, 86, 87, 88, 83, 84, 85, 342, 343, 344, 345, 346, 347, 348, 349, 350] (by decide +kernel) (by decide +kernel)
set_option maxRecDepth 20000 in
theorem gL_law_X3_agreement : GoodIn wsL_law (wsV RL 96 RX3 yX3_agreement wsX3_agreement) := goodIn_app (goodIn_of _ (by decide +kernel)) ggL_law_X3_agreement
set_option maxRecDepth 20000 in
theorem ggL_law_L_cell : GoodIn wsL_law wsL_cell := goodIn_r _ [181, 182] (by decide +kernel) (by decide +kernel)
set_option maxRecDepth 20000 in
theorem gL_law_L_cell : GoodIn wsL_law (va_wsS RL 117 yL_cell wsL_cell) := goodIn_app (goodIn_of _ (by decide +kernel)) ggL_law_L_cell
set_option maxRecDepth 20000 in
theorem ggL_law_L_up : GoodIn wsL_law wsL_up := goodIn_r _ [185, 186] (by decide +kernel) (by decide +kernel)
set_option maxRecDepth 20000 in
theorem gL_law_L_up : GoodIn wsL_law (va_wsS RL 53 yL_up wsL_up) := goodIn_app (goodIn_of _ (by decide +kernel)) ggL_law_L_up
set_option maxRecDepth 20000 in
theorem ggL_law_L_told : GoodIn wsL_law wsL_told := goodIn_ca (goodIn_ca (goodIn_r _ [189, 190, 145, 141, 142, 51, 143, 144, 104, 105, 106, 2, 107, 12, 59, 60, 61, 62, 63, 76, 77, 78, 108, 109, 110, 11, 111, 25, 26, 27, 83, 84, 85, 86, 87, 88, 89, 90, 91, 112, 113, 114, 115, 116, 117, 118, 119, 120, 121, 122, 123, 146, 147, 148, 149, 150, 151, 152, 153, 124, 125, 126, 127, 128, 129, 130, 131, 72, 73, 74, 75, 79, 80, 81, 82, 92, 93, 94, 95, 154, 155, 156, 157, 158, 159, 160, 161, 162, 163, 164, 165, 55, 56, 57, 58, 64, 65, 66, 67, 68, 69, 70, 71, 28, 191, 192, 193, 194, 195, 196, 342, 343, 344, 345, 346, 347, 348, 349, 350] (by decide +kernel) (by decide +kernel)) (goodIn_sub (fun _ h => List.mem_append_left _ (List.mem_append_left _ (List.mem_append_right _ h))) (by decide +kernel))) (goodIn_sub (fun _ h => List.mem_append_left _ (List.mem_append_right _ h)) (by decide +kernel))
set_option maxRecDepth 20000 in
theorem gL_law_L_told : GoodIn wsL_law (va_wsS RL 104 yL_told wsL_told) := goodIn_app (goodIn_of _ (by decide +kernel)) ggL_law_L_told
