set_option maxRecDepth 20000 in
theorem ggL_law_X3_undo : GoodIn wsL_law wsX3_undo := goodIn_ca (goodIn_r _ [328, 329, 330, 16, 12, 331, 332, 333, 15, 334, 37, 35, 36, 231, 232, 233, 11, 234, 25, 235, 236, 237, 238, 26, 27, 28, 29, 30, 342, 343, 344, 351, 352, 353, 345, 346, 347, 348, 349, 350] (by decide +kernel) (by decide +kernel)) (goodIn_sub (fun _ h => List.mem_append_right _ h) (by decide +kernel))
set_option maxRecDepth 20000 in
theorem gL_law_X3_undo : GoodIn wsL_law (wsV RL 108 RX3 yX3_undo wsX3_undo) := goodIn_app (goodIn_of _ (by decide +kernel)) ggL_law_X3_undo
