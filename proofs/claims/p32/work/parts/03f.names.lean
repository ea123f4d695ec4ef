theorem dL_isKept_92 : decode cL_isKept 92 = .ok (.ishr, 1) := by decide +kernel
theorem dL_isKept_93 : decode cL_isKept 93 = .ok (.iconst 1, 1) := by decide +kernel
theorem dL_isKept_94 : decode cL_isKept 94 = .ok (.iand, 1) := by decide +kernel
theorem dL_isKept_95 : decode cL_isKept 95 = .ok (.iconst 1, 1) := by decide +kernel
theorem dL_isKept_96 : decode cL_isKept 96 = .ok (.if_icmp .ne 21, 3) := by decide +kernel
theorem dL_isKept_99 : decode cL_isKept 99 = .ok (.aload_n 0, 1) := by decide +kernel
theorem dL_isKept_100 : decode cL_isKept 100 = .ok (.iload_n 2, 1) := by decide +kernel
theorem dL_isKept_101 : decode cL_isKept 101 = .ok (.iconst 0, 1) := by decide +kernel
theorem dL_isKept_102 : decode cL_isKept 102 = .ok (.invokevirtual 25, 3) := by decide +kernel
theorem dL_isKept_105 : decode cL_isKept 105 = .ok (.iload_n 3, 1) := by decide +kernel
theorem dL_isKept_106 : decode cL_isKept 106 = .ok (.ishr, 1) := by decide +kernel
theorem dL_isKept_107 : decode cL_isKept 107 = .ok (.iconst 1, 1) := by decide +kernel
theorem dL_isKept_108 : decode cL_isKept 108 = .ok (.iand, 1) := by decide +kernel
theorem dL_isKept_109 : decode cL_isKept 109 = .ok (.iconst 1, 1) := by decide +kernel
theorem dL_isKept_110 : decode cL_isKept 110 = .ok (.if_icmp .ne 7, 3) := by decide +kernel
theorem dL_isKept_113 : decode cL_isKept 113 = .ok (.iconst 1, 1) := by decide +kernel
theorem dL_isKept_114 : decode cL_isKept 114 = .ok (.goto 4, 3) := by decide +kernel
theorem dL_isKept_117 : decode cL_isKept 117 = .ok (.iconst 0, 1) := by decide +kernel
theorem dL_isKept_118 : decode cL_isKept 118 = .ok (.istore 6, 2) := by decide +kernel
theorem dL_isKept_120 : decode cL_isKept 120 = .ok (.iconst 0, 1) := by decide +kernel
theorem dL_isKept_121 : decode cL_isKept 121 = .ok (.istore 8, 2) := by decide +kernel
theorem dL_isKept_123 : decode cL_isKept 123 = .ok (.iload 8, 2) := by decide +kernel
theorem dL_isKept_125 : decode cL_isKept 125 = .ok (.bipush 6, 2) := by decide +kernel
theorem dL_isKept_127 : decode cL_isKept 127 = .ok (.if_icmp .ge 32, 3) := by decide +kernel
theorem dL_isKept_130 : decode cL_isKept 130 = .ok (.iload 6, 2) := by decide +kernel
theorem dL_isKept_132 : decode cL_isKept 132 = .ok (.ifCond .eq 27, 3) := by decide +kernel
theorem dL_isKept_135 : decode cL_isKept 135 = .ok (.aload_n 0, 1) := by decide +kernel
theorem dL_isKept_136 : decode cL_isKept 136 = .ok (.invokevirtual 108, 3) := by decide +kernel
theorem dL_isKept_139 : decode cL_isKept 139 = .ok (.iconst 5, 1) := by decide +kernel
theorem dL_isKept_140 : decode cL_isKept 140 = .ok (.iload 8, 2) := by decide +kernel
theorem dL_isKept_142 : decode cL_isKept 142 = .ok (.isub, 1) := by decide +kernel
theorem dL_isKept_143 : decode cL_isKept 143 = .ok (.if_icmp .ne 7, 3) := by decide +kernel
theorem dL_isKept_146 : decode cL_isKept 146 = .ok (.iconst 1, 1) := by decide +kernel
theorem dL_isKept_147 : decode cL_isKept 147 = .ok (.goto 4, 3) := by decide +kernel
theorem dL_isKept_150 : decode cL_isKept 150 = .ok (.iconst 0, 1) := by decide +kernel
theorem dL_isKept_151 : decode cL_isKept 151 = .ok (.istore 6, 2) := by decide +kernel
theorem dL_isKept_153 : decode cL_isKept 153 = .ok (.iinc 8 1, 3) := by decide +kernel
theorem dL_isKept_156 : decode cL_isKept 156 = .ok (.goto (-33), 3) := by decide +kernel
theorem dL_isKept_159 : decode cL_isKept 159 = .ok (.iload 6, 2) := by decide +kernel
theorem dL_isKept_161 : decode cL_isKept 161 = .ok (.ifCond .eq 17, 3) := by decide +kernel
theorem dL_isKept_164 : decode cL_isKept 164 = .ok (.aload_n 0, 1) := by decide +kernel
theorem dL_isKept_165 : decode cL_isKept 165 = .ok (.invokestatic 104, 3) := by decide +kernel
theorem dL_isKept_168 : decode cL_isKept 168 = .ok (.lload 4, 2) := by decide +kernel
theorem dL_isKept_170 : decode cL_isKept 170 = .ok (.lcmp, 1) := by decide +kernel
theorem dL_isKept_171 : decode cL_isKept 171 = .ok (.ifCond .ne 7, 3) := by decide +kernel
theorem dL_isKept_174 : decode cL_isKept 174 = .ok (.iconst 1, 1) := by decide +kernel
theorem dL_isKept_175 : decode cL_isKept 175 = .ok (.goto 4, 3) := by decide +kernel
theorem dL_isKept_178 : decode cL_isKept 178 = .ok (.iconst 0, 1) := by decide +kernel
theorem dL_isKept_179 : decode cL_isKept 179 = .ok (.ireturn, 1) := by decide +kernel
set_option maxRecDepth 20000 in
theorem ggL_law_X3_init : GoodIn wsL_law wsX3_init := goodIn_r _ [5, 6, 7, 8, 9, 10, 11, 12, 13, 14, 15, 16, 17, 18, 19, 20, 21, 22, 23, 24, 25, 26, 27, 28, 29, 30, 31, 32, 33, 34, 35, 36, 37, 38, 39, 40, 41, 42, 43, 44, 45, 46, 47, 48, 345, 346, 347, 348, 349, 350, 342, 343, 344, 351, 352, 353, 354, 355, 356, 357, 358, 359, 360] (by decide +kernel) (by decide +kernel)
set_option maxRecDepth 20000 in
theorem gL_law_X3_init : GoodIn wsL_law (wsX3_init) := ggL_law_X3_init
set_option maxRecDepth 20000 in
theorem ggL_law_L_holds : GoodIn wsL_law wsL_holds := goodIn_ca (goodIn_r _ [52, 53, 54, 55, 56, 57, 2, 58, 12, 59, 60, 61, 62, 63, 64, 65, 66, 67, 68, 69, 70, 11, 71, 28, 72, 73, 74, 75, 76, 77, 78, 79, 80, 81, 82, 83, 84, 85, 86, 87, 88, 89, 90, 91, 92, 93, 94, 95, 25, 96, 97, 98, 99, 100, 101, 102, 103, 104, 105, 106, 107, 108, 109, 110, 111, 26, 27, 112, 113, 114, 115, 116, 117, 118, 119, 120, 121, 122, 123, 124, 125, 126, 127, 128, 129, 130, 131, 132, 133, 134, 135, 136, 137, 138, 139, 140, 141, 142, 51, 143, 144, 145, 146, 147, 148, 149, 150, 151, 152, 153, 154, 155, 156, 157, 158, 159, 160, 161, 162, 163, 164, 165, 166, 167, 168, 169, 170, 171, 172, 173, 174, 175, 176, 177, 178, 342, 343, 344, 345, 346, 347, 348, 349, 350] rfl (by decide +kernel)) (goodIn_sub (fun _ h => List.mem_append_left _ (List.mem_append_left _ (List.mem_append_right _ h))) (by decide +kernel))
set_option maxRecDepth 20000 in
theorem gL_law_L_holds : GoodIn wsL_law (va_wsS RL 113 yL_holds wsL_holds) := goodIn_app (goodIn_of _ (by decide +kernel)) ggL_law_L_holds
