theorem dX3_sibling_4 : decode cX3_sibling 4 = .ok (.iload_n 2, 1) := by decide +kernel
theorem dX3_sibling_5 : decode cX3_sibling 5 = .ok (.invokestatic 34, 3) := by decide +kernel
theorem dX3_sibling_8 : decode cX3_sibling 8 = .ok (.iload_n 3, 1) := by decide +kernel
theorem dX3_sibling_9 : decode cX3_sibling 9 = .ok (.ifCond .ge 13, 3) := by decide +kernel
theorem dX3_sibling_12 : decode cX3_sibling 12 = .ok (.new 37, 3) := by decide +kernel
theorem dX3_sibling_15 : decode cX3_sibling 15 = .ok (.dup, 1) := by decide +kernel
theorem dX3_sibling_16 : decode cX3_sibling 16 = .ok (.ldc 129, 2) := by decide +kernel
theorem dX3_sibling_18 : decode cX3_sibling 18 = .ok (.invokespecial 41, 3) := by decide +kernel
theorem dX3_sibling_21 : decode cX3_sibling 21 = .ok (.athrow, 1) := by decide +kernel
theorem dX3_sibling_22 : decode cX3_sibling 22 = .ok (.aload_n 0, 1) := by decide +kernel
theorem dX3_sibling_23 : decode cX3_sibling 23 = .ok (.getfield 10, 3) := by decide +kernel
theorem dX3_sibling_26 : decode cX3_sibling 26 = .ok (.iload_n 1, 1) := by decide +kernel
theorem dX3_sibling_27 : decode cX3_sibling 27 = .ok (.iload_n 2, 1) := by decide +kernel
theorem dX3_sibling_28 : decode cX3_sibling 28 = .ok (.iload_n 3, 1) := by decide +kernel
theorem dX3_sibling_29 : decode cX3_sibling 29 = .ok (.invokevirtual 131, 3) := by decide +kernel
theorem dX3_sibling_32 : decode cX3_sibling 32 = .ok (.ireturn, 1) := by decide +kernel
set_option maxRecDepth 20000 in
theorem ggX3_greatest_X3_checkReplica : GoodIn wsX3_greatest wsX3_checkReplica := goodIn_ca (goodIn_r _ [5, 6, 7] (by decide +kernel) (by decide +kernel)) (goodIn_sub (fun _ h => List.mem_cons_of_mem _ (List.mem_append_right _ h)) (by decide +kernel))
set_option maxRecDepth 20000 in
theorem gX3_greatest_X3_checkReplica : GoodIn wsX3_greatest (va_wsS RX3 30 yX3_checkReplica wsX3_checkReplica) := goodIn_app (goodIn_of _ (by decide +kernel)) ggX3_greatest_X3_checkReplica
set_option maxRecDepth 20000 in
theorem ggX3_greatest_X3_checkRow : GoodIn wsX3_greatest wsX3_checkRow := goodIn_ca (goodIn_r _ [10, 6, 7] (by decide +kernel) (by decide +kernel)) (goodIn_sub (fun _ h => List.mem_cons_of_mem _ (List.mem_append_right _ h)) (by decide +kernel))
set_option maxRecDepth 20000 in
theorem gX3_greatest_X3_checkRow : GoodIn wsX3_greatest (va_wsS RX3 34 yX3_checkRow wsX3_checkRow) := goodIn_app (goodIn_of _ (by decide +kernel)) ggX3_greatest_X3_checkRow
set_option maxRecDepth 20000 in
theorem ggX3_greatest_X1_greatestValue : GoodIn wsX3_greatest wsX1_greatestValue := goodIn_r _ [15, 16, 17, 18, 19, 20, 21, 22, 23, 14, 24, 25, 26, 27, 28, 29, 30, 34, 35, 36, 37, 38, 39] (by decide +kernel) (by decide +kernel)
set_option maxRecDepth 20000 in
theorem gX3_greatest_X1_greatestValue : GoodIn wsX3_greatest (wsV RX3 134 RX1 yX1_greatestValue wsX1_greatestValue) := goodIn_app (goodIn_of _ (by decide +kernel)) ggX3_greatest_X1_greatestValue
theorem dX3_greatest_0 : decode cX3_greatest 0 = .ok (.iload_n 1, 1) := by decide +kernel
theorem dX3_greatest_1 : decode cX3_greatest 1 = .ok (.invokestatic 30, 3) := by decide +kernel
theorem dX3_greatest_4 : decode cX3_greatest 4 = .ok (.iload_n 2, 1) := by decide +kernel
theorem dX3_greatest_5 : decode cX3_greatest 5 = .ok (.invokestatic 34, 3) := by decide +kernel
theorem dX3_greatest_8 : decode cX3_greatest 8 = .ok (.aload_n 0, 1) := by decide +kernel
theorem dX3_greatest_9 : decode cX3_greatest 9 = .ok (.getfield 10, 3) := by decide +kernel
theorem dX3_greatest_12 : decode cX3_greatest 12 = .ok (.iload_n 1, 1) := by decide +kernel
theorem dX3_greatest_13 : decode cX3_greatest 13 = .ok (.iload_n 2, 1) := by decide +kernel
theorem dX3_greatest_14 : decode cX3_greatest 14 = .ok (.invokevirtual 134, 3) := by decide +kernel
theorem dX3_greatest_17 : decode cX3_greatest 17 = .ok (.ireturn, 1) := by decide +kernel
set_option maxRecDepth 20000 in
theorem ggX3_counter_X3_checkReplica : GoodIn wsX3_counter wsX3_checkReplica := goodIn_ca (goodIn_r _ [5, 6, 7] (by decide +kernel) (by decide +kernel)) (goodIn_sub (fun _ h => List.mem_cons_of_mem _ (List.mem_append_right _ h)) (by decide +kernel))
set_option maxRecDepth 20000 in
theorem gX3_counter_X3_checkReplica : GoodIn wsX3_counter (va_wsS RX3 30 yX3_checkReplica wsX3_checkReplica) := goodIn_app (goodIn_of _ (by decide +kernel)) ggX3_counter_X3_checkReplica
set_option maxRecDepth 20000 in
theorem ggX3_counter_X3_checkRow : GoodIn wsX3_counter wsX3_checkRow := goodIn_ca (goodIn_r _ [10, 6, 7] (by decide +kernel) (by decide +kernel)) (goodIn_sub (fun _ h => List.mem_cons_of_mem _ (List.mem_append_right _ h)) (by decide +kernel))
set_option maxRecDepth 20000 in
theorem gX3_counter_X3_checkRow : GoodIn wsX3_counter (va_wsS RX3 34 yX3_checkRow wsX3_checkRow) := goodIn_app (goodIn_of _ (by decide +kernel)) ggX3_counter_X3_checkRow
set_option maxRecDepth 20000 in
theorem ggX3_counter_X1_sumOfCell : GoodIn wsX3_counter wsX1_sumOfCell := goodIn_r _ [15, 16, 17, 18, 19, 14, 20, 21, 22, 23, 24, 25, 26, 30, 31, 32, 33, 34, 35] (by decide +kernel) (by decide +kernel)
set_option maxRecDepth 20000 in
theorem gX3_counter_X1_sumOfCell : GoodIn wsX3_counter (wsV RX3 63 RX1 yX1_sumOfCell wsX1_sumOfCell) := goodIn_app (goodIn_of _ (by decide +kernel)) ggX3_counter_X1_sumOfCell
theorem dX3_counter_0 : decode cX3_counter 0 = .ok (.iload_n 1, 1) := by decide +kernel
theorem dX3_counter_1 : decode cX3_counter 1 = .ok (.invokestatic 30, 3) := by decide +kernel
theorem dX3_counter_4 : decode cX3_counter 4 = .ok (.iload_n 2, 1) := by decide +kernel
theorem dX3_counter_5 : decode cX3_counter 5 = .ok (.invokestatic 34, 3) := by decide +kernel
theorem dX3_counter_8 : decode cX3_counter 8 = .ok (.aload_n 0, 1) := by decide +kernel
theorem dX3_counter_9 : decode cX3_counter 9 = .ok (.getfield 10, 3) := by decide +kernel
theorem dX3_counter_12 : decode cX3_counter 12 = .ok (.iload_n 1, 1) := by decide +kernel
theorem dX3_counter_13 : decode cX3_counter 13 = .ok (.iload_n 2, 1) := by decide +kernel
theorem dX3_counter_14 : decode cX3_counter 14 = .ok (.iconst 3, 1) := by decide +kernel
theorem dX3_counter_15 : decode cX3_counter 15 = .ok (.invokevirtual 63, 3) := by decide +kernel
theorem dX3_counter_18 : decode cX3_counter 18 = .ok (.ireturn, 1) := by decide +kernel
set_option maxRecDepth 20000 in
theorem ggX3_elements_X3_checkReplica : GoodIn wsX3_elements wsX3_checkReplica := goodIn_ca (goodIn_r _ [5, 6, 7] (by decide +kernel) (by decide +kernel)) (goodIn_sub (fun _ h => List.mem_cons_of_mem _ (List.mem_append_right _ h)) (by decide +kernel))
set_option maxRecDepth 20000 in
theorem gX3_elements_X3_checkReplica : GoodIn wsX3_elements (va_wsS RX3 30 yX3_checkReplica wsX3_checkReplica) := goodIn_app (goodIn_of _ (by decide +kernel)) ggX3_elements_X3_checkReplica
set_option maxRecDepth 20000 in
theorem ggX3_elements_X3_checkRow : GoodIn wsX3_elements wsX3_checkRow := goodIn_ca (goodIn_r _ [10, 6, 7] (by decide +kernel) (by decide +kernel)) (goodIn_sub (fun _ h => List.mem_cons_of_mem _ (List.mem_append_right _ h)) (by decide +kernel))
set_option maxRecDepth 20000 in
theorem gX3_elements_X3_checkRow : GoodIn wsX3_elements (va_wsS RX3 34 yX3_checkRow wsX3_checkRow) := goodIn_app (goodIn_of _ (by decide +kernel)) ggX3_elements_X3_checkRow
set_option maxRecDepth 20000 in
theorem ggX3_elements_X1_elementBits : GoodIn wsX3_elements wsX1_elementBits := goodIn_r _ [15, 16, 17, 18, 19, 14, 20, 21, 22, 23, 24, 25, 26, 30, 31, 32, 33, 34, 35] (by decide +kernel) (by decide +kernel)
set_option maxRecDepth 20000 in
theorem gX3_elements_X1_elementBits : GoodIn wsX3_elements (wsV RX3 137 RX1 yX1_elementBits wsX1_elementBits) := goodIn_app (goodIn_of _ (by decide +kernel)) ggX3_elements_X1_elementBits
theorem dX3_elements_0 : decode cX3_elements 0 = .ok (.iload_n 1, 1) := by decide +kernel
theorem dX3_elements_1 : decode cX3_elements 1 = .ok (.invokestatic 30, 3) := by decide +kernel
theorem dX3_elements_4 : decode cX3_elements 4 = .ok (.iload_n 2, 1) := by decide +kernel
theorem dX3_elements_5 : decode cX3_elements 5 = .ok (.invokestatic 34, 3) := by decide +kernel
theorem dX3_elements_8 : decode cX3_elements 8 = .ok (.aload_n 0, 1) := by decide +kernel
theorem dX3_elements_9 : decode cX3_elements 9 = .ok (.getfield 10, 3) := by decide +kernel
theorem dX3_elements_12 : decode cX3_elements 12 = .ok (.iload_n 1, 1) := by decide +kernel
theorem dX3_elements_13 : decode cX3_elements 13 = .ok (.iload_n 2, 1) := by decide +kernel
theorem dX3_elements_14 : decode cX3_elements 14 = .ok (.invokevirtual 137, 3) := by decide +kernel
theorem dX3_elements_17 : decode cX3_elements 17 = .ok (.ireturn, 1) := by decide +kernel
set_option maxRecDepth 20000 in
theorem ggX3_entries_X3_checkReplica : GoodIn wsX3_entries wsX3_checkReplica := goodIn_ca (goodIn_r _ [7, 1, 2] (by decide +kernel) (by decide +kernel)) (goodIn_sub (fun _ h => List.mem_cons_of_mem _ (List.mem_append_right _ h)) (by decide +kernel))
set_option maxRecDepth 20000 in
theorem gX3_entries_X3_checkReplica : GoodIn wsX3_entries (va_wsS RX3 30 yX3_checkReplica wsX3_checkReplica) := goodIn_app (goodIn_of _ (by decide +kernel)) ggX3_entries_X3_checkReplica
set_option maxRecDepth 20000 in
theorem ggX3_entries_X3_checkRow : GoodIn wsX3_entries wsX3_checkRow := goodIn_ca (goodIn_r _ [10, 1, 2] (by decide +kernel) (by decide +kernel)) (goodIn_sub (fun _ h => List.mem_cons_of_mem _ (List.mem_append_right _ h)) (by decide +kernel))
set_option maxRecDepth 20000 in
theorem gX3_entries_X3_checkRow : GoodIn wsX3_entries (va_wsS RX3 34 yX3_checkRow wsX3_checkRow) := goodIn_app (goodIn_of _ (by decide +kernel)) ggX3_entries_X3_checkRow
set_option maxRecDepth 20000 in
theorem ggX3_entries_X1_countInCell : GoodIn wsX3_entries wsX1_countInCell := goodIn_r _ [15, 16, 17, 14, 18, 19, 20, 21, 22, 23, 24, 25, 26, 27, 28, 29, 33, 34, 35, 36, 37, 38] (by decide +kernel) (by decide +kernel)
set_option maxRecDepth 20000 in
theorem gX3_entries_X1_countInCell : GoodIn wsX3_entries (wsV RX3 142 RX1 yX1_countInCell wsX1_countInCell) := goodIn_app (goodIn_of _ (by decide +kernel)) ggX3_entries_X1_countInCell
theorem dX3_entries_0 : decode cX3_entries 0 = .ok (.iload_n 1, 1) := by decide +kernel
theorem dX3_entries_1 : decode cX3_entries 1 = .ok (.invokestatic 30, 3) := by decide +kernel
theorem dX3_entries_4 : decode cX3_entries 4 = .ok (.iload_n 2, 1) := by decide +kernel
theorem dX3_entries_5 : decode cX3_entries 5 = .ok (.invokestatic 34, 3) := by decide +kernel
theorem dX3_entries_8 : decode cX3_entries 8 = .ok (.iload_n 3, 1) := by decide +kernel
theorem dX3_entries_9 : decode cX3_entries 9 = .ok (.ifCond .lt 8, 3) := by decide +kernel
theorem dX3_entries_12 : decode cX3_entries 12 = .ok (.iload_n 3, 1) := by decide +kernel
theorem dX3_entries_13 : decode cX3_entries 13 = .ok (.iconst 5, 1) := by decide +kernel
theorem dX3_entries_14 : decode cX3_entries 14 = .ok (.if_icmp .lt 13, 3) := by decide +kernel
theorem dX3_entries_17 : decode cX3_entries 17 = .ok (.new 37, 3) := by decide +kernel
theorem dX3_entries_20 : decode cX3_entries 20 = .ok (.dup, 1) := by decide +kernel
theorem dX3_entries_21 : decode cX3_entries 21 = .ok (.ldc 140, 2) := by decide +kernel
theorem dX3_entries_23 : decode cX3_entries 23 = .ok (.invokespecial 41, 3) := by decide +kernel
theorem dX3_entries_26 : decode cX3_entries 26 = .ok (.athrow, 1) := by decide +kernel
theorem dX3_entries_27 : decode cX3_entries 27 = .ok (.aload_n 0, 1) := by decide +kernel
theorem dX3_entries_28 : decode cX3_entries 28 = .ok (.getfield 10, 3) := by decide +kernel
theorem dX3_entries_31 : decode cX3_entries 31 = .ok (.iload_n 1, 1) := by decide +kernel
theorem dX3_entries_32 : decode cX3_entries 32 = .ok (.iload_n 2, 1) := by decide +kernel
theorem dX3_entries_33 : decode cX3_entries 33 = .ok (.iload_n 3, 1) := by decide +kernel
theorem dX3_entries_34 : decode cX3_entries 34 = .ok (.invokevirtual 142, 3) := by decide +kernel
theorem dX3_entries_37 : decode cX3_entries 37 = .ok (.ireturn, 1) := by decide +kernel
set_option maxRecDepth 20000 in
theorem ggX3_exists_X3_checkReplica : GoodIn wsX3_exists wsX3_checkReplica := goodIn_ca (goodIn_r _ [5, 6, 7] (by decide +kernel) (by decide +kernel)) (goodIn_sub (fun _ h => List.mem_cons_of_mem _ (List.mem_append_right _ h)) (by decide +kernel))
set_option maxRecDepth 20000 in
theorem gX3_exists_X3_checkReplica : GoodIn wsX3_exists (va_wsS RX3 30 yX3_checkReplica wsX3_checkReplica) := goodIn_app (goodIn_of _ (by decide +kernel)) ggX3_exists_X3_checkReplica
set_option maxRecDepth 20000 in
theorem ggX3_exists_X3_checkRow : GoodIn wsX3_exists wsX3_checkRow := goodIn_ca (goodIn_r _ [10, 6, 7] (by decide +kernel) (by decide +kernel)) (goodIn_sub (fun _ h => List.mem_cons_of_mem _ (List.mem_append_right _ h)) (by decide +kernel))
set_option maxRecDepth 20000 in
theorem gX3_exists_X3_checkRow : GoodIn wsX3_exists (va_wsS RX3 34 yX3_checkRow wsX3_checkRow) := goodIn_app (goodIn_of _ (by decide +kernel)) ggX3_exists_X3_checkRow
set_option maxRecDepth 20000 in
theorem ggX3_exists_X1_holdsRow : GoodIn wsX3_exists wsX1_holdsRow := goodIn_r _ [15, 16, 17, 14, 18, 19, 20, 21, 22, 23, 27, 28, 29, 30, 31, 32] (by decide +kernel) (by decide +kernel)
set_option maxRecDepth 20000 in
theorem gX3_exists_X1_holdsRow : GoodIn wsX3_exists (wsV RX3 145 RX1 yX1_holdsRow wsX1_holdsRow) := goodIn_app (goodIn_of _ (by decide +kernel)) ggX3_exists_X1_holdsRow
theorem dX3_exists_0 : decode cX3_exists 0 = .ok (.iload_n 1, 1) := by decide +kernel
theorem dX3_exists_1 : decode cX3_exists 1 = .ok (.invokestatic 30, 3) := by decide +kernel
theorem dX3_exists_4 : decode cX3_exists 4 = .ok (.iload_n 2, 1) := by decide +kernel
theorem dX3_exists_5 : decode cX3_exists 5 = .ok (.invokestatic 34, 3) := by decide +kernel
theorem dX3_exists_8 : decode cX3_exists 8 = .ok (.aload_n 0, 1) := by decide +kernel
theorem dX3_exists_9 : decode cX3_exists 9 = .ok (.getfield 10, 3) := by decide +kernel
theorem dX3_exists_12 : decode cX3_exists 12 = .ok (.iload_n 1, 1) := by decide +kernel
theorem dX3_exists_13 : decode cX3_exists 13 = .ok (.iload_n 2, 1) := by decide +kernel
theorem dX3_exists_14 : decode cX3_exists 14 = .ok (.invokevirtual 145, 3) := by decide +kernel
theorem dX3_exists_17 : decode cX3_exists 17 = .ok (.ireturn, 1) := by decide +kernel
set_option maxRecDepth 20000 in
theorem ggX3_mean_X3_checkReplica : GoodIn wsX3_mean wsX3_checkReplica := goodIn_ca (goodIn_r _ [5, 6, 7] (by decide +kernel) (by decide +kernel)) (goodIn_sub (fun _ h => List.mem_cons_of_mem _ (List.mem_append_right _ h)) (by decide +kernel))
set_option maxRecDepth 20000 in
theorem gX3_mean_X3_checkReplica : GoodIn wsX3_mean (va_wsS RX3 30 yX3_checkReplica wsX3_checkReplica) := goodIn_app (goodIn_of _ (by decide +kernel)) ggX3_mean_X3_checkReplica
set_option maxRecDepth 20000 in
theorem ggX3_mean_X3_checkRow : GoodIn wsX3_mean wsX3_checkRow := goodIn_ca (goodIn_r _ [10, 6, 7] (by decide +kernel) (by decide +kernel)) (goodIn_sub (fun _ h => List.mem_cons_of_mem _ (List.mem_append_right _ h)) (by decide +kernel))
set_option maxRecDepth 20000 in
theorem gX3_mean_X3_checkRow : GoodIn wsX3_mean (va_wsS RX3 34 yX3_checkRow wsX3_checkRow) := goodIn_app (goodIn_of _ (by decide +kernel)) ggX3_mean_X3_checkRow
set_option maxRecDepth 20000 in
theorem ggX3_mean_X1_countInCell : GoodIn wsX3_mean wsX1_countInCell := goodIn_r _ [15, 16, 17, 14, 18, 19, 20, 21, 22, 23, 24, 25, 26, 27, 28, 29, 38, 39, 40, 41, 42, 43] (by decide +kernel) (by decide +kernel)
set_option maxRecDepth 20000 in
theorem gX3_mean_X1_countInCell : GoodIn wsX3_mean (wsV RX3 142 RX1 yX1_countInCell wsX1_countInCell) := goodIn_app (goodIn_of _ (by decide +kernel)) ggX3_mean_X1_countInCell
set_option maxRecDepth 20000 in
theorem ggX3_mean_X1_sumOfCell : GoodIn wsX3_mean wsX1_sumOfCell := goodIn_r _ [33, 29, 34, 22, 23, 14, 24, 19, 20, 21, 16, 17, 18, 38, 39, 40, 41, 42, 43] (by decide +kernel) (by decide +kernel)
set_option maxRecDepth 20000 in
theorem gX3_mean_X1_sumOfCell : GoodIn wsX3_mean (wsV RX3 63 RX1 yX1_sumOfCell wsX1_sumOfCell) := goodIn_app (goodIn_of _ (by decide +kernel)) ggX3_mean_X1_sumOfCell
theorem dX3_mean_0 : decode cX3_mean 0 = .ok (.iload_n 1, 1) := by decide +kernel
theorem dX3_mean_1 : decode cX3_mean 1 = .ok (.invokestatic 30, 3) := by decide +kernel
theorem dX3_mean_4 : decode cX3_mean 4 = .ok (.iload_n 2, 1) := by decide +kernel
theorem dX3_mean_5 : decode cX3_mean 5 = .ok (.invokestatic 34, 3) := by decide +kernel
theorem dX3_mean_8 : decode cX3_mean 8 = .ok (.aload_n 0, 1) := by decide +kernel
theorem dX3_mean_9 : decode cX3_mean 9 = .ok (.getfield 10, 3) := by decide +kernel
theorem dX3_mean_12 : decode cX3_mean 12 = .ok (.iload_n 1, 1) := by decide +kernel
theorem dX3_mean_13 : decode cX3_mean 13 = .ok (.iload_n 2, 1) := by decide +kernel
theorem dX3_mean_14 : decode cX3_mean 14 = .ok (.iconst 1, 1) := by decide +kernel
theorem dX3_mean_15 : decode cX3_mean 15 = .ok (.invokevirtual 142, 3) := by decide +kernel
theorem dX3_mean_18 : decode cX3_mean 18 = .ok (.istore_n 3, 1) := by decide +kernel
theorem dX3_mean_19 : decode cX3_mean 19 = .ok (.iload_n 3, 1) := by decide +kernel
theorem dX3_mean_20 : decode cX3_mean 20 = .ok (.ifCond .ne 5, 3) := by decide +kernel
theorem dX3_mean_23 : decode cX3_mean 23 = .ok (.fconst 0, 1) := by decide +kernel
theorem dX3_mean_24 : decode cX3_mean 24 = .ok (.freturn, 1) := by decide +kernel
theorem dX3_mean_25 : decode cX3_mean 25 = .ok (.aload_n 0, 1) := by decide +kernel
theorem dX3_mean_26 : decode cX3_mean 26 = .ok (.getfield 10, 3) := by decide +kernel
theorem dX3_mean_29 : decode cX3_mean 29 = .ok (.iload_n 1, 1) := by decide +kernel
theorem dX3_mean_30 : decode cX3_mean 30 = .ok (.iload_n 2, 1) := by decide +kernel
theorem dX3_mean_31 : decode cX3_mean 31 = .ok (.iconst 1, 1) := by decide +kernel
theorem dX3_mean_32 : decode cX3_mean 32 = .ok (.invokevirtual 63, 3) := by decide +kernel
theorem dX3_mean_35 : decode cX3_mean 35 = .ok (.i2f, 1) := by decide +kernel
theorem dX3_mean_36 : decode cX3_mean 36 = .ok (.iload_n 3, 1) := by decide +kernel
theorem dX3_mean_37 : decode cX3_mean 37 = .ok (.i2f, 1) := by decide +kernel
theorem dX3_mean_38 : decode cX3_mean 38 = .ok (.fdiv, 1) := by decide +kernel
theorem dX3_mean_39 : decode cX3_mean 39 = .ok (.freturn, 1) := by decide +kernel
set_option maxRecDepth 20000 in
theorem ggX3_seen_X3_checkReplica : GoodIn wsX3_seen wsX3_checkReplica := goodIn_ca (goodIn_r _ [5, 6, 7] (by decide +kernel) (by decide +kernel)) (goodIn_sub (fun _ h => List.mem_cons_of_mem _ (List.mem_append_right _ h)) (by decide +kernel))
set_option maxRecDepth 20000 in
theorem gX3_seen_X3_checkReplica : GoodIn wsX3_seen (va_wsS RX3 30 yX3_checkReplica wsX3_checkReplica) := goodIn_app (goodIn_of _ (by decide +kernel)) ggX3_seen_X3_checkReplica
set_option maxRecDepth 20000 in
theorem ggX3_seen_X1_seenNumber : GoodIn wsX3_seen wsX1_seenNumber := goodIn_r _ [12, 13, 17, 18, 19, 20, 21, 22] (by decide +kernel) (by decide +kernel)
set_option maxRecDepth 20000 in
theorem gX3_seen_X1_seenNumber : GoodIn wsX3_seen (wsV RX3 149 RX1 yX1_seenNumber wsX1_seenNumber) := goodIn_app (goodIn_of _ (by decide +kernel)) ggX3_seen_X1_seenNumber
theorem dX3_seen_0 : decode cX3_seen 0 = .ok (.iload_n 1, 1) := by decide +kernel
theorem dX3_seen_1 : decode cX3_seen 1 = .ok (.invokestatic 30, 3) := by decide +kernel
theorem dX3_seen_4 : decode cX3_seen 4 = .ok (.iload_n 2, 1) := by decide +kernel
theorem dX3_seen_5 : decode cX3_seen 5 = .ok (.invokestatic 30, 3) := by decide +kernel
theorem dX3_seen_8 : decode cX3_seen 8 = .ok (.aload_n 0, 1) := by decide +kernel
theorem dX3_seen_9 : decode cX3_seen 9 = .ok (.getfield 10, 3) := by decide +kernel
theorem dX3_seen_12 : decode cX3_seen 12 = .ok (.iload_n 1, 1) := by decide +kernel
theorem dX3_seen_13 : decode cX3_seen 13 = .ok (.iload_n 2, 1) := by decide +kernel
theorem dX3_seen_14 : decode cX3_seen 14 = .ok (.invokevirtual 149, 3) := by decide +kernel
theorem dX3_seen_17 : decode cX3_seen 17 = .ok (.ireturn, 1) := by decide +kernel
set_option maxRecDepth 20000 in
theorem ggX3_clock_X3_checkReplica : GoodIn wsX3_clock wsX3_checkReplica := goodIn_ca (goodIn_r _ [5, 6, 7] (by decide +kernel) (by decide +kernel)) (goodIn_sub (fun _ h => List.mem_cons_of_mem _ (List.mem_append_right _ h)) (by decide +kernel))
set_option maxRecDepth 20000 in
theorem gX3_clock_X3_checkReplica : GoodIn wsX3_clock (va_wsS RX3 30 yX3_checkReplica wsX3_checkReplica) := goodIn_app (goodIn_of _ (by decide +kernel)) ggX3_clock_X3_checkReplica
theorem dX3_clock_0 : decode cX3_clock 0 = .ok (.iload_n 1, 1) := by decide +kernel
theorem dX3_clock_1 : decode cX3_clock 1 = .ok (.invokestatic 30, 3) := by decide +kernel
theorem dX3_clock_4 : decode cX3_clock 4 = .ok (.aload_n 0, 1) := by decide +kernel
theorem dX3_clock_5 : decode cX3_clock 5 = .ok (.getfield 10, 3) := by decide +kernel
theorem dX3_clock_8 : decode cX3_clock 8 = .ok (.getfield 152, 3) := by decide +kernel
theorem dX3_clock_11 : decode cX3_clock 11 = .ok (.iload_n 1, 1) := by decide +kernel
theorem dX3_clock_12 : decode cX3_clock 12 = .ok (.iaload, 1) := by decide +kernel
theorem dX3_clock_13 : decode cX3_clock 13 = .ok (.ireturn, 1) := by decide +kernel
set_option maxRecDepth 20000 in
theorem ggX3_relation_X3_checkReplica : GoodIn wsX3_relation wsX3_checkReplica := goodIn_ca (goodIn_r _ [5, 6, 7] (by decide +kernel) (by decide +kernel)) (goodIn_sub (fun _ h => List.mem_cons_of_mem _ (List.mem_append_right _ h)) (by decide +kernel))
set_option maxRecDepth 20000 in
theorem gX3_relation_X3_checkReplica : GoodIn wsX3_relation (va_wsS RX3 30 yX3_checkReplica wsX3_checkReplica) := goodIn_app (goodIn_of _ (by decide +kernel)) ggX3_relation_X3_checkReplica
set_option maxRecDepth 20000 in
theorem ggX3_relation_X1_knows : GoodIn wsX3_relation wsX1_knows := goodIn_r _ [12, 13, 14, 15, 11, 16, 17, 21, 22, 23, 24, 25, 26] (by decide +kernel) (by decide +kernel)
set_option maxRecDepth 20000 in
theorem gX3_relation_X1_knows : GoodIn wsX3_relation (wsV RX3 156 RX1 yX1_knows wsX1_knows) := goodIn_app (goodIn_of _ (by decide +kernel)) ggX3_relation_X1_knows
theorem dX3_relation_0 : decode cX3_relation 0 = .ok (.iload_n 1, 1) := by decide +kernel
theorem dX3_relation_1 : decode cX3_relation 1 = .ok (.invokestatic 30, 3) := by decide +kernel
theorem dX3_relation_4 : decode cX3_relation 4 = .ok (.iload_n 2, 1) := by decide +kernel
theorem dX3_relation_5 : decode cX3_relation 5 = .ok (.invokestatic 30, 3) := by decide +kernel
theorem dX3_relation_8 : decode cX3_relation 8 = .ok (.aload_n 0, 1) := by decide +kernel
theorem dX3_relation_9 : decode cX3_relation 9 = .ok (.getfield 10, 3) := by decide +kernel
theorem dX3_relation_12 : decode cX3_relation 12 = .ok (.iload_n 1, 1) := by decide +kernel
theorem dX3_relation_13 : decode cX3_relation 13 = .ok (.iload_n 2, 1) := by decide +kernel
theorem dX3_relation_14 : decode cX3_relation 14 = .ok (.invokevirtual 156, 3) := by decide +kernel
theorem dX3_relation_17 : decode cX3_relation 17 = .ok (.istore_n 3, 1) := by decide +kernel
theorem dX3_relation_18 : decode cX3_relation 18 = .ok (.aload_n 0, 1) := by decide +kernel
theorem dX3_relation_19 : decode cX3_relation 19 = .ok (.getfield 10, 3) := by decide +kernel
theorem dX3_relation_22 : decode cX3_relation 22 = .ok (.iload_n 2, 1) := by decide +kernel
theorem dX3_relation_23 : decode cX3_relation 23 = .ok (.iload_n 1, 1) := by decide +kernel
theorem dX3_relation_24 : decode cX3_relation 24 = .ok (.invokevirtual 156, 3) := by decide +kernel
theorem dX3_relation_27 : decode cX3_relation 27 = .ok (.istore 4, 2) := by decide +kernel
theorem dX3_relation_29 : decode cX3_relation 29 = .ok (.iload_n 3, 1) := by decide +kernel
theorem dX3_relation_30 : decode cX3_relation 30 = .ok (.ifCond .eq 14, 3) := by decide +kernel
theorem dX3_relation_33 : decode cX3_relation 33 = .ok (.iload 4, 2) := by decide +kernel
theorem dX3_relation_35 : decode cX3_relation 35 = .ok (.ifCond .eq 7, 3) := by decide +kernel
theorem dX3_relation_38 : decode cX3_relation 38 = .ok (.iconst 0, 1) := by decide +kernel
theorem dX3_relation_39 : decode cX3_relation 39 = .ok (.goto 4, 3) := by decide +kernel
theorem dX3_relation_42 : decode cX3_relation 42 = .ok (.iconst 2, 1) := by decide +kernel
theorem dX3_relation_43 : decode cX3_relation 43 = .ok (.ireturn, 1) := by decide +kernel
theorem dX3_relation_44 : decode cX3_relation 44 = .ok (.iload 4, 2) := by decide +kernel
theorem dX3_relation_46 : decode cX3_relation 46 = .ok (.ifCond .eq 7, 3) := by decide +kernel
theorem dX3_relation_49 : decode cX3_relation 49 = .ok (.iconst 1, 1) := by decide +kernel
theorem dX3_relation_50 : decode cX3_relation 50 = .ok (.goto 4, 3) := by decide +kernel
theorem dX3_relation_53 : decode cX3_relation 53 = .ok (.iconst 3, 1) := by decide +kernel
theorem dX3_relation_54 : decode cX3_relation 54 = .ok (.ireturn, 1) := by decide +kernel
set_option maxRecDepth 20000 in
theorem ggX3_conflicts_X3_checkReplica : GoodIn wsX3_conflicts wsX3_checkReplica := goodIn_ca (goodIn_r _ [5, 6, 7] (by decide +kernel) (by decide +kernel)) (goodIn_sub (fun _ h => List.mem_cons_of_mem _ (List.mem_append_right _ h)) (by decide +kernel))
set_option maxRecDepth 20000 in
theorem gX3_conflicts_X3_checkReplica : GoodIn wsX3_conflicts (va_wsS RX3 30 yX3_checkReplica wsX3_checkReplica) := goodIn_app (goodIn_of _ (by decide +kernel)) ggX3_conflicts_X3_checkReplica
set_option maxRecDepth 20000 in
theorem ggX3_conflicts_X1_countInCell : GoodIn wsX3_conflicts wsX1_countInCell := goodIn_r _ [12, 13, 14, 11, 15, 16, 17, 18, 19, 20, 21, 22, 23, 24, 25, 26, 30, 31, 32, 33, 34, 35] (by decide +kernel) (by decide +kernel)
set_option maxRecDepth 20000 in
theorem gX3_conflicts_X1_countInCell : GoodIn wsX3_conflicts (wsV RX3 142 RX1 yX1_countInCell wsX1_countInCell) := goodIn_app (goodIn_of _ (by decide +kernel)) ggX3_conflicts_X1_countInCell
theorem dX3_conflicts_0 : decode cX3_conflicts 0 = .ok (.iload_n 1, 1) := by decide +kernel
theorem dX3_conflicts_1 : decode cX3_conflicts 1 = .ok (.invokestatic 30, 3) := by decide +kernel
theorem dX3_conflicts_4 : decode cX3_conflicts 4 = .ok (.iconst 0, 1) := by decide +kernel
theorem dX3_conflicts_5 : decode cX3_conflicts 5 = .ok (.istore_n 2, 1) := by decide +kernel
theorem dX3_conflicts_6 : decode cX3_conflicts 6 = .ok (.iconst 0, 1) := by decide +kernel
theorem dX3_conflicts_7 : decode cX3_conflicts 7 = .ok (.istore_n 3, 1) := by decide +kernel
theorem dX3_conflicts_8 : decode cX3_conflicts 8 = .ok (.iload_n 3, 1) := by decide +kernel
theorem dX3_conflicts_9 : decode cX3_conflicts 9 = .ok (.bipush 6, 2) := by decide +kernel
theorem dX3_conflicts_11 : decode cX3_conflicts 11 = .ok (.if_icmp .ge 26, 3) := by decide +kernel
theorem dX3_conflicts_14 : decode cX3_conflicts 14 = .ok (.aload_n 0, 1) := by decide +kernel
theorem dX3_conflicts_15 : decode cX3_conflicts 15 = .ok (.getfield 10, 3) := by decide +kernel
theorem dX3_conflicts_18 : decode cX3_conflicts 18 = .ok (.iload_n 1, 1) := by decide +kernel
theorem dX3_conflicts_19 : decode cX3_conflicts 19 = .ok (.iload_n 3, 1) := by decide +kernel
theorem dX3_conflicts_20 : decode cX3_conflicts 20 = .ok (.iconst 1, 1) := by decide +kernel
theorem dX3_conflicts_21 : decode cX3_conflicts 21 = .ok (.invokevirtual 142, 3) := by decide +kernel
theorem dX3_conflicts_24 : decode cX3_conflicts 24 = .ok (.iconst 2, 1) := by decide +kernel
theorem dX3_conflicts_25 : decode cX3_conflicts 25 = .ok (.if_icmp .lt 6, 3) := by decide +kernel
theorem dX3_conflicts_28 : decode cX3_conflicts 28 = .ok (.iinc 2 1, 3) := by decide +kernel
theorem dX3_conflicts_31 : decode cX3_conflicts 31 = .ok (.iinc 3 1, 3) := by decide +kernel
theorem dX3_conflicts_34 : decode cX3_conflicts 34 = .ok (.goto (-26), 3) := by decide +kernel
theorem dX3_conflicts_37 : decode cX3_conflicts 37 = .ok (.iload_n 2, 1) := by decide +kernel
theorem dX3_conflicts_38 : decode cX3_conflicts 38 = .ok (.ireturn, 1) := by decide +kernel
set_option maxRecDepth 20000 in
theorem ggX3_agreement_X1_isAgreed : GoodIn wsX3_agreement wsX1_isAgreed := goodIn_r _ [7, 8, 9, 10, 6, 11, 12, 13, 14, 15, 16, 17, 21, 22, 23, 24, 25, 26] (by decide +kernel) (by decide +kernel)
set_option maxRecDepth 20000 in
theorem gX3_agreement_X1_isAgreed : GoodIn wsX3_agreement (wsV RX3 159 RX1 yX1_isAgreed wsX1_isAgreed) := goodIn_app (goodIn_of _ (by decide +kernel)) ggX3_agreement_X1_isAgreed
theorem dX3_agreement_0 : decode cX3_agreement 0 = .ok (.iconst 0, 1) := by decide +kernel
theorem dX3_agreement_1 : decode cX3_agreement 1 = .ok (.istore_n 1, 1) := by decide +kernel
theorem dX3_agreement_2 : decode cX3_agreement 2 = .ok (.iconst 0, 1) := by decide +kernel
theorem dX3_agreement_3 : decode cX3_agreement 3 = .ok (.istore_n 2, 1) := by decide +kernel
theorem dX3_agreement_4 : decode cX3_agreement 4 = .ok (.iload_n 2, 1) := by decide +kernel
theorem dX3_agreement_5 : decode cX3_agreement 5 = .ok (.bipush 6, 2) := by decide +kernel
theorem dX3_agreement_7 : decode cX3_agreement 7 = .ok (.if_icmp .ge 37, 3) := by decide +kernel
theorem dX3_agreement_10 : decode cX3_agreement 10 = .ok (.iconst 0, 1) := by decide +kernel
theorem dX3_agreement_11 : decode cX3_agreement 11 = .ok (.istore_n 3, 1) := by decide +kernel
theorem dX3_agreement_12 : decode cX3_agreement 12 = .ok (.iload_n 3, 1) := by decide +kernel
theorem dX3_agreement_13 : decode cX3_agreement 13 = .ok (.iconst 5, 1) := by decide +kernel
theorem dX3_agreement_14 : decode cX3_agreement 14 = .ok (.if_icmp .ge 24, 3) := by decide +kernel
theorem dX3_agreement_17 : decode cX3_agreement 17 = .ok (.aload_n 0, 1) := by decide +kernel
theorem dX3_agreement_18 : decode cX3_agreement 18 = .ok (.getfield 10, 3) := by decide +kernel
theorem dX3_agreement_21 : decode cX3_agreement 21 = .ok (.iload_n 2, 1) := by decide +kernel
theorem dX3_agreement_22 : decode cX3_agreement 22 = .ok (.iload_n 3, 1) := by decide +kernel
theorem dX3_agreement_23 : decode cX3_agreement 23 = .ok (.invokevirtual 159, 3) := by decide +kernel
theorem dX3_agreement_26 : decode cX3_agreement 26 = .ok (.ifCond .eq 6, 3) := by decide +kernel
theorem dX3_agreement_29 : decode cX3_agreement 29 = .ok (.iinc 1 1, 3) := by decide +kernel
theorem dX3_agreement_32 : decode cX3_agreement 32 = .ok (.iinc 3 1, 3) := by decide +kernel
theorem dX3_agreement_35 : decode cX3_agreement 35 = .ok (.goto (-23), 3) := by decide +kernel
theorem dX3_agreement_38 : decode cX3_agreement 38 = .ok (.iinc 2 1, 3) := by decide +kernel
theorem dX3_agreement_41 : decode cX3_agreement 41 = .ok (.goto (-37), 3) := by decide +kernel
theorem dX3_agreement_44 : decode cX3_agreement 44 = .ok (.iload_n 1, 1) := by decide +kernel
theorem dX3_agreement_45 : decode cX3_agreement 45 = .ok (.i2d, 1) := by decide +kernel
theorem dX3_agreement_46 : decode cX3_agreement 46 = .ok (.ldc2_w 162, 3) := by decide +kernel
theorem dX3_agreement_49 : decode cX3_agreement 49 = .ok (.ddiv, 1) := by decide +kernel
theorem dX3_agreement_50 : decode cX3_agreement 50 = .ok (.dreturn, 1) := by decide +kernel
theorem dX3_latestMerge_0 : decode cX3_latestMerge 0 = .ok (.iload_n 1, 1) := by decide +kernel
theorem dX3_latestMerge_1 : decode cX3_latestMerge 1 = .ok (.ifCond .lt 8, 3) := by decide +kernel
theorem dX3_latestMerge_4 : decode cX3_latestMerge 4 = .ok (.iload_n 1, 1) := by decide +kernel
theorem dX3_latestMerge_5 : decode cX3_latestMerge 5 = .ok (.iconst 4, 1) := by decide +kernel
theorem dX3_latestMerge_6 : decode cX3_latestMerge 6 = .ok (.if_icmp .lt 13, 3) := by decide +kernel
theorem dX3_latestMerge_9 : decode cX3_latestMerge 9 = .ok (.new 44, 3) := by decide +kernel
theorem dX3_latestMerge_12 : decode cX3_latestMerge 12 = .ok (.dup, 1) := by decide +kernel
theorem dX3_latestMerge_13 : decode cX3_latestMerge 13 = .ok (.ldc 164, 2) := by decide +kernel
theorem dX3_latestMerge_15 : decode cX3_latestMerge 15 = .ok (.invokespecial 48, 3) := by decide +kernel
theorem dX3_latestMerge_18 : decode cX3_latestMerge 18 = .ok (.athrow, 1) := by decide +kernel
theorem dX3_latestMerge_19 : decode cX3_latestMerge 19 = .ok (.aload_n 0, 1) := by decide +kernel
theorem dX3_latestMerge_20 : decode cX3_latestMerge 20 = .ok (.getfield 10, 3) := by decide +kernel
theorem dX3_latestMerge_23 : decode cX3_latestMerge 23 = .ok (.getfield 166, 3) := by decide +kernel
theorem dX3_latestMerge_26 : decode cX3_latestMerge 26 = .ok (.iload_n 1, 1) := by decide +kernel
theorem dX3_latestMerge_27 : decode cX3_latestMerge 27 = .ok (.iaload, 1) := by decide +kernel
theorem dX3_latestMerge_28 : decode cX3_latestMerge 28 = .ok (.ireturn, 1) := by decide +kernel
set_option maxRecDepth 20000 in
theorem ggX3_ifMerged_X3_checkReplica : GoodIn wsX3_ifMerged wsX3_checkReplica := goodIn_ca (goodIn_r _ [7, 8, 9] (by decide +kernel) (by decide +kernel)) (goodIn_sub (fun _ h => List.mem_cons_of_mem _ (List.mem_append_right _ h)) (by decide +kernel))
set_option maxRecDepth 20000 in
theorem gX3_ifMerged_X3_checkReplica : GoodIn wsX3_ifMerged (va_wsS RX3 30 yX3_checkReplica wsX3_checkReplica) := goodIn_app (goodIn_of _ (by decide +kernel)) ggX3_ifMerged_X3_checkReplica
set_option maxRecDepth 20000 in
theorem ggX3_ifMerged_X3_checkDifferent : GoodIn wsX3_ifMerged wsX3_checkDifferent := goodIn_ca (goodIn_r _ [12, 1, 2] (by decide +kernel) (by decide +kernel)) (goodIn_sub (fun _ h => List.mem_cons_of_mem _ (List.mem_append_left _ (List.mem_append_right _ h))) (by decide +kernel))
set_option maxRecDepth 20000 in
theorem gX3_ifMerged_X3_checkDifferent : GoodIn wsX3_ifMerged (va_wsS RX3 80 yX3_checkDifferent wsX3_checkDifferent) := goodIn_app (goodIn_of _ (by decide +kernel)) ggX3_ifMerged_X3_checkDifferent
set_option maxRecDepth 20000 in
theorem ggX3_ifMerged_X1_countAdded : GoodIn wsX3_ifMerged wsX1_countAdded := goodIn_r _ [17, 18, 19, 20, 16, 21, 22, 23, 24, 25, 26, 27, 39, 40, 41, 42, 43, 44] (by decide +kernel) (by decide +kernel)
set_option maxRecDepth 20000 in
theorem gX3_ifMerged_X1_countAdded : GoodIn wsX3_ifMerged (wsV RX3 171 RX1 yX1_countAdded wsX1_countAdded) := goodIn_app (goodIn_of _ (by decide +kernel)) ggX3_ifMerged_X1_countAdded
set_option maxRecDepth 20000 in
theorem ggX3_ifMerged_X1_countRemoved : GoodIn wsX3_ifMerged wsX1_countRemoved := goodIn_r _ [31, 32, 33, 34, 16, 35, 22, 23, 24, 25, 26, 27, 39, 40, 41, 42, 43, 44] (by decide +kernel) (by decide +kernel)
set_option maxRecDepth 20000 in
theorem gX3_ifMerged_X1_countRemoved : GoodIn wsX3_ifMerged (wsV RX3 174 RX1 yX1_countRemoved wsX1_countRemoved) := goodIn_app (goodIn_of _ (by decide +kernel)) ggX3_ifMerged_X1_countRemoved
theorem dX3_ifMerged_0 : decode cX3_ifMerged 0 = .ok (.iload_n 1, 1) := by decide +kernel
theorem dX3_ifMerged_1 : decode cX3_ifMerged 1 = .ok (.invokestatic 30, 3) := by decide +kernel
theorem dX3_ifMerged_4 : decode cX3_ifMerged 4 = .ok (.iload_n 2, 1) := by decide +kernel
theorem dX3_ifMerged_5 : decode cX3_ifMerged 5 = .ok (.invokestatic 30, 3) := by decide +kernel
theorem dX3_ifMerged_8 : decode cX3_ifMerged 8 = .ok (.iload_n 1, 1) := by decide +kernel
theorem dX3_ifMerged_9 : decode cX3_ifMerged 9 = .ok (.iload_n 2, 1) := by decide +kernel
theorem dX3_ifMerged_10 : decode cX3_ifMerged 10 = .ok (.invokestatic 80, 3) := by decide +kernel
theorem dX3_ifMerged_13 : decode cX3_ifMerged 13 = .ok (.iload_n 3, 1) := by decide +kernel
theorem dX3_ifMerged_14 : decode cX3_ifMerged 14 = .ok (.iconst 2, 1) := by decide +kernel
theorem dX3_ifMerged_15 : decode cX3_ifMerged 15 = .ok (.if_icmp .eq 18, 3) := by decide +kernel
theorem dX3_ifMerged_18 : decode cX3_ifMerged 18 = .ok (.iload_n 3, 1) := by decide +kernel
theorem dX3_ifMerged_19 : decode cX3_ifMerged 19 = .ok (.iconst 3, 1) := by decide +kernel
theorem dX3_ifMerged_20 : decode cX3_ifMerged 20 = .ok (.if_icmp .eq 13, 3) := by decide +kernel
theorem dX3_ifMerged_23 : decode cX3_ifMerged 23 = .ok (.new 44, 3) := by decide +kernel
theorem dX3_ifMerged_26 : decode cX3_ifMerged 26 = .ok (.dup, 1) := by decide +kernel
theorem dX3_ifMerged_27 : decode cX3_ifMerged 27 = .ok (.ldc 169, 2) := by decide +kernel
theorem dX3_ifMerged_29 : decode cX3_ifMerged 29 = .ok (.invokespecial 48, 3) := by decide +kernel
theorem dX3_ifMerged_32 : decode cX3_ifMerged 32 = .ok (.athrow, 1) := by decide +kernel
theorem dX3_ifMerged_33 : decode cX3_ifMerged 33 = .ok (.iload_n 3, 1) := by decide +kernel
theorem dX3_ifMerged_34 : decode cX3_ifMerged 34 = .ok (.iconst 2, 1) := by decide +kernel
theorem dX3_ifMerged_35 : decode cX3_ifMerged 35 = .ok (.if_icmp .ne 15, 3) := by decide +kernel
theorem dX3_ifMerged_38 : decode cX3_ifMerged 38 = .ok (.aload_n 0, 1) := by decide +kernel
theorem dX3_ifMerged_39 : decode cX3_ifMerged 39 = .ok (.getfield 10, 3) := by decide +kernel
theorem dX3_ifMerged_42 : decode cX3_ifMerged 42 = .ok (.iload_n 1, 1) := by decide +kernel
theorem dX3_ifMerged_43 : decode cX3_ifMerged 43 = .ok (.iload_n 2, 1) := by decide +kernel
theorem dX3_ifMerged_44 : decode cX3_ifMerged 44 = .ok (.invokevirtual 171, 3) := by decide +kernel
theorem dX3_ifMerged_47 : decode cX3_ifMerged 47 = .ok (.goto 12, 3) := by decide +kernel
theorem dX3_ifMerged_50 : decode cX3_ifMerged 50 = .ok (.aload_n 0, 1) := by decide +kernel
theorem dX3_ifMerged_51 : decode cX3_ifMerged 51 = .ok (.getfield 10, 3) := by decide +kernel
theorem dX3_ifMerged_54 : decode cX3_ifMerged 54 = .ok (.iload_n 1, 1) := by decide +kernel
theorem dX3_ifMerged_55 : decode cX3_ifMerged 55 = .ok (.iload_n 2, 1) := by decide +kernel
theorem dX3_ifMerged_56 : decode cX3_ifMerged 56 = .ok (.invokevirtual 174, 3) := by decide +kernel
theorem dX3_ifMerged_59 : decode cX3_ifMerged 59 = .ok (.ireturn, 1) := by decide +kernel
theorem dX3_checkReplica_0 : decode cX3_checkReplica 0 = .ok (.iload_n 0, 1) := by decide +kernel
theorem dX3_checkReplica_1 : decode cX3_checkReplica 1 = .ok (.ifCond .lt 8, 3) := by decide +kernel
theorem dX3_checkReplica_4 : decode cX3_checkReplica 4 = .ok (.iload_n 0, 1) := by decide +kernel
theorem dX3_checkReplica_5 : decode cX3_checkReplica 5 = .ok (.iconst 4, 1) := by decide +kernel
theorem dX3_checkReplica_6 : decode cX3_checkReplica 6 = .ok (.if_icmp .lt 13, 3) := by decide +kernel
theorem dX3_checkReplica_9 : decode cX3_checkReplica 9 = .ok (.new 37, 3) := by decide +kernel
theorem dX3_checkReplica_12 : decode cX3_checkReplica 12 = .ok (.dup, 1) := by decide +kernel
theorem dX3_checkReplica_13 : decode cX3_checkReplica 13 = .ok (.ldc 177, 2) := by decide +kernel
theorem dX3_checkReplica_15 : decode cX3_checkReplica 15 = .ok (.invokespecial 41, 3) := by decide +kernel
theorem dX3_checkReplica_18 : decode cX3_checkReplica 18 = .ok (.athrow, 1) := by decide +kernel
theorem dX3_checkReplica_19 : decode cX3_checkReplica 19 = .ok (.return_, 1) := by decide +kernel
theorem dX3_checkRow_0 : decode cX3_checkRow 0 = .ok (.iload_n 0, 1) := by decide +kernel
theorem dX3_checkRow_1 : decode cX3_checkRow 1 = .ok (.ifCond .lt 9, 3) := by decide +kernel
theorem dX3_checkRow_4 : decode cX3_checkRow 4 = .ok (.iload_n 0, 1) := by decide +kernel
theorem dX3_checkRow_5 : decode cX3_checkRow 5 = .ok (.bipush 6, 2) := by decide +kernel
theorem dX3_checkRow_7 : decode cX3_checkRow 7 = .ok (.if_icmp .lt 13, 3) := by decide +kernel
theorem dX3_checkRow_10 : decode cX3_checkRow 10 = .ok (.new 37, 3) := by decide +kernel
theorem dX3_checkRow_13 : decode cX3_checkRow 13 = .ok (.dup, 1) := by decide +kernel
theorem dX3_checkRow_14 : decode cX3_checkRow 14 = .ok (.ldc 179, 2) := by decide +kernel
theorem dX3_checkRow_16 : decode cX3_checkRow 16 = .ok (.invokespecial 41, 3) := by decide +kernel
theorem dX3_checkRow_19 : decode cX3_checkRow 19 = .ok (.athrow, 1) := by decide +kernel
theorem dX3_checkRow_20 : decode cX3_checkRow 20 = .ok (.return_, 1) := by decide +kernel
theorem dX3_checkElement_0 : decode cX3_checkElement 0 = .ok (.iload_n 0, 1) := by decide +kernel
theorem dX3_checkElement_1 : decode cX3_checkElement 1 = .ok (.ifCond .lt 9, 3) := by decide +kernel
theorem dX3_checkElement_4 : decode cX3_checkElement 4 = .ok (.iload_n 0, 1) := by decide +kernel
theorem dX3_checkElement_5 : decode cX3_checkElement 5 = .ok (.bipush 16, 2) := by decide +kernel
theorem dX3_checkElement_7 : decode cX3_checkElement 7 = .ok (.if_icmp .lt 13, 3) := by decide +kernel
theorem dX3_checkElement_10 : decode cX3_checkElement 10 = .ok (.new 44, 3) := by decide +kernel
theorem dX3_checkElement_13 : decode cX3_checkElement 13 = .ok (.dup, 1) := by decide +kernel
theorem dX3_checkElement_14 : decode cX3_checkElement 14 = .ok (.ldc 181, 2) := by decide +kernel
theorem dX3_checkElement_16 : decode cX3_checkElement 16 = .ok (.invokespecial 48, 3) := by decide +kernel
theorem dX3_checkElement_19 : decode cX3_checkElement 19 = .ok (.athrow, 1) := by decide +kernel
theorem dX3_checkElement_20 : decode cX3_checkElement 20 = .ok (.return_, 1) := by decide +kernel
theorem dX3_checkDifferent_0 : decode cX3_checkDifferent 0 = .ok (.iload_n 0, 1) := by decide +kernel
theorem dX3_checkDifferent_1 : decode cX3_checkDifferent 1 = .ok (.iload_n 1, 1) := by decide +kernel
theorem dX3_checkDifferent_2 : decode cX3_checkDifferent 2 = .ok (.if_icmp .ne 13, 3) := by decide +kernel
theorem dX3_checkDifferent_5 : decode cX3_checkDifferent 5 = .ok (.new 44, 3) := by decide +kernel
theorem dX3_checkDifferent_8 : decode cX3_checkDifferent 8 = .ok (.dup, 1) := by decide +kernel
theorem dX3_checkDifferent_9 : decode cX3_checkDifferent 9 = .ok (.ldc 183, 2) := by decide +kernel
theorem dX3_checkDifferent_11 : decode cX3_checkDifferent 11 = .ok (.invokespecial 48, 3) := by decide +kernel
theorem dX3_checkDifferent_14 : decode cX3_checkDifferent 14 = .ok (.athrow, 1) := by decide +kernel
theorem dX3_checkDifferent_15 : decode cX3_checkDifferent 15 = .ok (.return_, 1) := by decide +kernel
theorem dJ9_max_7cf53_0 : decode cJ9_max_7cf53 0 = .ok (.iload_n 0, 1) := by decide +kernel
theorem dJ9_max_7cf53_1 : decode cJ9_max_7cf53 1 = .ok (.iload_n 1, 1) := by decide +kernel
theorem dJ9_max_7cf53_2 : decode cJ9_max_7cf53 2 = .ok (.if_icmp .lt 7, 3) := by decide +kernel
theorem dJ9_max_7cf53_5 : decode cJ9_max_7cf53 5 = .ok (.iload_n 0, 1) := by decide +kernel
theorem dJ9_max_7cf53_6 : decode cJ9_max_7cf53 6 = .ok (.goto 4, 3) := by decide +kernel
theorem dJ9_max_7cf53_9 : decode cJ9_max_7cf53 9 = .ok (.iload_n 1, 1) := by decide +kernel
theorem dJ9_max_7cf53_10 : decode cJ9_max_7cf53 10 = .ok (.ireturn, 1) := by decide +kernel
theorem dL_cell_0 : decode cL_cell 0 = .ok (.iload_n 1, 1) := by decide +kernel
theorem dL_cell_1 : decode cL_cell 1 = .ok (.aload_n 0, 1) := by decide +kernel
theorem dL_cell_2 : decode cL_cell 2 = .ok (.arraylength, 1) := by decide +kernel
theorem dL_cell_3 : decode cL_cell 3 = .ok (.if_icmp .ge 9, 3) := by decide +kernel
theorem dL_cell_6 : decode cL_cell 6 = .ok (.aload_n 0, 1) := by decide +kernel
theorem dL_cell_7 : decode cL_cell 7 = .ok (.iload_n 1, 1) := by decide +kernel
theorem dL_cell_8 : decode cL_cell 8 = .ok (.iaload, 1) := by decide +kernel
theorem dL_cell_9 : decode cL_cell 9 = .ok (.goto 11, 3) := by decide +kernel
theorem dL_cell_12 : decode cL_cell 12 = .ok (.ldc 7, 2) := by decide +kernel
theorem dL_cell_14 : decode cL_cell 14 = .ok (.iload_n 1, 1) := by decide +kernel
theorem dL_cell_15 : decode cL_cell 15 = .ok (.sipush 227, 3) := by decide +kernel
theorem dL_cell_18 : decode cL_cell 18 = .ok (.iadd, 1) := by decide +kernel
theorem dL_cell_19 : decode cL_cell 19 = .ok (.imul, 1) := by decide +kernel
theorem dL_cell_20 : decode cL_cell 20 = .ok (.ireturn, 1) := by decide +kernel
theorem dL_up_0 : decode cL_up 0 = .ok (.iload_n 0, 1) := by decide +kernel
theorem dL_up_1 : decode cL_up 1 = .ok (.ldc 8, 2) := by decide +kernel
theorem dL_up_3 : decode cL_up 3 = .ok (.iand, 1) := by decide +kernel
theorem dL_up_4 : decode cL_up 4 = .ok (.iload_n 1, 1) := by decide +kernel
theorem dL_up_5 : decode cL_up 5 = .ok (.irem, 1) := by decide +kernel
theorem dL_up_6 : decode cL_up 6 = .ok (.ireturn, 1) := by decide +kernel
set_option maxRecDepth 20000 in
theorem ggL_cells_X3_latest : GoodIn wsL_cells wsX3_latest := goodIn_ca (goodIn_r _ [7, 8, 9, 10, 6, 11, 12, 13, 14, 15, 16, 17, 18, 19, 20, 21, 22, 23, 24, 25, 26, 27, 28, 29, 30, 31, 32, 33, 86, 87, 88, 89, 90, 91, 92, 93, 94] (by decide +kernel) (by decide +kernel)) (goodIn_sub (fun _ h => List.mem_cons_of_mem _ (List.mem_append_right _ h)) (by decide +kernel))
set_option maxRecDepth 20000 in
theorem gL_cells_X3_latest : GoodIn wsL_cells (wsV RL 13 RX3 yX3_latest wsX3_latest) := goodIn_app (goodIn_of _ (by decide +kernel)) ggL_cells_X3_latest
set_option maxRecDepth 20000 in
theorem ggL_cells_X3_greatest : GoodIn wsL_cells wsX3_greatest := goodIn_ca (goodIn_r _ [37, 8, 9, 10, 6, 11, 12, 13, 14, 15, 16, 38, 39, 40, 20, 41, 22, 24, 42, 43, 44, 45, 31, 32, 33, 28, 29, 30, 25, 26, 27, 86, 87, 88, 89, 90, 91, 92, 93, 94] (by decide +kernel) (by decide +kernel)) (goodIn_sub (fun _ h => List.mem_cons_of_mem _ (List.mem_append_right _ h)) (by decide +kernel))
set_option maxRecDepth 20000 in
theorem gL_cells_X3_greatest : GoodIn wsL_cells (wsV RL 19 RX3 yX3_greatest wsX3_greatest) := goodIn_app (goodIn_of _ (by decide +kernel)) ggL_cells_X3_greatest
set_option maxRecDepth 20000 in
theorem ggL_cells_X3_counter : GoodIn wsL_cells wsX3_counter := goodIn_ca (goodIn_r _ [49, 8, 9, 10, 6, 11, 12, 13, 14, 15, 16, 50, 51, 52, 20, 53, 22, 24, 31, 32, 33, 28, 29, 30, 25, 26, 27, 86, 87, 88, 89, 90, 91, 92, 93, 94] (by decide +kernel) (by decide +kernel)) (goodIn_sub (fun _ h => List.mem_cons_of_mem _ (List.mem_append_right _ h)) (by decide +kernel))
set_option maxRecDepth 20000 in
theorem gL_cells_X3_counter : GoodIn wsL_cells (wsV RL 22 RX3 yX3_counter wsX3_counter) := goodIn_app (goodIn_of _ (by decide +kernel)) ggL_cells_X3_counter
set_option maxRecDepth 20000 in
theorem ggL_cells_X3_elements : GoodIn wsL_cells wsX3_elements := goodIn_ca (goodIn_r _ [57, 8, 9, 10, 6, 11, 12, 13, 14, 15, 16, 58, 59, 60, 20, 61, 22, 24, 31, 32, 33, 28, 29, 30, 25, 26, 27, 86, 87, 88, 89, 90, 91, 92, 93, 94] (by decide +kernel) (by decide +kernel)) (goodIn_sub (fun _ h => List.mem_cons_of_mem _ (List.mem_append_right _ h)) (by decide +kernel))
set_option maxRecDepth 20000 in
theorem gL_cells_X3_elements : GoodIn wsL_cells (wsV RL 25 RX3 yX3_elements wsX3_elements) := goodIn_app (goodIn_of _ (by decide +kernel)) ggL_cells_X3_elements
set_option maxRecDepth 20000 in
theorem ggL_cells_X3_entries : GoodIn wsL_cells wsX3_entries := goodIn_ca (goodIn_r _ [65, 12, 13, 8, 9, 10, 6, 11, 14, 15, 16, 66, 67, 68, 20, 69, 25, 26, 27, 28, 29, 30, 31, 32, 33, 70, 71, 72, 73, 22, 86, 87, 88, 89, 90, 91, 92, 93, 94] (by decide +kernel) (by decide +kernel)) (goodIn_sub (fun _ h => List.mem_cons_of_mem _ (List.mem_append_right _ h)) (by decide +kernel))
set_option maxRecDepth 20000 in
theorem gL_cells_X3_entries : GoodIn wsL_cells (wsV RL 28 RX3 yX3_entries wsX3_entries) := goodIn_app (goodIn_of _ (by decide +kernel)) ggL_cells_X3_entries
set_option maxRecDepth 20000 in
theorem ggL_cells_X3_sibling : GoodIn wsL_cells wsX3_sibling := goodIn_ca (goodIn_r _ [77, 12, 13, 8, 9, 10, 6, 11, 14, 15, 16, 78, 79, 80, 20, 81, 22, 24, 25, 26, 27, 28, 29, 30, 31, 32, 33, 82, 83, 84, 85, 86, 87, 88, 89, 90, 91, 92, 93, 94] (by decide +kernel) (by decide +kernel)) (goodIn_sub (fun _ h => List.mem_cons_of_mem _ (List.mem_append_right _ h)) (by decide +kernel))
set_option maxRecDepth 20000 in
theorem gL_cells_X3_sibling : GoodIn wsL_cells (wsV RL 32 RX3 yX3_sibling wsX3_sibling) := goodIn_app (goodIn_of _ (by decide +kernel)) ggL_cells_X3_sibling
theorem dL_cells_0 : decode cL_cells 0 = .ok (.ldc2_w 9, 3) := by decide +kernel
theorem dL_cells_3 : decode cL_cells 3 = .ok (.lstore_n 2, 1) := by decide +kernel
theorem dL_cells_4 : decode cL_cells 4 = .ok (.iconst 0, 1) := by decide +kernel
theorem dL_cells_5 : decode cL_cells 5 = .ok (.istore 4, 2) := by decide +kernel
theorem dL_cells_7 : decode cL_cells 7 = .ok (.iload 4, 2) := by decide +kernel
theorem dL_cells_9 : decode cL_cells 9 = .ok (.bipush 6, 2) := by decide +kernel
theorem dL_cells_11 : decode cL_cells 11 = .ok (.if_icmp .ge 110, 3) := by decide +kernel
theorem dL_cells_14 : decode cL_cells 14 = .ok (.ldc2_w 11, 3) := by decide +kernel
theorem dL_cells_17 : decode cL_cells 17 = .ok (.ldc2_w 11, 3) := by decide +kernel
theorem dL_cells_20 : decode cL_cells 20 = .ok (.ldc2_w 11, 3) := by decide +kernel
theorem dL_cells_23 : decode cL_cells 23 = .ok (.ldc2_w 11, 3) := by decide +kernel
theorem dL_cells_26 : decode cL_cells 26 = .ok (.lload_n 2, 1) := by decide +kernel
theorem dL_cells_27 : decode cL_cells 27 = .ok (.lmul, 1) := by decide +kernel
theorem dL_cells_28 : decode cL_cells 28 = .ok (.aload_n 0, 1) := by decide +kernel
theorem dL_cells_29 : decode cL_cells 29 = .ok (.iload_n 1, 1) := by decide +kernel
theorem dL_cells_30 : decode cL_cells 30 = .ok (.iload 4, 2) := by decide +kernel
theorem dL_cells_32 : decode cL_cells 32 = .ok (.invokevirtual 13, 3) := by decide +kernel
theorem dL_cells_35 : decode cL_cells 35 = .ok (.i2l, 1) := by decide +kernel
theorem dL_cells_36 : decode cL_cells 36 = .ok (.ladd, 1) := by decide +kernel
theorem dL_cells_37 : decode cL_cells 37 = .ok (.lmul, 1) := by decide +kernel
theorem dL_cells_38 : decode cL_cells 38 = .ok (.aload_n 0, 1) := by decide +kernel
theorem dL_cells_39 : decode cL_cells 39 = .ok (.iload_n 1, 1) := by decide +kernel
theorem dL_cells_40 : decode cL_cells 40 = .ok (.iload 4, 2) := by decide +kernel
theorem dL_cells_42 : decode cL_cells 42 = .ok (.invokevirtual 19, 3) := by decide +kernel
theorem dL_cells_45 : decode cL_cells 45 = .ok (.i2l, 1) := by decide +kernel
theorem dL_cells_46 : decode cL_cells 46 = .ok (.ladd, 1) := by decide +kernel
theorem dL_cells_47 : decode cL_cells 47 = .ok (.lmul, 1) := by decide +kernel
theorem dL_cells_48 : decode cL_cells 48 = .ok (.aload_n 0, 1) := by decide +kernel
theorem dL_cells_49 : decode cL_cells 49 = .ok (.iload_n 1, 1) := by decide +kernel
theorem dL_cells_50 : decode cL_cells 50 = .ok (.iload 4, 2) := by decide +kernel
theorem dL_cells_52 : decode cL_cells 52 = .ok (.invokevirtual 22, 3) := by decide +kernel
theorem dL_cells_55 : decode cL_cells 55 = .ok (.i2l, 1) := by decide +kernel
theorem dL_cells_56 : decode cL_cells 56 = .ok (.ladd, 1) := by decide +kernel
theorem dL_cells_57 : decode cL_cells 57 = .ok (.lmul, 1) := by decide +kernel
theorem dL_cells_58 : decode cL_cells 58 = .ok (.aload_n 0, 1) := by decide +kernel
theorem dL_cells_59 : decode cL_cells 59 = .ok (.iload_n 1, 1) := by decide +kernel
theorem dL_cells_60 : decode cL_cells 60 = .ok (.iload 4, 2) := by decide +kernel
theorem dL_cells_62 : decode cL_cells 62 = .ok (.invokevirtual 25, 3) := by decide +kernel
theorem dL_cells_65 : decode cL_cells 65 = .ok (.i2l, 1) := by decide +kernel
theorem dL_cells_66 : decode cL_cells 66 = .ok (.ladd, 1) := by decide +kernel
theorem dL_cells_67 : decode cL_cells 67 = .ok (.lstore_n 2, 1) := by decide +kernel
theorem dL_cells_68 : decode cL_cells 68 = .ok (.iconst 0, 1) := by decide +kernel
theorem dL_cells_69 : decode cL_cells 69 = .ok (.istore 5, 2) := by decide +kernel
theorem dL_cells_71 : decode cL_cells 71 = .ok (.iload 5, 2) := by decide +kernel
theorem dL_cells_73 : decode cL_cells 73 = .ok (.iconst 5, 1) := by decide +kernel
theorem dL_cells_74 : decode cL_cells 74 = .ok (.if_icmp .ge 41, 3) := by decide +kernel
theorem dL_cells_77 : decode cL_cells 77 = .ok (.ldc2_w 11, 3) := by decide +kernel
theorem dL_cells_80 : decode cL_cells 80 = .ok (.ldc2_w 11, 3) := by decide +kernel
theorem dL_cells_83 : decode cL_cells 83 = .ok (.lload_n 2, 1) := by decide +kernel
theorem dL_cells_84 : decode cL_cells 84 = .ok (.lmul, 1) := by decide +kernel
theorem dL_cells_85 : decode cL_cells 85 = .ok (.aload_n 0, 1) := by decide +kernel
theorem dL_cells_86 : decode cL_cells 86 = .ok (.iload_n 1, 1) := by decide +kernel
theorem dL_cells_87 : decode cL_cells 87 = .ok (.iload 4, 2) := by decide +kernel
theorem dL_cells_89 : decode cL_cells 89 = .ok (.iload 5, 2) := by decide +kernel
theorem dL_cells_91 : decode cL_cells 91 = .ok (.invokevirtual 28, 3) := by decide +kernel
theorem dL_cells_94 : decode cL_cells 94 = .ok (.i2l, 1) := by decide +kernel
theorem dL_cells_95 : decode cL_cells 95 = .ok (.ladd, 1) := by decide +kernel
theorem dL_cells_96 : decode cL_cells 96 = .ok (.lmul, 1) := by decide +kernel
theorem dL_cells_97 : decode cL_cells 97 = .ok (.aload_n 0, 1) := by decide +kernel
theorem dL_cells_98 : decode cL_cells 98 = .ok (.iload_n 1, 1) := by decide +kernel
theorem dL_cells_99 : decode cL_cells 99 = .ok (.iload 4, 2) := by decide +kernel
theorem dL_cells_101 : decode cL_cells 101 = .ok (.iload 5, 2) := by decide +kernel
theorem dL_cells_103 : decode cL_cells 103 = .ok (.invokevirtual 32, 3) := by decide +kernel
theorem dL_cells_106 : decode cL_cells 106 = .ok (.i2l, 1) := by decide +kernel
theorem dL_cells_107 : decode cL_cells 107 = .ok (.ladd, 1) := by decide +kernel
theorem dL_cells_108 : decode cL_cells 108 = .ok (.lstore_n 2, 1) := by decide +kernel
theorem dL_cells_109 : decode cL_cells 109 = .ok (.iinc 5 1, 3) := by decide +kernel
theorem dL_cells_112 : decode cL_cells 112 = .ok (.goto (-41), 3) := by decide +kernel
theorem dL_cells_115 : decode cL_cells 115 = .ok (.iinc 4 1, 3) := by decide +kernel
theorem dL_cells_118 : decode cL_cells 118 = .ok (.goto (-111), 3) := by decide +kernel
theorem dL_cells_121 : decode cL_cells 121 = .ok (.lload_n 2, 1) := by decide +kernel
theorem dL_cells_122 : decode cL_cells 122 = .ok (.lreturn, 1) := by decide +kernel
set_option maxRecDepth 20000 in
theorem ggL_told_L_cells : GoodIn wsL_told wsL_cells := goodIn_ca (goodIn_r _ [6, 7, 2, 8, 9, 10, 11, 12, 13, 14, 15, 16, 17, 18, 19, 20, 21, 22, 23, 24, 25, 26, 27, 28, 29, 30, 31, 32, 33, 34, 35, 36, 37, 38, 39, 40, 41, 42, 43, 44, 45, 46, 47, 48, 49, 50, 51, 52, 53, 54, 55, 56, 57, 58, 59, 60, 61, 62, 63, 64, 65, 66, 67, 68, 69, 70, 71, 72, 73, 74, 75, 76, 77, 78, 79, 80, 81, 82, 83, 84, 85, 86, 87, 88, 89, 90, 110, 111, 112, 113, 114, 115, 116, 117, 118] (by decide +kernel) (by decide +kernel)) (goodIn_sub (fun _ h => List.mem_cons_of_mem _ (List.mem_append_left _ (List.mem_append_right _ h))) (by decide +kernel))
set_option maxRecDepth 20000 in
theorem gL_told_L_cells : GoodIn wsL_told (va_wsS RL 37 yL_cells wsL_cells) := goodIn_app (goodIn_of _ (by decide +kernel)) ggL_told_L_cells
set_option maxRecDepth 20000 in
theorem ggL_told_X3_clock : GoodIn wsL_told wsX3_clock := goodIn_ca (goodIn_r _ [94, 13, 14, 15, 11, 16, 17, 18, 110, 111, 112, 113, 114, 115, 116, 117, 118] (by decide +kernel) (by decide +kernel)) (goodIn_sub (fun _ h => List.mem_cons_of_mem _ (List.mem_append_left _ (List.mem_append_right _ h))) (by decide +kernel))
set_option maxRecDepth 20000 in
theorem gL_told_X3_clock : GoodIn wsL_told (wsV RL 43 RX3 yX3_clock wsX3_clock) := goodIn_app (goodIn_of _ (by decide +kernel)) ggL_told_X3_clock
set_option maxRecDepth 20000 in
theorem ggL_told_X3_seen : GoodIn wsL_told wsX3_seen := goodIn_ca (goodIn_r _ [98, 13, 14, 15, 11, 16, 17, 18, 99, 100, 101, 25, 102, 103, 110, 111, 112, 113, 114, 115, 116, 117, 118] (by decide +kernel) (by decide +kernel)) (goodIn_sub (fun _ h => List.mem_cons_of_mem _ (List.mem_append_left _ (List.mem_append_right _ h))) (by decide +kernel))
set_option maxRecDepth 20000 in
theorem gL_told_X3_seen : GoodIn wsL_told (wsV RL 47 RX3 yX3_seen wsX3_seen) := goodIn_app (goodIn_of _ (by decide +kernel)) ggL_told_X3_seen
set_option maxRecDepth 20000 in
theorem ggL_told_X3_latestMerge : GoodIn wsL_told wsX3_latestMerge := goodIn_ca (goodIn_r _ [107, 108, 109, 13, 110, 111, 112, 113, 114, 115, 116, 117, 118] (by decide +kernel) (by decide +kernel)) (goodIn_sub (fun _ h => List.mem_cons_of_mem _ (List.mem_append_right _ h)) (by decide +kernel))
set_option maxRecDepth 20000 in
theorem gL_told_X3_latestMerge : GoodIn wsL_told (wsV RL 50 RX3 yX3_latestMerge wsX3_latestMerge) := goodIn_app (goodIn_of _ (by decide +kernel)) ggL_told_X3_latestMerge
theorem dL_told_0 : decode cL_told 0 = .ok (.ldc2_w 35, 3) := by decide +kernel
theorem dL_told_3 : decode cL_told 3 = .ok (.lstore_n 1, 1) := by decide +kernel
theorem dL_told_4 : decode cL_told 4 = .ok (.iconst 0, 1) := by decide +kernel
theorem dL_told_5 : decode cL_told 5 = .ok (.istore_n 3, 1) := by decide +kernel
theorem dL_told_6 : decode cL_told 6 = .ok (.iload_n 3, 1) := by decide +kernel
theorem dL_told_7 : decode cL_told 7 = .ok (.iconst 4, 1) := by decide +kernel
theorem dL_told_8 : decode cL_told 8 = .ok (.if_icmp .ge 74, 3) := by decide +kernel
theorem dL_told_11 : decode cL_told 11 = .ok (.ldc2_w 11, 3) := by decide +kernel
theorem dL_told_14 : decode cL_told 14 = .ok (.ldc2_w 11, 3) := by decide +kernel
theorem dL_told_17 : decode cL_told 17 = .ok (.lload_n 1, 1) := by decide +kernel
theorem dL_told_18 : decode cL_told 18 = .ok (.lmul, 1) := by decide +kernel
theorem dL_told_19 : decode cL_told 19 = .ok (.aload_n 0, 1) := by decide +kernel
theorem dL_told_20 : decode cL_told 20 = .ok (.iload_n 3, 1) := by decide +kernel
theorem dL_told_21 : decode cL_told 21 = .ok (.invokestatic 37, 3) := by decide +kernel
theorem dL_told_24 : decode cL_told 24 = .ok (.ladd, 1) := by decide +kernel
theorem dL_told_25 : decode cL_told 25 = .ok (.lmul, 1) := by decide +kernel
theorem dL_told_26 : decode cL_told 26 = .ok (.aload_n 0, 1) := by decide +kernel
theorem dL_told_27 : decode cL_told 27 = .ok (.iload_n 3, 1) := by decide +kernel
theorem dL_told_28 : decode cL_told 28 = .ok (.invokevirtual 43, 3) := by decide +kernel
theorem dL_told_31 : decode cL_told 31 = .ok (.i2l, 1) := by decide +kernel
theorem dL_told_32 : decode cL_told 32 = .ok (.ladd, 1) := by decide +kernel
theorem dL_told_33 : decode cL_told 33 = .ok (.lstore_n 1, 1) := by decide +kernel
theorem dL_told_34 : decode cL_told 34 = .ok (.iconst 0, 1) := by decide +kernel
theorem dL_told_35 : decode cL_told 35 = .ok (.istore 4, 2) := by decide +kernel
theorem dL_told_37 : decode cL_told 37 = .ok (.iload 4, 2) := by decide +kernel
theorem dL_told_39 : decode cL_told 39 = .ok (.iconst 4, 1) := by decide +kernel
theorem dL_told_40 : decode cL_told 40 = .ok (.if_icmp .ge 36, 3) := by decide +kernel
theorem dL_told_43 : decode cL_told 43 = .ok (.ldc2_w 11, 3) := by decide +kernel
theorem dL_told_46 : decode cL_told 46 = .ok (.ldc2_w 11, 3) := by decide +kernel
theorem dL_told_49 : decode cL_told 49 = .ok (.lload_n 1, 1) := by decide +kernel
theorem dL_told_50 : decode cL_told 50 = .ok (.lmul, 1) := by decide +kernel
theorem dL_told_51 : decode cL_told 51 = .ok (.aload_n 0, 1) := by decide +kernel
theorem dL_told_52 : decode cL_told 52 = .ok (.iload_n 3, 1) := by decide +kernel
theorem dL_told_53 : decode cL_told 53 = .ok (.iload 4, 2) := by decide +kernel
theorem dL_told_55 : decode cL_told 55 = .ok (.invokevirtual 47, 3) := by decide +kernel
theorem dL_told_58 : decode cL_told 58 = .ok (.i2l, 1) := by decide +kernel
theorem dL_told_59 : decode cL_told 59 = .ok (.ladd, 1) := by decide +kernel
theorem dL_told_60 : decode cL_told 60 = .ok (.lmul, 1) := by decide +kernel
theorem dL_told_61 : decode cL_told 61 = .ok (.aload_n 0, 1) := by decide +kernel
theorem dL_told_62 : decode cL_told 62 = .ok (.iload 4, 2) := by decide +kernel
theorem dL_told_64 : decode cL_told 64 = .ok (.invokevirtual 50, 3) := by decide +kernel
theorem dL_told_67 : decode cL_told 67 = .ok (.i2l, 1) := by decide +kernel
theorem dL_told_68 : decode cL_told 68 = .ok (.ladd, 1) := by decide +kernel
theorem dL_told_69 : decode cL_told 69 = .ok (.lstore_n 1, 1) := by decide +kernel
theorem dL_told_70 : decode cL_told 70 = .ok (.iinc 4 1, 3) := by decide +kernel
theorem dL_told_73 : decode cL_told 73 = .ok (.goto (-36), 3) := by decide +kernel
theorem dL_told_76 : decode cL_told 76 = .ok (.iinc 3 1, 3) := by decide +kernel
theorem dL_told_79 : decode cL_told 79 = .ok (.goto (-73), 3) := by decide +kernel
theorem dL_told_82 : decode cL_told 82 = .ok (.lload_n 1, 1) := by decide +kernel
theorem dL_told_83 : decode cL_told 83 = .ok (.lreturn, 1) := by decide +kernel
set_option maxRecDepth 20000 in
theorem ggL_updates_L_up : GoodIn wsL_updates wsL_up := goodIn_r _ [6, 7] (by decide +kernel) (by decide +kernel)
set_option maxRecDepth 20000 in
theorem gL_updates_L_up : GoodIn wsL_updates (va_wsS RL 53 yL_up wsL_up) := goodIn_app (goodIn_of _ (by decide +kernel)) ggL_updates_L_up
set_option maxRecDepth 20000 in
theorem ggL_updates_X3_clock : GoodIn wsL_updates wsX3_clock := goodIn_ca (goodIn_r _ [12, 13, 14, 15, 11, 16, 17, 18, 214, 215, 216, 217, 218, 219, 220, 221, 222] (by decide +kernel) (by decide +kernel)) (goodIn_sub (fun _ h => List.mem_cons_of_mem _ (List.mem_append_left _ (List.mem_append_right _ h))) (by decide +kernel))
set_option maxRecDepth 20000 in
theorem gL_updates_X3_clock : GoodIn wsL_updates (wsV RL 43 RX3 yX3_clock wsX3_clock) := goodIn_app (goodIn_of _ (by decide +kernel)) ggL_updates_X3_clock
set_option maxRecDepth 20000 in
theorem ggL_updates_X3_seen : GoodIn wsL_updates wsX3_seen := goodIn_ca (goodIn_r _ [22, 13, 14, 15, 11, 16, 17, 18, 23, 24, 25, 26, 27, 28, 214, 215, 216, 217, 218, 219, 220, 221, 222] (by decide +kernel) (by decide +kernel)) (goodIn_sub (fun _ h => List.mem_cons_of_mem _ (List.mem_append_left _ (List.mem_append_right _ h))) (by decide +kernel))
set_option maxRecDepth 20000 in
theorem gL_updates_X3_seen : GoodIn wsL_updates (wsV RL 47 RX3 yX3_seen wsX3_seen) := goodIn_app (goodIn_of _ (by decide +kernel)) ggL_updates_X3_seen
set_option maxRecDepth 20000 in
theorem ggL_updates_L_cells : GoodIn wsL_updates wsL_cells := goodIn_ca (goodIn_r _ [31, 32, 33, 34, 35, 36, 11, 37, 13, 14, 15, 16, 17, 18, 38, 39, 40, 41, 42, 43, 26, 44, 45, 46, 47, 48, 49, 50, 51, 52, 53, 54, 55, 56, 57, 58, 59, 60, 61, 62, 63, 64, 65, 66, 67, 68, 69, 70, 71, 72, 73, 74, 75, 76, 77, 78, 79, 80, 81, 82, 83, 84, 85, 86, 87, 88, 89, 90, 91, 92, 93, 94, 95, 96, 97, 98, 99, 100, 101, 102, 103, 104, 105, 106, 107, 108, 214, 215, 216, 217, 218, 219, 220, 221, 222] (by decide +kernel) (by decide +kernel)) (goodIn_sub (fun _ h => List.mem_cons_of_mem _ (List.mem_append_left _ (List.mem_append_right _ h))) (by decide +kernel))
set_option maxRecDepth 20000 in
theorem gL_updates_L_cells : GoodIn wsL_updates (va_wsS RL 37 yL_cells wsL_cells) := goodIn_app (goodIn_of _ (by decide +kernel)) ggL_updates_L_cells
set_option maxRecDepth 20000 in
theorem ggL_updates_X3_entries : GoodIn wsL_updates wsX3_entries := goodIn_ca (goodIn_r _ [88, 17, 18, 13, 14, 15, 11, 16, 38, 39, 40, 89, 90, 91, 26, 92, 48, 49, 50, 51, 52, 53, 54, 55, 56, 93, 94, 95, 96, 45, 214, 215, 216, 217, 218, 219, 220, 221, 222] (by decide +kernel) (by decide +kernel)) (goodIn_sub (fun _ h => List.mem_cons_of_mem _ (List.mem_append_left _ (List.mem_append_right _ h))) (by decide +kernel))
set_option maxRecDepth 20000 in
theorem gL_updates_X3_entries : GoodIn wsL_updates (wsV RL 28 RX3 yX3_entries wsX3_entries) := goodIn_app (goodIn_of _ (by decide +kernel)) ggL_updates_X3_entries
set_option maxRecDepth 20000 in
theorem ggL_updates_X3_put : GoodIn wsL_updates wsX3_put := goodIn_ca (goodIn_ca (goodIn_r _ [112, 17, 18, 113, 114, 115, 13, 14, 15, 11, 16, 38, 39, 40, 116, 117, 118, 119, 120, 121, 122, 123, 124, 125, 26, 126, 127, 128, 129, 130, 131, 45, 46, 47, 28, 132, 133, 134, 135, 136, 137, 138, 139, 140, 141, 142, 143, 144, 145, 65, 66, 67, 68, 146, 147, 148, 149, 150, 62, 63, 64, 54, 55, 56, 51, 52, 53, 48, 49, 50, 151, 152, 153, 154, 155, 156, 157, 158, 93, 94, 95, 96, 159, 160, 161, 162, 163, 24, 25, 27, 214, 215, 216, 223, 224, 225, 217, 218, 219, 220, 221, 222] (by decide +kernel) (by decide +kernel)) (goodIn_sub (fun _ h => List.mem_cons_of_mem _ (List.mem_append_left _ (List.mem_append_right _ h))) (by decide +kernel))) (goodIn_sub (fun _ h => List.mem_cons_of_mem _ (List.mem_append_right _ h)) (by decide +kernel))
set_option maxRecDepth 20000 in
theorem gL_updates_X3_put : GoodIn wsL_updates (wsV RL 60 RX3 yX3_put wsX3_put) := goodIn_app (goodIn_of _ (by decide +kernel)) ggL_updates_X3_put
set_option maxRecDepth 20000 in
theorem ggL_updates_X3_latest : GoodIn wsL_updates wsX3_latest := goodIn_ca (goodIn_r _ [37, 13, 14, 15, 11, 16, 17, 18, 38, 39, 40, 41, 42, 43, 26, 44, 45, 46, 47, 48, 49, 50, 51, 52, 53, 54, 55, 56, 214, 215, 216, 217, 218, 219, 220, 221, 222] (by decide +kernel) (by decide +kernel)) (goodIn_sub (fun _ h => List.mem_cons_of_mem _ (List.mem_append_left _ (List.mem_append_right _ h))) (by decide +kernel))
set_option maxRecDepth 20000 in
theorem gL_updates_X3_latest : GoodIn wsL_updates (wsV RL 13 RX3 yX3_latest wsX3_latest) := goodIn_app (goodIn_of _ (by decide +kernel)) ggL_updates_X3_latest
set_option maxRecDepth 20000 in
theorem ggL_updates_X3_sibling : GoodIn wsL_updates wsX3_sibling := goodIn_ca (goodIn_r _ [100, 17, 18, 13, 14, 15, 11, 16, 38, 39, 40, 101, 102, 103, 26, 104, 45, 47, 48, 49, 50, 51, 52, 53, 54, 55, 56, 105, 106, 107, 108, 214, 215, 216, 217, 218, 219, 220, 221, 222] (by decide +kernel) (by decide +kernel)) (goodIn_sub (fun _ h => List.mem_cons_of_mem _ (List.mem_append_left _ (List.mem_append_right _ h))) (by decide +kernel))
set_option maxRecDepth 20000 in
theorem gL_updates_X3_sibling : GoodIn wsL_updates (wsV RL 32 RX3 yX3_sibling wsX3_sibling) := goodIn_app (goodIn_of _ (by decide +kernel)) ggL_updates_X3_sibling
set_option maxRecDepth 20000 in
theorem ggL_updates_X3_mean : GoodIn wsL_updates wsX3_mean := goodIn_ca (goodIn_r _ [167, 13, 14, 15, 11, 16, 17, 18, 38, 39, 40, 89, 90, 91, 26, 92, 48, 49, 50, 51, 52, 53, 54, 55, 56, 93, 94, 95, 96, 45, 73, 74, 75, 76, 47, 214, 215, 216, 217, 218, 219, 220, 221, 222] (by decide +kernel) (by decide +kernel)) (goodIn_sub (fun _ h => List.mem_cons_of_mem _ (List.mem_append_left _ (List.mem_append_right _ h))) (by decide +kernel))
set_option maxRecDepth 20000 in
theorem gL_updates_X3_mean : GoodIn wsL_updates (wsV RL 64 RX3 yX3_mean wsX3_mean) := goodIn_app (goodIn_of _ (by decide +kernel)) ggL_updates_X3_mean
set_option maxRecDepth 20000 in
theorem ggL_updates_X3_greatest : GoodIn wsL_updates wsX3_greatest := goodIn_ca (goodIn_r _ [60, 13, 14, 15, 11, 16, 17, 18, 38, 39, 40, 61, 62, 63, 26, 64, 45, 47, 65, 66, 67, 68, 54, 55, 56, 51, 52, 53, 48, 49, 50, 214, 215, 216, 217, 218, 219, 220, 221, 222] (by decide +kernel) (by decide +kernel)) (goodIn_sub (fun _ h => List.mem_cons_of_mem _ (List.mem_append_left _ (List.mem_append_right _ h))) (by decide +kernel))
set_option maxRecDepth 20000 in
theorem gL_updates_X3_greatest : GoodIn wsL_updates (wsV RL 19 RX3 yX3_greatest wsX3_greatest) := goodIn_app (goodIn_of _ (by decide +kernel)) ggL_updates_X3_greatest
set_option maxRecDepth 20000 in
theorem ggL_updates_X3_counter : GoodIn wsL_updates wsX3_counter := goodIn_ca (goodIn_r _ [72, 13, 14, 15, 11, 16, 17, 18, 38, 39, 40, 73, 74, 75, 26, 76, 45, 47, 54, 55, 56, 51, 52, 53, 48, 49, 50, 214, 215, 216, 217, 218, 219, 220, 221, 222] (by decide +kernel) (by decide +kernel)) (goodIn_sub (fun _ h => List.mem_cons_of_mem _ (List.mem_append_left _ (List.mem_append_right _ h))) (by decide +kernel))
set_option maxRecDepth 20000 in
theorem gL_updates_X3_counter : GoodIn wsL_updates (wsV RL 22 RX3 yX3_counter wsX3_counter) := goodIn_app (goodIn_of _ (by decide +kernel)) ggL_updates_X3_counter
set_option maxRecDepth 20000 in
theorem ggL_updates_X3_add : GoodIn wsL_updates wsX3_add := goodIn_ca (goodIn_ca (goodIn_r _ [171, 113, 114, 115, 13, 14, 15, 11, 16, 17, 18, 38, 39, 40, 116, 117, 118, 119, 120, 121, 122, 123, 124, 125, 26, 126, 127, 128, 129, 130, 131, 45, 46, 47, 28, 132, 133, 134, 135, 136, 137, 138, 139, 140, 141, 172, 173, 174, 175, 146, 147, 148, 149, 51, 52, 53, 159, 160, 161, 162, 163, 24, 25, 27, 73, 74, 75, 76, 54, 55, 56, 48, 49, 50, 214, 215, 216, 223, 224, 225, 217, 218, 219, 220, 221, 222] (by decide +kernel) (by decide +kernel)) (goodIn_sub (fun _ h => List.mem_cons_of_mem _ (List.mem_append_right _ h)) (by decide +kernel))) (goodIn_sub (fun _ h => List.mem_cons_of_mem _ (List.mem_append_left _ (List.mem_append_right _ h))) (by decide +kernel))
set_option maxRecDepth 20000 in
theorem gL_updates_X3_add : GoodIn wsL_updates (wsV RL 68 RX3 yX3_add wsX3_add) := goodIn_app (goodIn_of _ (by decide +kernel)) ggL_updates_X3_add
set_option maxRecDepth 20000 in
theorem ggL_updates_X3_elements : GoodIn wsL_updates wsX3_elements := goodIn_ca (goodIn_r _ [80, 13, 14, 15, 11, 16, 17, 18, 38, 39, 40, 81, 82, 83, 26, 84, 45, 47, 54, 55, 56, 51, 52, 53, 48, 49, 50, 214, 215, 216, 217, 218, 219, 220, 221, 222] (by decide +kernel) (by decide +kernel)) (goodIn_sub (fun _ h => List.mem_cons_of_mem _ (List.mem_append_left _ (List.mem_append_right _ h))) (by decide +kernel))
set_option maxRecDepth 20000 in
theorem gL_updates_X3_elements : GoodIn wsL_updates (wsV RL 25 RX3 yX3_elements wsX3_elements) := goodIn_app (goodIn_of _ (by decide +kernel)) ggL_updates_X3_elements
set_option maxRecDepth 20000 in
theorem ggL_updates_X3_include : GoodIn wsL_updates wsX3_include := goodIn_ca (goodIn_ca (goodIn_r _ [179, 115, 13, 14, 15, 11, 16, 17, 18, 38, 39, 40, 180, 181, 182, 113, 114, 116, 117, 118, 119, 120, 121, 122, 123, 124, 125, 26, 126, 127, 128, 129, 130, 131, 45, 46, 47, 28, 132, 133, 134, 135, 136, 137, 138, 139, 140, 141, 183, 184, 185, 186, 146, 147, 148, 149, 187, 188, 189, 151, 152, 153, 154, 51, 52, 53, 155, 156, 157, 158, 93, 94, 95, 96, 159, 160, 161, 162, 163, 24, 25, 27, 214, 215, 216, 223, 224, 225, 217, 218, 219, 220, 221, 222] (by decide +kernel) (by decide +kernel)) (goodIn_sub (fun _ h => List.mem_cons_of_mem _ (List.mem_append_left _ (List.mem_append_right _ h))) (by decide +kernel))) (goodIn_sub (fun _ h => List.mem_cons_of_mem _ (List.mem_append_right _ h)) (by decide +kernel))
set_option maxRecDepth 20000 in
theorem gL_updates_X3_include : GoodIn wsL_updates (wsV RL 71 RX3 yX3_include wsX3_include) := goodIn_app (goodIn_of _ (by decide +kernel)) ggL_updates_X3_include
set_option maxRecDepth 20000 in
theorem ggL_updates_X3_exclude : GoodIn wsL_updates wsX3_exclude := goodIn_ca (goodIn_ca (goodIn_r _ [193, 115, 13, 14, 15, 11, 16, 17, 18, 38, 39, 40, 180, 181, 182, 113, 114, 116, 117, 118, 119, 120, 121, 122, 123, 124, 125, 26, 126, 127, 128, 129, 130, 131, 45, 46, 47, 28, 132, 133, 134, 135, 136, 137, 138, 139, 140, 141, 194, 195, 196, 197, 146, 147, 148, 149, 187, 188, 189, 151, 152, 153, 154, 51, 52, 53, 155, 156, 157, 158, 93, 94, 95, 96, 214, 215, 216, 223, 224, 225, 217, 218, 219, 220, 221, 222] (by decide +kernel) (by decide +kernel)) (goodIn_sub (fun _ h => List.mem_cons_of_mem _ (List.mem_append_left _ (List.mem_append_right _ h))) (by decide +kernel))) (goodIn_sub (fun _ h => List.mem_cons_of_mem _ (List.mem_append_right _ h)) (by decide +kernel))
set_option maxRecDepth 20000 in
theorem gL_updates_X3_exclude : GoodIn wsL_updates (wsV RL 74 RX3 yX3_exclude wsX3_exclude) := goodIn_app (goodIn_of _ (by decide +kernel)) ggL_updates_X3_exclude
set_option maxRecDepth 20000 in
theorem ggL_updates_X3_exists : GoodIn wsL_updates wsX3_exists := goodIn_ca (goodIn_r _ [201, 13, 14, 15, 11, 16, 17, 18, 38, 39, 40, 202, 203, 204, 26, 205, 51, 52, 53, 93, 94, 95, 96, 45, 214, 215, 216, 217, 218, 219, 220, 221, 222] (by decide +kernel) (by decide +kernel)) (goodIn_sub (fun _ h => List.mem_cons_of_mem _ (List.mem_append_left _ (List.mem_append_right _ h))) (by decide +kernel))
set_option maxRecDepth 20000 in
theorem gL_updates_X3_exists : GoodIn wsL_updates (wsV RL 77 RX3 yX3_exists wsX3_exists) := goodIn_app (goodIn_of _ (by decide +kernel)) ggL_updates_X3_exists
set_option maxRecDepth 20000 in
theorem ggL_updates_X3_delete : GoodIn wsL_updates wsX3_delete := goodIn_ca (goodIn_r _ [209, 115, 13, 14, 15, 11, 16, 17, 18, 38, 39, 40, 116, 117, 118, 119, 120, 121, 122, 123, 124, 125, 26, 126, 127, 128, 129, 130, 131, 45, 46, 47, 28, 132, 133, 134, 135, 136, 137, 138, 139, 140, 141, 210, 211, 212, 213, 146, 147, 148, 149, 51, 52, 53, 155, 156, 157, 158, 93, 94, 95, 96, 214, 215, 216, 223, 224, 225, 217, 218, 219, 220, 221, 222] (by decide +kernel) (by decide +kernel)) (goodIn_sub (fun _ h => List.mem_cons_of_mem _ (List.mem_append_left _ (List.mem_append_right _ h))) (by decide +kernel))
set_option maxRecDepth 20000 in
theorem gL_updates_X3_delete : GoodIn wsL_updates (wsV RL 81 RX3 yX3_delete wsX3_delete) := goodIn_app (goodIn_of _ (by decide +kernel)) ggL_updates_X3_delete
theorem dL_updates_0 : decode cL_updates 0 = .ok (.iload_n 3, 1) := by decide +kernel
theorem dL_updates_1 : decode cL_updates 1 = .ok (.iconst 3, 1) := by decide +kernel
theorem dL_updates_2 : decode cL_updates 2 = .ok (.invokestatic 53, 3) := by decide +kernel
theorem dL_updates_5 : decode cL_updates 5 = .ok (.istore 4, 2) := by decide +kernel
theorem dL_updates_7 : decode cL_updates 7 = .ok (.iload_n 3, 1) := by decide +kernel
theorem dL_updates_8 : decode cL_updates 8 = .ok (.iconst 2, 1) := by decide +kernel
theorem dL_updates_9 : decode cL_updates 9 = .ok (.ishr, 1) := by decide +kernel
theorem dL_updates_10 : decode cL_updates 10 = .ok (.sipush 1000, 3) := by decide +kernel
theorem dL_updates_13 : decode cL_updates 13 = .ok (.invokestatic 53, 3) := by decide +kernel
theorem dL_updates_16 : decode cL_updates 16 = .ok (.istore 5, 2) := by decide +kernel
theorem dL_updates_18 : decode cL_updates 18 = .ok (.iload_n 3, 1) := by decide +kernel
theorem dL_updates_19 : decode cL_updates 19 = .ok (.iconst 2, 1) := by decide +kernel
theorem dL_updates_20 : decode cL_updates 20 = .ok (.ishr, 1) := by decide +kernel
theorem dL_updates_21 : decode cL_updates 21 = .ok (.bipush 6, 2) := by decide +kernel
theorem dL_updates_23 : decode cL_updates 23 = .ok (.invokestatic 53, 3) := by decide +kernel
theorem dL_updates_26 : decode cL_updates 26 = .ok (.istore 6, 2) := by decide +kernel
theorem dL_updates_28 : decode cL_updates 28 = .ok (.iload_n 3, 1) := by decide +kernel
theorem dL_updates_29 : decode cL_updates 29 = .ok (.bipush 12, 2) := by decide +kernel
theorem dL_updates_31 : decode cL_updates 31 = .ok (.ishr, 1) := by decide +kernel
theorem dL_updates_32 : decode cL_updates 32 = .ok (.iconst 1, 1) := by decide +kernel
theorem dL_updates_33 : decode cL_updates 33 = .ok (.iand, 1) := by decide +kernel
theorem dL_updates_34 : decode cL_updates 34 = .ok (.ifCond .ne 16, 3) := by decide +kernel
theorem dL_updates_37 : decode cL_updates 37 = .ok (.iconst 1, 1) := by decide +kernel
theorem dL_updates_38 : decode cL_updates 38 = .ok (.iload_n 3, 1) := by decide +kernel
theorem dL_updates_39 : decode cL_updates 39 = .ok (.iconst 2, 1) := by decide +kernel
theorem dL_updates_40 : decode cL_updates 40 = .ok (.ishr, 1) := by decide +kernel
theorem dL_updates_41 : decode cL_updates 41 = .ok (.bipush 99, 2) := by decide +kernel
theorem dL_updates_43 : decode cL_updates 43 = .ok (.invokestatic 53, 3) := by decide +kernel
theorem dL_updates_46 : decode cL_updates 46 = .ok (.iadd, 1) := by decide +kernel
theorem dL_updates_47 : decode cL_updates 47 = .ok (.goto 13, 3) := by decide +kernel
theorem dL_updates_50 : decode cL_updates 50 = .ok (.iconst (-1), 1) := by decide +kernel
theorem dL_updates_51 : decode cL_updates 51 = .ok (.iload_n 3, 1) := by decide +kernel
theorem dL_updates_52 : decode cL_updates 52 = .ok (.iconst 2, 1) := by decide +kernel
theorem dL_updates_53 : decode cL_updates 53 = .ok (.ishr, 1) := by decide +kernel
theorem dL_updates_54 : decode cL_updates 54 = .ok (.bipush 99, 2) := by decide +kernel
theorem dL_updates_56 : decode cL_updates 56 = .ok (.invokestatic 53, 3) := by decide +kernel
theorem dL_updates_59 : decode cL_updates 59 = .ok (.isub, 1) := by decide +kernel
theorem dL_updates_60 : decode cL_updates 60 = .ok (.istore 7, 2) := by decide +kernel
theorem dL_updates_62 : decode cL_updates 62 = .ok (.aload_n 0, 1) := by decide +kernel
theorem dL_updates_63 : decode cL_updates 63 = .ok (.iload_n 1, 1) := by decide +kernel
theorem dL_updates_64 : decode cL_updates 64 = .ok (.invokevirtual 43, 3) := by decide +kernel
theorem dL_updates_67 : decode cL_updates 67 = .ok (.istore 8, 2) := by decide +kernel
theorem dL_updates_69 : decode cL_updates 69 = .ok (.aload_n 0, 1) := by decide +kernel
theorem dL_updates_70 : decode cL_updates 70 = .ok (.iload_n 1, 1) := by decide +kernel
theorem dL_updates_71 : decode cL_updates 71 = .ok (.iload_n 1, 1) := by decide +kernel
theorem dL_updates_72 : decode cL_updates 72 = .ok (.invokevirtual 47, 3) := by decide +kernel
theorem dL_updates_75 : decode cL_updates 75 = .ok (.istore 9, 2) := by decide +kernel
theorem dL_updates_77 : decode cL_updates 77 = .ok (.aload_n 0, 1) := by decide +kernel
theorem dL_updates_78 : decode cL_updates 78 = .ok (.iload_n 1, 1) := by decide +kernel
theorem dL_updates_79 : decode cL_updates 79 = .ok (.iconst 1, 1) := by decide +kernel
theorem dL_updates_80 : decode cL_updates 80 = .ok (.iadd, 1) := by decide +kernel
theorem dL_updates_81 : decode cL_updates 81 = .ok (.iconst 4, 1) := by decide +kernel
theorem dL_updates_82 : decode cL_updates 82 = .ok (.irem, 1) := by decide +kernel
theorem dL_updates_83 : decode cL_updates 83 = .ok (.invokestatic 37, 3) := by decide +kernel
theorem dL_updates_86 : decode cL_updates 86 = .ok (.ldc2_w 56, 3) := by decide +kernel
theorem dL_updates_89 : decode cL_updates 89 = .ok (.aload_n 0, 1) := by decide +kernel
theorem dL_updates_90 : decode cL_updates 90 = .ok (.iload_n 1, 1) := by decide +kernel
theorem dL_updates_91 : decode cL_updates 91 = .ok (.iconst 2, 1) := by decide +kernel
theorem dL_updates_92 : decode cL_updates 92 = .ok (.iadd, 1) := by decide +kernel
theorem dL_updates_93 : decode cL_updates 93 = .ok (.iconst 4, 1) := by decide +kernel
theorem dL_updates_94 : decode cL_updates 94 = .ok (.irem, 1) := by decide +kernel
theorem dL_updates_95 : decode cL_updates 95 = .ok (.invokestatic 37, 3) := by decide +kernel
theorem dL_updates_98 : decode cL_updates 98 = .ok (.lmul, 1) := by decide +kernel
theorem dL_updates_99 : decode cL_updates 99 = .ok (.ladd, 1) := by decide +kernel
theorem dL_updates_100 : decode cL_updates 100 = .ok (.ldc2_w 58, 3) := by decide +kernel
theorem dL_updates_103 : decode cL_updates 103 = .ok (.aload_n 0, 1) := by decide +kernel
theorem dL_updates_104 : decode cL_updates 104 = .ok (.iload_n 1, 1) := by decide +kernel
theorem dL_updates_105 : decode cL_updates 105 = .ok (.iconst 3, 1) := by decide +kernel
theorem dL_updates_106 : decode cL_updates 106 = .ok (.iadd, 1) := by decide +kernel
theorem dL_updates_107 : decode cL_updates 107 = .ok (.iconst 4, 1) := by decide +kernel
theorem dL_updates_108 : decode cL_updates 108 = .ok (.irem, 1) := by decide +kernel
theorem dL_updates_109 : decode cL_updates 109 = .ok (.invokestatic 37, 3) := by decide +kernel
theorem dL_updates_112 : decode cL_updates 112 = .ok (.lmul, 1) := by decide +kernel
theorem dL_updates_113 : decode cL_updates 113 = .ok (.ladd, 1) := by decide +kernel
theorem dL_updates_114 : decode cL_updates 114 = .ok (.lstore 10, 2) := by decide +kernel
theorem dL_updates_116 : decode cL_updates 116 = .ok (.iconst 0, 1) := by decide +kernel
theorem dL_updates_117 : decode cL_updates 117 = .ok (.istore 12, 2) := by decide +kernel
theorem dL_updates_119 : decode cL_updates 119 = .ok (.iconst 0, 1) := by decide +kernel
theorem dL_updates_120 : decode cL_updates 120 = .ok (.istore 13, 2) := by decide +kernel
theorem dL_updates_122 : decode cL_updates 122 = .ok (.iload 13, 2) := by decide +kernel
theorem dL_updates_124 : decode cL_updates 124 = .ok (.iconst 5, 1) := by decide +kernel
theorem dL_updates_125 : decode cL_updates 125 = .ok (.if_icmp .ge 23, 3) := by decide +kernel
theorem dL_updates_128 : decode cL_updates 128 = .ok (.iload 12, 2) := by decide +kernel
theorem dL_updates_130 : decode cL_updates 130 = .ok (.aload_n 0, 1) := by decide +kernel
theorem dL_updates_131 : decode cL_updates 131 = .ok (.iload_n 1, 1) := by decide +kernel
theorem dL_updates_132 : decode cL_updates 132 = .ok (.iload 4, 2) := by decide +kernel
theorem dL_updates_134 : decode cL_updates 134 = .ok (.iload 13, 2) := by decide +kernel
theorem dL_updates_136 : decode cL_updates 136 = .ok (.invokevirtual 28, 3) := by decide +kernel
theorem dL_updates_139 : decode cL_updates 139 = .ok (.iadd, 1) := by decide +kernel
theorem dL_updates_140 : decode cL_updates 140 = .ok (.istore 12, 2) := by decide +kernel
theorem dL_updates_142 : decode cL_updates 142 = .ok (.iinc 13 1, 3) := by decide +kernel
theorem dL_updates_145 : decode cL_updates 145 = .ok (.goto (-23), 3) := by decide +kernel
theorem dL_updates_148 : decode cL_updates 148 = .ok (.iconst 0, 1) := by decide +kernel
theorem dL_updates_149 : decode cL_updates 149 = .ok (.istore 13, 2) := by decide +kernel
