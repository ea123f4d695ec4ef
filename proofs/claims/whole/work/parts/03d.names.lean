theorem dX3_init_0 : decode cX3_init 0 = .ok (.aload_n 0, 1) := by decide +kernel
theorem dX3_init_1 : decode cX3_init 1 = .ok (.invokespecial 1, 3) := by decide +kernel
theorem dX3_init_4 : decode cX3_init 4 = .ok (.aload_n 0, 1) := by decide +kernel
theorem dX3_init_5 : decode cX3_init 5 = .ok (.new 7, 3) := by decide +kernel
theorem dX3_init_8 : decode cX3_init 8 = .ok (.dup, 1) := by decide +kernel
theorem dX3_init_9 : decode cX3_init 9 = .ok (.invokespecial 9, 3) := by decide +kernel
theorem dX3_init_12 : decode cX3_init 12 = .ok (.putfield 10, 3) := by decide +kernel
theorem dX3_init_15 : decode cX3_init 15 = .ok (.aload_n 0, 1) := by decide +kernel
theorem dX3_init_16 : decode cX3_init 16 = .ok (.new 16, 3) := by decide +kernel
theorem dX3_init_19 : decode cX3_init 19 = .ok (.dup, 1) := by decide +kernel
theorem dX3_init_20 : decode cX3_init 20 = .ok (.invokespecial 18, 3) := by decide +kernel
theorem dX3_init_23 : decode cX3_init 23 = .ok (.putfield 19, 3) := by decide +kernel
theorem dX3_init_26 : decode cX3_init 26 = .ok (.aload_n 0, 1) := by decide +kernel
theorem dX3_init_27 : decode cX3_init 27 = .ok (.new 23, 3) := by decide +kernel
theorem dX3_init_30 : decode cX3_init 30 = .ok (.dup, 1) := by decide +kernel
theorem dX3_init_31 : decode cX3_init 31 = .ok (.invokespecial 25, 3) := by decide +kernel
theorem dX3_init_34 : decode cX3_init 34 = .ok (.putfield 26, 3) := by decide +kernel
theorem dX3_init_37 : decode cX3_init 37 = .ok (.return_, 1) := by decide +kernel
set_option maxRecDepth 20000 in
theorem ggX3_put_X3_checkReplica : GoodIn wsX3_put wsX3_checkReplica := goodIn_ca (goodIn_r _ [10, 1, 2] (by decide +kernel) (by decide +kernel)) (goodIn_sub (fun _ h => List.mem_cons_of_mem _ (List.mem_append_left _ (List.mem_append_right _ h))) (by decide +kernel))
set_option maxRecDepth 20000 in
theorem gX3_put_X3_checkReplica : GoodIn wsX3_put (va_wsS RX3 30 yX3_checkReplica wsX3_checkReplica) := goodIn_app (goodIn_of _ (by decide +kernel)) ggX3_put_X3_checkReplica
set_option maxRecDepth 20000 in
theorem ggX3_put_X3_checkRow : GoodIn wsX3_put wsX3_checkRow := goodIn_ca (goodIn_r _ [13, 1, 2] (by decide +kernel) (by decide +kernel)) (goodIn_sub (fun _ h => List.mem_cons_of_mem _ (List.mem_append_left _ (List.mem_append_right _ h))) (by decide +kernel))
set_option maxRecDepth 20000 in
theorem gX3_put_X3_checkRow : GoodIn wsX3_put (va_wsS RX3 34 yX3_checkRow wsX3_checkRow) := goodIn_app (goodIn_of _ (by decide +kernel)) ggX3_put_X3_checkRow
set_option maxRecDepth 20000 in
theorem ggX3_put_X0_save : GoodIn wsX3_put wsX0_save := goodIn_r _ [18, 19, 20, 21, 22, 23, 24, 25, 26, 27, 28, 29, 30, 31, 32, 33, 34, 35, 36, 37, 38, 39, 40, 41, 42, 43, 44, 93, 94, 95, 96, 97, 98, 99, 100, 101] (by decide +kernel) (by decide +kernel)
set_option maxRecDepth 20000 in
theorem gX3_put_X0_save : GoodIn wsX3_put (wsV RX3 49 RX0 yX0_save wsX0_save) := goodIn_app (goodIn_of _ (by decide +kernel)) ggX3_put_X0_save
set_option maxRecDepth 20000 in
theorem ggX3_put_X1_putValue : GoodIn wsX3_put wsX1_putValue := goodIn_r _ [48, 49, 50, 51, 52, 53, 54, 55, 24, 56, 35, 34, 57, 58, 59, 60, 31, 33, 61, 62, 63, 64, 65, 66, 67, 68, 69, 70, 71, 72, 73, 74, 75, 76, 77, 78, 79, 80, 81, 82, 83, 84, 85, 32, 86, 87, 88, 89, 96, 97, 98, 99, 100, 101] (by decide +kernel) (by decide +kernel)
set_option maxRecDepth 20000 in
theorem gX3_put_X1_putValue : GoodIn wsX3_put (wsV RX3 53 RX1 yX1_putValue wsX1_putValue) := goodIn_app (goodIn_of _ (by decide +kernel)) ggX3_put_X1_putValue
theorem dX3_put_0 : decode cX3_put 0 = .ok (.iload_n 1, 1) := by decide +kernel
theorem dX3_put_1 : decode cX3_put 1 = .ok (.invokestatic 30, 3) := by decide +kernel
theorem dX3_put_4 : decode cX3_put 4 = .ok (.iload_n 2, 1) := by decide +kernel
theorem dX3_put_5 : decode cX3_put 5 = .ok (.invokestatic 34, 3) := by decide +kernel
theorem dX3_put_8 : decode cX3_put 8 = .ok (.iload_n 3, 1) := by decide +kernel
theorem dX3_put_9 : decode cX3_put 9 = .ok (.ifCond .eq 23, 3) := by decide +kernel
theorem dX3_put_12 : decode cX3_put 12 = .ok (.iload_n 3, 1) := by decide +kernel
theorem dX3_put_13 : decode cX3_put 13 = .ok (.iconst 1, 1) := by decide +kernel
theorem dX3_put_14 : decode cX3_put 14 = .ok (.if_icmp .eq 18, 3) := by decide +kernel
theorem dX3_put_17 : decode cX3_put 17 = .ok (.iload_n 3, 1) := by decide +kernel
theorem dX3_put_18 : decode cX3_put 18 = .ok (.iconst 2, 1) := by decide +kernel
theorem dX3_put_19 : decode cX3_put 19 = .ok (.if_icmp .eq 13, 3) := by decide +kernel
theorem dX3_put_22 : decode cX3_put 22 = .ok (.new 37, 3) := by decide +kernel
theorem dX3_put_25 : decode cX3_put 25 = .ok (.dup, 1) := by decide +kernel
theorem dX3_put_26 : decode cX3_put 26 = .ok (.ldc 39, 2) := by decide +kernel
theorem dX3_put_28 : decode cX3_put 28 = .ok (.invokespecial 41, 3) := by decide +kernel
theorem dX3_put_31 : decode cX3_put 31 = .ok (.athrow, 1) := by decide +kernel
theorem dX3_put_32 : decode cX3_put 32 = .ok (.iload 4, 2) := by decide +kernel
theorem dX3_put_34 : decode cX3_put 34 = .ok (.ifCond .lt 11, 3) := by decide +kernel
theorem dX3_put_37 : decode cX3_put 37 = .ok (.iload 4, 2) := by decide +kernel
theorem dX3_put_39 : decode cX3_put 39 = .ok (.sipush 999, 3) := by decide +kernel
theorem dX3_put_42 : decode cX3_put 42 = .ok (.if_icmp .le 13, 3) := by decide +kernel
theorem dX3_put_45 : decode cX3_put 45 = .ok (.new 44, 3) := by decide +kernel
theorem dX3_put_48 : decode cX3_put 48 = .ok (.dup, 1) := by decide +kernel
theorem dX3_put_49 : decode cX3_put 49 = .ok (.ldc 46, 2) := by decide +kernel
theorem dX3_put_51 : decode cX3_put 51 = .ok (.invokespecial 48, 3) := by decide +kernel
theorem dX3_put_54 : decode cX3_put 54 = .ok (.athrow, 1) := by decide +kernel
theorem dX3_put_55 : decode cX3_put 55 = .ok (.aload_n 0, 1) := by decide +kernel
theorem dX3_put_56 : decode cX3_put 56 = .ok (.getfield 19, 3) := by decide +kernel
theorem dX3_put_59 : decode cX3_put 59 = .ok (.aload_n 0, 1) := by decide +kernel
theorem dX3_put_60 : decode cX3_put 60 = .ok (.getfield 10, 3) := by decide +kernel
theorem dX3_put_63 : decode cX3_put 63 = .ok (.invokevirtual 49, 3) := by decide +kernel
theorem dX3_put_66 : decode cX3_put 66 = .ok (.aload_n 0, 1) := by decide +kernel
theorem dX3_put_67 : decode cX3_put 67 = .ok (.getfield 10, 3) := by decide +kernel
theorem dX3_put_70 : decode cX3_put 70 = .ok (.iload_n 1, 1) := by decide +kernel
theorem dX3_put_71 : decode cX3_put 71 = .ok (.iload_n 2, 1) := by decide +kernel
theorem dX3_put_72 : decode cX3_put 72 = .ok (.iload_n 3, 1) := by decide +kernel
theorem dX3_put_73 : decode cX3_put 73 = .ok (.iload 4, 2) := by decide +kernel
theorem dX3_put_75 : decode cX3_put 75 = .ok (.invokevirtual 53, 3) := by decide +kernel
theorem dX3_put_78 : decode cX3_put 78 = .ok (.ireturn, 1) := by decide +kernel
set_option maxRecDepth 20000 in
theorem ggX3_add_X3_checkReplica : GoodIn wsX3_add wsX3_checkReplica := goodIn_ca (goodIn_r _ [8, 9, 10] (by decide +kernel) (by decide +kernel)) (goodIn_sub (fun _ h => List.mem_cons_of_mem _ (List.mem_append_right _ h)) (by decide +kernel))
set_option maxRecDepth 20000 in
theorem gX3_add_X3_checkReplica : GoodIn wsX3_add (va_wsS RX3 30 yX3_checkReplica wsX3_checkReplica) := goodIn_app (goodIn_of _ (by decide +kernel)) ggX3_add_X3_checkReplica
set_option maxRecDepth 20000 in
theorem ggX3_add_X3_checkRow : GoodIn wsX3_add wsX3_checkRow := goodIn_ca (goodIn_r _ [13, 9, 10] (by decide +kernel) (by decide +kernel)) (goodIn_sub (fun _ h => List.mem_cons_of_mem _ (List.mem_append_right _ h)) (by decide +kernel))
set_option maxRecDepth 20000 in
theorem gX3_add_X3_checkRow : GoodIn wsX3_add (va_wsS RX3 34 yX3_checkRow wsX3_checkRow) := goodIn_app (goodIn_of _ (by decide +kernel)) ggX3_add_X3_checkRow
set_option maxRecDepth 20000 in
theorem ggX3_add_X0_save : GoodIn wsX3_add wsX0_save := goodIn_r _ [18, 19, 20, 21, 22, 23, 24, 25, 26, 27, 28, 29, 30, 31, 32, 33, 34, 35, 36, 37, 38, 39, 40, 41, 42, 43, 44, 77, 78, 79, 80, 81, 82, 83, 84, 85] (by decide +kernel) (by decide +kernel)
set_option maxRecDepth 20000 in
theorem gX3_add_X0_save : GoodIn wsX3_add (wsV RX3 49 RX0 yX0_save wsX0_save) := goodIn_app (goodIn_of _ (by decide +kernel)) ggX3_add_X0_save
set_option maxRecDepth 20000 in
theorem ggX3_add_X1_addAmount : GoodIn wsX3_add wsX1_addAmount := goodIn_r _ [48, 31, 33, 49, 50, 51, 24, 52, 35, 34, 53, 54, 55, 56, 57, 58, 59, 32, 60, 61, 62, 63, 80, 81, 82, 83, 84, 85] (by decide +kernel) (by decide +kernel)
set_option maxRecDepth 20000 in
theorem gX3_add_X1_addAmount : GoodIn wsX3_add (wsV RX3 59 RX1 yX1_addAmount wsX1_addAmount) := goodIn_app (goodIn_of _ (by decide +kernel)) ggX3_add_X1_addAmount
set_option maxRecDepth 20000 in
theorem ggX3_add_X1_sumOfCell : GoodIn wsX3_add wsX1_sumOfCell := goodIn_r _ [67, 31, 33, 68, 69, 24, 70, 53, 54, 55, 71, 72, 73, 80, 81, 82, 83, 84, 85] (by decide +kernel) (by decide +kernel)
set_option maxRecDepth 20000 in
theorem gX3_add_X1_sumOfCell : GoodIn wsX3_add (wsV RX3 63 RX1 yX1_sumOfCell wsX1_sumOfCell) := goodIn_app (goodIn_of _ (by decide +kernel)) ggX3_add_X1_sumOfCell
theorem dX3_add_0 : decode cX3_add 0 = .ok (.iload_n 1, 1) := by decide +kernel
theorem dX3_add_1 : decode cX3_add 1 = .ok (.invokestatic 30, 3) := by decide +kernel
theorem dX3_add_4 : decode cX3_add 4 = .ok (.iload_n 2, 1) := by decide +kernel
theorem dX3_add_5 : decode cX3_add 5 = .ok (.invokestatic 34, 3) := by decide +kernel
theorem dX3_add_8 : decode cX3_add 8 = .ok (.iload_n 3, 1) := by decide +kernel
theorem dX3_add_9 : decode cX3_add 9 = .ok (.bipush (-99), 2) := by decide +kernel
theorem dX3_add_11 : decode cX3_add 11 = .ok (.if_icmp .lt 13, 3) := by decide +kernel
theorem dX3_add_14 : decode cX3_add 14 = .ok (.iload_n 3, 1) := by decide +kernel
theorem dX3_add_15 : decode cX3_add 15 = .ok (.bipush 99, 2) := by decide +kernel
theorem dX3_add_17 : decode cX3_add 17 = .ok (.if_icmp .gt 7, 3) := by decide +kernel
theorem dX3_add_20 : decode cX3_add 20 = .ok (.iload_n 3, 1) := by decide +kernel
theorem dX3_add_21 : decode cX3_add 21 = .ok (.ifCond .ne 13, 3) := by decide +kernel
theorem dX3_add_24 : decode cX3_add 24 = .ok (.new 44, 3) := by decide +kernel
theorem dX3_add_27 : decode cX3_add 27 = .ok (.dup, 1) := by decide +kernel
theorem dX3_add_28 : decode cX3_add 28 = .ok (.ldc 57, 2) := by decide +kernel
theorem dX3_add_30 : decode cX3_add 30 = .ok (.invokespecial 48, 3) := by decide +kernel
theorem dX3_add_33 : decode cX3_add 33 = .ok (.athrow, 1) := by decide +kernel
theorem dX3_add_34 : decode cX3_add 34 = .ok (.aload_n 0, 1) := by decide +kernel
theorem dX3_add_35 : decode cX3_add 35 = .ok (.getfield 19, 3) := by decide +kernel
theorem dX3_add_38 : decode cX3_add 38 = .ok (.aload_n 0, 1) := by decide +kernel
theorem dX3_add_39 : decode cX3_add 39 = .ok (.getfield 10, 3) := by decide +kernel
theorem dX3_add_42 : decode cX3_add 42 = .ok (.invokevirtual 49, 3) := by decide +kernel
theorem dX3_add_45 : decode cX3_add 45 = .ok (.aload_n 0, 1) := by decide +kernel
theorem dX3_add_46 : decode cX3_add 46 = .ok (.getfield 10, 3) := by decide +kernel
theorem dX3_add_49 : decode cX3_add 49 = .ok (.iload_n 1, 1) := by decide +kernel
theorem dX3_add_50 : decode cX3_add 50 = .ok (.iload_n 2, 1) := by decide +kernel
theorem dX3_add_51 : decode cX3_add 51 = .ok (.iload_n 3, 1) := by decide +kernel
theorem dX3_add_52 : decode cX3_add 52 = .ok (.invokevirtual 59, 3) := by decide +kernel
theorem dX3_add_55 : decode cX3_add 55 = .ok (.aload_n 0, 1) := by decide +kernel
theorem dX3_add_56 : decode cX3_add 56 = .ok (.getfield 10, 3) := by decide +kernel
theorem dX3_add_59 : decode cX3_add 59 = .ok (.iload_n 1, 1) := by decide +kernel
theorem dX3_add_60 : decode cX3_add 60 = .ok (.iload_n 2, 1) := by decide +kernel
theorem dX3_add_61 : decode cX3_add 61 = .ok (.iconst 3, 1) := by decide +kernel
theorem dX3_add_62 : decode cX3_add 62 = .ok (.invokevirtual 63, 3) := by decide +kernel
theorem dX3_add_65 : decode cX3_add 65 = .ok (.ireturn, 1) := by decide +kernel
set_option maxRecDepth 20000 in
theorem ggX3_include_X3_checkReplica : GoodIn wsX3_include wsX3_checkReplica := goodIn_ca (goodIn_r _ [6, 7, 8] (by decide +kernel) (by decide +kernel)) (goodIn_sub (fun _ h => List.mem_cons_of_mem _ (List.mem_append_left _ (List.mem_append_right _ h))) (by decide +kernel))
set_option maxRecDepth 20000 in
theorem gX3_include_X3_checkReplica : GoodIn wsX3_include (va_wsS RX3 30 yX3_checkReplica wsX3_checkReplica) := goodIn_app (goodIn_of _ (by decide +kernel)) ggX3_include_X3_checkReplica
set_option maxRecDepth 20000 in
theorem ggX3_include_X3_checkRow : GoodIn wsX3_include wsX3_checkRow := goodIn_ca (goodIn_r _ [11, 7, 8] (by decide +kernel) (by decide +kernel)) (goodIn_sub (fun _ h => List.mem_cons_of_mem _ (List.mem_append_left _ (List.mem_append_right _ h))) (by decide +kernel))
set_option maxRecDepth 20000 in
theorem gX3_include_X3_checkRow : GoodIn wsX3_include (va_wsS RX3 34 yX3_checkRow wsX3_checkRow) := goodIn_app (goodIn_of _ (by decide +kernel)) ggX3_include_X3_checkRow
set_option maxRecDepth 20000 in
theorem ggX3_include_X3_checkElement : GoodIn wsX3_include wsX3_checkElement := goodIn_ca (goodIn_r _ [14, 15, 16] (by decide +kernel) (by decide +kernel)) (goodIn_sub (fun _ h => List.mem_cons_of_mem _ (List.mem_append_right _ h)) (by decide +kernel))
set_option maxRecDepth 20000 in
theorem gX3_include_X3_checkElement : GoodIn wsX3_include (va_wsS RX3 67 yX3_checkElement wsX3_checkElement) := goodIn_app (goodIn_of _ (by decide +kernel)) ggX3_include_X3_checkElement
set_option maxRecDepth 20000 in
theorem ggX3_include_X0_save : GoodIn wsX3_include wsX0_save := goodIn_r _ [21, 22, 23, 24, 25, 26, 27, 28, 29, 30, 31, 32, 33, 34, 35, 36, 37, 38, 39, 40, 41, 42, 43, 44, 45, 46, 47, 85, 86, 87, 88, 89, 90, 91, 92, 93] (by decide +kernel) (by decide +kernel)
set_option maxRecDepth 20000 in
theorem gX3_include_X0_save : GoodIn wsX3_include (wsV RX3 49 RX0 yX0_save wsX0_save) := goodIn_app (goodIn_of _ (by decide +kernel)) ggX3_include_X0_save
set_option maxRecDepth 20000 in
theorem ggX3_include_X1_includeElement : GoodIn wsX3_include wsX1_includeElement := goodIn_r _ [51, 52, 53, 54, 27, 55, 38, 37, 56, 57, 58, 59, 60, 61, 62, 63, 64, 65, 66, 67, 68, 69, 34, 70, 71, 72, 73, 74, 75, 76, 77, 35, 36, 78, 79, 80, 81, 88, 89, 90, 91, 92, 93] (by decide +kernel) (by decide +kernel)
set_option maxRecDepth 20000 in
theorem gX3_include_X1_includeElement : GoodIn wsX3_include (wsV RX3 70 RX1 yX1_includeElement wsX1_includeElement) := goodIn_app (goodIn_of _ (by decide +kernel)) ggX3_include_X1_includeElement
theorem dX3_include_0 : decode cX3_include 0 = .ok (.iload_n 1, 1) := by decide +kernel
theorem dX3_include_1 : decode cX3_include 1 = .ok (.invokestatic 30, 3) := by decide +kernel
theorem dX3_include_4 : decode cX3_include 4 = .ok (.iload_n 2, 1) := by decide +kernel
theorem dX3_include_5 : decode cX3_include 5 = .ok (.invokestatic 34, 3) := by decide +kernel
theorem dX3_include_8 : decode cX3_include 8 = .ok (.iload_n 3, 1) := by decide +kernel
theorem dX3_include_9 : decode cX3_include 9 = .ok (.invokestatic 67, 3) := by decide +kernel
theorem dX3_include_12 : decode cX3_include 12 = .ok (.aload_n 0, 1) := by decide +kernel
theorem dX3_include_13 : decode cX3_include 13 = .ok (.getfield 19, 3) := by decide +kernel
theorem dX3_include_16 : decode cX3_include 16 = .ok (.aload_n 0, 1) := by decide +kernel
theorem dX3_include_17 : decode cX3_include 17 = .ok (.getfield 10, 3) := by decide +kernel
theorem dX3_include_20 : decode cX3_include 20 = .ok (.invokevirtual 49, 3) := by decide +kernel
theorem dX3_include_23 : decode cX3_include 23 = .ok (.aload_n 0, 1) := by decide +kernel
theorem dX3_include_24 : decode cX3_include 24 = .ok (.getfield 10, 3) := by decide +kernel
theorem dX3_include_27 : decode cX3_include 27 = .ok (.iload_n 1, 1) := by decide +kernel
theorem dX3_include_28 : decode cX3_include 28 = .ok (.iload_n 2, 1) := by decide +kernel
theorem dX3_include_29 : decode cX3_include 29 = .ok (.iload_n 3, 1) := by decide +kernel
theorem dX3_include_30 : decode cX3_include 30 = .ok (.invokevirtual 70, 3) := by decide +kernel
theorem dX3_include_33 : decode cX3_include 33 = .ok (.ireturn, 1) := by decide +kernel
set_option maxRecDepth 20000 in
theorem ggX3_exclude_X3_checkReplica : GoodIn wsX3_exclude wsX3_checkReplica := goodIn_ca (goodIn_r _ [6, 7, 8] (by decide +kernel) (by decide +kernel)) (goodIn_sub (fun _ h => List.mem_cons_of_mem _ (List.mem_append_left _ (List.mem_append_right _ h))) (by decide +kernel))
set_option maxRecDepth 20000 in
theorem gX3_exclude_X3_checkReplica : GoodIn wsX3_exclude (va_wsS RX3 30 yX3_checkReplica wsX3_checkReplica) := goodIn_app (goodIn_of _ (by decide +kernel)) ggX3_exclude_X3_checkReplica
set_option maxRecDepth 20000 in
theorem ggX3_exclude_X3_checkRow : GoodIn wsX3_exclude wsX3_checkRow := goodIn_ca (goodIn_r _ [11, 7, 8] (by decide +kernel) (by decide +kernel)) (goodIn_sub (fun _ h => List.mem_cons_of_mem _ (List.mem_append_left _ (List.mem_append_right _ h))) (by decide +kernel))
set_option maxRecDepth 20000 in
theorem gX3_exclude_X3_checkRow : GoodIn wsX3_exclude (va_wsS RX3 34 yX3_checkRow wsX3_checkRow) := goodIn_app (goodIn_of _ (by decide +kernel)) ggX3_exclude_X3_checkRow
set_option maxRecDepth 20000 in
theorem ggX3_exclude_X3_checkElement : GoodIn wsX3_exclude wsX3_checkElement := goodIn_ca (goodIn_r _ [14, 15, 16] (by decide +kernel) (by decide +kernel)) (goodIn_sub (fun _ h => List.mem_cons_of_mem _ (List.mem_append_right _ h)) (by decide +kernel))
set_option maxRecDepth 20000 in
theorem gX3_exclude_X3_checkElement : GoodIn wsX3_exclude (va_wsS RX3 67 yX3_checkElement wsX3_checkElement) := goodIn_app (goodIn_of _ (by decide +kernel)) ggX3_exclude_X3_checkElement
set_option maxRecDepth 20000 in
theorem ggX3_exclude_X0_save : GoodIn wsX3_exclude wsX0_save := goodIn_r _ [21, 22, 23, 24, 25, 26, 27, 28, 29, 30, 31, 32, 33, 34, 35, 36, 37, 38, 39, 40, 41, 42, 43, 44, 45, 46, 47, 77, 78, 79, 80, 81, 82, 83, 84, 85] (by decide +kernel) (by decide +kernel)
set_option maxRecDepth 20000 in
theorem gX3_exclude_X0_save : GoodIn wsX3_exclude (wsV RX3 49 RX0 yX0_save wsX0_save) := goodIn_app (goodIn_of _ (by decide +kernel)) ggX3_exclude_X0_save
set_option maxRecDepth 20000 in
theorem ggX3_exclude_X1_excludeElement : GoodIn wsX3_exclude wsX1_excludeElement := goodIn_r _ [51, 52, 53, 54, 27, 55, 38, 37, 56, 57, 58, 59, 60, 61, 62, 63, 64, 65, 66, 67, 68, 69, 34, 70, 71, 72, 73, 80, 81, 82, 83, 84, 85] (by decide +kernel) (by decide +kernel)
set_option maxRecDepth 20000 in
theorem gX3_exclude_X1_excludeElement : GoodIn wsX3_exclude (wsV RX3 73 RX1 yX1_excludeElement wsX1_excludeElement) := goodIn_app (goodIn_of _ (by decide +kernel)) ggX3_exclude_X1_excludeElement
theorem dX3_exclude_0 : decode cX3_exclude 0 = .ok (.iload_n 1, 1) := by decide +kernel
theorem dX3_exclude_1 : decode cX3_exclude 1 = .ok (.invokestatic 30, 3) := by decide +kernel
theorem dX3_exclude_4 : decode cX3_exclude 4 = .ok (.iload_n 2, 1) := by decide +kernel
theorem dX3_exclude_5 : decode cX3_exclude 5 = .ok (.invokestatic 34, 3) := by decide +kernel
theorem dX3_exclude_8 : decode cX3_exclude 8 = .ok (.iload_n 3, 1) := by decide +kernel
theorem dX3_exclude_9 : decode cX3_exclude 9 = .ok (.invokestatic 67, 3) := by decide +kernel
theorem dX3_exclude_12 : decode cX3_exclude 12 = .ok (.aload_n 0, 1) := by decide +kernel
theorem dX3_exclude_13 : decode cX3_exclude 13 = .ok (.getfield 19, 3) := by decide +kernel
theorem dX3_exclude_16 : decode cX3_exclude 16 = .ok (.aload_n 0, 1) := by decide +kernel
theorem dX3_exclude_17 : decode cX3_exclude 17 = .ok (.getfield 10, 3) := by decide +kernel
theorem dX3_exclude_20 : decode cX3_exclude 20 = .ok (.invokevirtual 49, 3) := by decide +kernel
theorem dX3_exclude_23 : decode cX3_exclude 23 = .ok (.aload_n 0, 1) := by decide +kernel
theorem dX3_exclude_24 : decode cX3_exclude 24 = .ok (.getfield 10, 3) := by decide +kernel
theorem dX3_exclude_27 : decode cX3_exclude 27 = .ok (.iload_n 1, 1) := by decide +kernel
theorem dX3_exclude_28 : decode cX3_exclude 28 = .ok (.iload_n 2, 1) := by decide +kernel
theorem dX3_exclude_29 : decode cX3_exclude 29 = .ok (.iload_n 3, 1) := by decide +kernel
theorem dX3_exclude_30 : decode cX3_exclude 30 = .ok (.invokevirtual 73, 3) := by decide +kernel
theorem dX3_exclude_33 : decode cX3_exclude 33 = .ok (.ireturn, 1) := by decide +kernel
set_option maxRecDepth 20000 in
theorem ggX3_delete_X3_checkReplica : GoodIn wsX3_delete wsX3_checkReplica := goodIn_ca (goodIn_r _ [6, 7, 8] (by decide +kernel) (by decide +kernel)) (goodIn_sub (fun _ h => List.mem_cons_of_mem _ (List.mem_append_right _ h)) (by decide +kernel))
set_option maxRecDepth 20000 in
theorem gX3_delete_X3_checkReplica : GoodIn wsX3_delete (va_wsS RX3 30 yX3_checkReplica wsX3_checkReplica) := goodIn_app (goodIn_of _ (by decide +kernel)) ggX3_delete_X3_checkReplica
set_option maxRecDepth 20000 in
theorem ggX3_delete_X3_checkRow : GoodIn wsX3_delete wsX3_checkRow := goodIn_ca (goodIn_r _ [11, 7, 8] (by decide +kernel) (by decide +kernel)) (goodIn_sub (fun _ h => List.mem_cons_of_mem _ (List.mem_append_right _ h)) (by decide +kernel))
set_option maxRecDepth 20000 in
theorem gX3_delete_X3_checkRow : GoodIn wsX3_delete (va_wsS RX3 34 yX3_checkRow wsX3_checkRow) := goodIn_app (goodIn_of _ (by decide +kernel)) ggX3_delete_X3_checkRow
set_option maxRecDepth 20000 in
theorem ggX3_delete_X0_save : GoodIn wsX3_delete wsX0_save := goodIn_r _ [16, 17, 18, 19, 20, 21, 22, 23, 24, 25, 26, 27, 28, 29, 30, 31, 32, 33, 34, 35, 36, 37, 38, 39, 40, 41, 42, 65, 66, 67, 68, 69, 70, 71, 72, 73] (by decide +kernel) (by decide +kernel)
set_option maxRecDepth 20000 in
theorem gX3_delete_X0_save : GoodIn wsX3_delete (wsV RX3 49 RX0 yX0_save wsX0_save) := goodIn_app (goodIn_of _ (by decide +kernel)) ggX3_delete_X0_save
set_option maxRecDepth 20000 in
theorem ggX3_delete_X1_deleteRow : GoodIn wsX3_delete wsX1_deleteRow := goodIn_r _ [46, 47, 48, 49, 22, 50, 33, 32, 51, 52, 53, 54, 55, 56, 57, 29, 58, 59, 60, 61, 68, 69, 70, 71, 72, 73] (by decide +kernel) (by decide +kernel)
set_option maxRecDepth 20000 in
theorem gX3_delete_X1_deleteRow : GoodIn wsX3_delete (wsV RX3 76 RX1 yX1_deleteRow wsX1_deleteRow) := goodIn_app (goodIn_of _ (by decide +kernel)) ggX3_delete_X1_deleteRow
theorem dX3_delete_0 : decode cX3_delete 0 = .ok (.iload_n 1, 1) := by decide +kernel
theorem dX3_delete_1 : decode cX3_delete 1 = .ok (.invokestatic 30, 3) := by decide +kernel
theorem dX3_delete_4 : decode cX3_delete 4 = .ok (.iload_n 2, 1) := by decide +kernel
theorem dX3_delete_5 : decode cX3_delete 5 = .ok (.invokestatic 34, 3) := by decide +kernel
theorem dX3_delete_8 : decode cX3_delete 8 = .ok (.aload_n 0, 1) := by decide +kernel
theorem dX3_delete_9 : decode cX3_delete 9 = .ok (.getfield 19, 3) := by decide +kernel
theorem dX3_delete_12 : decode cX3_delete 12 = .ok (.aload_n 0, 1) := by decide +kernel
theorem dX3_delete_13 : decode cX3_delete 13 = .ok (.getfield 10, 3) := by decide +kernel
theorem dX3_delete_16 : decode cX3_delete 16 = .ok (.invokevirtual 49, 3) := by decide +kernel
theorem dX3_delete_19 : decode cX3_delete 19 = .ok (.aload_n 0, 1) := by decide +kernel
theorem dX3_delete_20 : decode cX3_delete 20 = .ok (.getfield 10, 3) := by decide +kernel
theorem dX3_delete_23 : decode cX3_delete 23 = .ok (.iload_n 1, 1) := by decide +kernel
theorem dX3_delete_24 : decode cX3_delete 24 = .ok (.iload_n 2, 1) := by decide +kernel
theorem dX3_delete_25 : decode cX3_delete 25 = .ok (.invokevirtual 76, 3) := by decide +kernel
theorem dX3_delete_28 : decode cX3_delete 28 = .ok (.ireturn, 1) := by decide +kernel
set_option maxRecDepth 20000 in
theorem ggX3_merge_X3_checkReplica : GoodIn wsX3_merge wsX3_checkReplica := goodIn_ca (goodIn_r _ [6, 7, 8] (by decide +kernel) (by decide +kernel)) (goodIn_sub (fun _ h => List.mem_cons_of_mem _ (List.mem_append_left _ (List.mem_append_right _ h))) (by decide +kernel))
set_option maxRecDepth 20000 in
theorem gX3_merge_X3_checkReplica : GoodIn wsX3_merge (va_wsS RX3 30 yX3_checkReplica wsX3_checkReplica) := goodIn_app (goodIn_of _ (by decide +kernel)) ggX3_merge_X3_checkReplica
set_option maxRecDepth 20000 in
theorem ggX3_merge_X3_checkDifferent : GoodIn wsX3_merge wsX3_checkDifferent := goodIn_ca (goodIn_r _ [11, 12, 13] (by decide +kernel) (by decide +kernel)) (goodIn_sub (fun _ h => List.mem_cons_of_mem _ (List.mem_append_right _ h)) (by decide +kernel))
set_option maxRecDepth 20000 in
theorem gX3_merge_X3_checkDifferent : GoodIn wsX3_merge (va_wsS RX3 80 yX3_checkDifferent wsX3_checkDifferent) := goodIn_app (goodIn_of _ (by decide +kernel)) ggX3_merge_X3_checkDifferent
set_option maxRecDepth 20000 in
theorem ggX3_merge_X0_save : GoodIn wsX3_merge wsX0_save := goodIn_r _ [18, 19, 20, 21, 22, 23, 24, 25, 26, 27, 28, 29, 30, 31, 32, 33, 34, 35, 36, 37, 38, 39, 40, 41, 42, 43, 44, 84, 85, 86, 87, 88, 89, 90, 91, 92] (by decide +kernel) (by decide +kernel)
set_option maxRecDepth 20000 in
theorem gX3_merge_X0_save : GoodIn wsX3_merge (wsV RX3 49 RX0 yX0_save wsX0_save) := goodIn_app (goodIn_of _ (by decide +kernel)) ggX3_merge_X0_save
set_option maxRecDepth 20000 in
theorem ggX3_merge_X1_mergeReplica : GoodIn wsX3_merge wsX1_mergeReplica := goodIn_r _ [48, 36, 49, 50, 51, 24, 52, 53, 54, 55, 56, 31, 57, 58, 59, 60, 34, 61, 62, 63, 64, 65, 66, 67, 68, 69, 70, 71, 72, 32, 33, 73, 74, 75, 76, 77, 78, 79, 80, 35, 87, 88, 89, 90, 91, 92] (by decide +kernel) (by decide +kernel)
set_option maxRecDepth 20000 in
theorem gX3_merge_X1_mergeReplica : GoodIn wsX3_merge (wsV RX3 84 RX1 yX1_mergeReplica wsX1_mergeReplica) := goodIn_app (goodIn_of _ (by decide +kernel)) ggX3_merge_X1_mergeReplica
theorem dX3_merge_0 : decode cX3_merge 0 = .ok (.iload_n 1, 1) := by decide +kernel
theorem dX3_merge_1 : decode cX3_merge 1 = .ok (.invokestatic 30, 3) := by decide +kernel
theorem dX3_merge_4 : decode cX3_merge 4 = .ok (.iload_n 2, 1) := by decide +kernel
theorem dX3_merge_5 : decode cX3_merge 5 = .ok (.invokestatic 30, 3) := by decide +kernel
theorem dX3_merge_8 : decode cX3_merge 8 = .ok (.iload_n 1, 1) := by decide +kernel
theorem dX3_merge_9 : decode cX3_merge 9 = .ok (.iload_n 2, 1) := by decide +kernel
theorem dX3_merge_10 : decode cX3_merge 10 = .ok (.invokestatic 80, 3) := by decide +kernel
theorem dX3_merge_13 : decode cX3_merge 13 = .ok (.aload_n 0, 1) := by decide +kernel
theorem dX3_merge_14 : decode cX3_merge 14 = .ok (.getfield 19, 3) := by decide +kernel
theorem dX3_merge_17 : decode cX3_merge 17 = .ok (.aload_n 0, 1) := by decide +kernel
theorem dX3_merge_18 : decode cX3_merge 18 = .ok (.getfield 10, 3) := by decide +kernel
theorem dX3_merge_21 : decode cX3_merge 21 = .ok (.invokevirtual 49, 3) := by decide +kernel
theorem dX3_merge_24 : decode cX3_merge 24 = .ok (.aload_n 0, 1) := by decide +kernel
theorem dX3_merge_25 : decode cX3_merge 25 = .ok (.getfield 10, 3) := by decide +kernel
theorem dX3_merge_28 : decode cX3_merge 28 = .ok (.iload_n 1, 1) := by decide +kernel
theorem dX3_merge_29 : decode cX3_merge 29 = .ok (.iload_n 2, 1) := by decide +kernel
theorem dX3_merge_30 : decode cX3_merge 30 = .ok (.invokevirtual 84, 3) := by decide +kernel
theorem dX3_merge_33 : decode cX3_merge 33 = .ok (.ireturn, 1) := by decide +kernel
set_option maxRecDepth 20000 in
theorem ggX3_mergeAll_X0_save : GoodIn wsX3_mergeAll wsX0_save := goodIn_r _ [7, 8, 9, 10, 11, 12, 13, 14, 15, 16, 17, 18, 19, 20, 21, 22, 23, 24, 25, 26, 27, 28, 29, 30, 31, 32, 33, 73, 74, 75, 76, 77, 78, 79, 80, 81] (by decide +kernel) (by decide +kernel)
set_option maxRecDepth 20000 in
theorem gX3_mergeAll_X0_save : GoodIn wsX3_mergeAll (wsV RX3 49 RX0 yX0_save wsX0_save) := goodIn_app (goodIn_of _ (by decide +kernel)) ggX3_mergeAll_X0_save
set_option maxRecDepth 20000 in
theorem ggX3_mergeAll_X1_mergeReplica : GoodIn wsX3_mergeAll wsX1_mergeReplica := goodIn_r _ [37, 25, 38, 39, 40, 13, 41, 42, 43, 44, 45, 20, 46, 47, 48, 49, 23, 50, 51, 52, 53, 54, 55, 56, 57, 58, 59, 60, 61, 21, 22, 62, 63, 64, 65, 66, 67, 68, 69, 24, 76, 77, 78, 79, 80, 81] (by decide +kernel) (by decide +kernel)
set_option maxRecDepth 20000 in
theorem gX3_mergeAll_X1_mergeReplica : GoodIn wsX3_mergeAll (wsV RX3 84 RX1 yX1_mergeReplica wsX1_mergeReplica) := goodIn_app (goodIn_of _ (by decide +kernel)) ggX3_mergeAll_X1_mergeReplica
theorem dX3_mergeAll_0 : decode cX3_mergeAll 0 = .ok (.aload_n 0, 1) := by decide +kernel
theorem dX3_mergeAll_1 : decode cX3_mergeAll 1 = .ok (.getfield 19, 3) := by decide +kernel
theorem dX3_mergeAll_4 : decode cX3_mergeAll 4 = .ok (.aload_n 0, 1) := by decide +kernel
theorem dX3_mergeAll_5 : decode cX3_mergeAll 5 = .ok (.getfield 10, 3) := by decide +kernel
theorem dX3_mergeAll_8 : decode cX3_mergeAll 8 = .ok (.invokevirtual 49, 3) := by decide +kernel
theorem dX3_mergeAll_11 : decode cX3_mergeAll 11 = .ok (.iconst 0, 1) := by decide +kernel
theorem dX3_mergeAll_12 : decode cX3_mergeAll 12 = .ok (.istore_n 1, 1) := by decide +kernel
theorem dX3_mergeAll_13 : decode cX3_mergeAll 13 = .ok (.iconst 1, 1) := by decide +kernel
theorem dX3_mergeAll_14 : decode cX3_mergeAll 14 = .ok (.istore_n 2, 1) := by decide +kernel
theorem dX3_mergeAll_15 : decode cX3_mergeAll 15 = .ok (.iload_n 2, 1) := by decide +kernel
theorem dX3_mergeAll_16 : decode cX3_mergeAll 16 = .ok (.iconst 4, 1) := by decide +kernel
theorem dX3_mergeAll_17 : decode cX3_mergeAll 17 = .ok (.if_icmp .ge 26, 3) := by decide +kernel
theorem dX3_mergeAll_20 : decode cX3_mergeAll 20 = .ok (.aload_n 0, 1) := by decide +kernel
theorem dX3_mergeAll_21 : decode cX3_mergeAll 21 = .ok (.getfield 10, 3) := by decide +kernel
theorem dX3_mergeAll_24 : decode cX3_mergeAll 24 = .ok (.iload_n 2, 1) := by decide +kernel
theorem dX3_mergeAll_25 : decode cX3_mergeAll 25 = .ok (.iconst 1, 1) := by decide +kernel
theorem dX3_mergeAll_26 : decode cX3_mergeAll 26 = .ok (.isub, 1) := by decide +kernel
theorem dX3_mergeAll_27 : decode cX3_mergeAll 27 = .ok (.iload_n 2, 1) := by decide +kernel
theorem dX3_mergeAll_28 : decode cX3_mergeAll 28 = .ok (.invokevirtual 84, 3) := by decide +kernel
theorem dX3_mergeAll_31 : decode cX3_mergeAll 31 = .ok (.ifCond .le 6, 3) := by decide +kernel
theorem dX3_mergeAll_34 : decode cX3_mergeAll 34 = .ok (.iinc 1 1, 3) := by decide +kernel
theorem dX3_mergeAll_37 : decode cX3_mergeAll 37 = .ok (.iinc 2 1, 3) := by decide +kernel
theorem dX3_mergeAll_40 : decode cX3_mergeAll 40 = .ok (.goto (-25), 3) := by decide +kernel
theorem dX3_mergeAll_43 : decode cX3_mergeAll 43 = .ok (.iconst 2, 1) := by decide +kernel
theorem dX3_mergeAll_44 : decode cX3_mergeAll 44 = .ok (.istore_n 2, 1) := by decide +kernel
theorem dX3_mergeAll_45 : decode cX3_mergeAll 45 = .ok (.iload_n 2, 1) := by decide +kernel
theorem dX3_mergeAll_46 : decode cX3_mergeAll 46 = .ok (.ifCond .lt 24, 3) := by decide +kernel
theorem dX3_mergeAll_49 : decode cX3_mergeAll 49 = .ok (.aload_n 0, 1) := by decide +kernel
theorem dX3_mergeAll_50 : decode cX3_mergeAll 50 = .ok (.getfield 10, 3) := by decide +kernel
theorem dX3_mergeAll_53 : decode cX3_mergeAll 53 = .ok (.iconst 3, 1) := by decide +kernel
theorem dX3_mergeAll_54 : decode cX3_mergeAll 54 = .ok (.iload_n 2, 1) := by decide +kernel
theorem dX3_mergeAll_55 : decode cX3_mergeAll 55 = .ok (.invokevirtual 84, 3) := by decide +kernel
theorem dX3_mergeAll_58 : decode cX3_mergeAll 58 = .ok (.ifCond .le 6, 3) := by decide +kernel
theorem dX3_mergeAll_61 : decode cX3_mergeAll 61 = .ok (.iinc 1 1, 3) := by decide +kernel
theorem dX3_mergeAll_64 : decode cX3_mergeAll 64 = .ok (.iinc 2 (-1), 3) := by decide +kernel
theorem dX3_mergeAll_67 : decode cX3_mergeAll 67 = .ok (.goto (-22), 3) := by decide +kernel
theorem dX3_mergeAll_70 : decode cX3_mergeAll 70 = .ok (.iload_n 1, 1) := by decide +kernel
theorem dX3_mergeAll_71 : decode cX3_mergeAll 71 = .ok (.ireturn, 1) := by decide +kernel
set_option maxRecDepth 20000 in
theorem ggX3_appendText_X2_append : GoodIn wsX3_appendText wsX2_append := goodIn_r _ [10, 11, 12, 16, 17, 18, 19, 20, 21, 22] (by decide +kernel) (by decide +kernel)
set_option maxRecDepth 20000 in
theorem gX3_appendText_X2_append : GoodIn wsX3_appendText (wsV RX3 98 RX2 yX2_append wsX2_append) := goodIn_app (goodIn_of _ (by decide +kernel)) ggX3_appendText_X2_append
theorem dX3_appendText_0 : decode cX3_appendText 0 = .ok (.iload_n 1, 1) := by decide +kernel
theorem dX3_appendText_1 : decode cX3_appendText 1 = .ok (.bipush 32, 2) := by decide +kernel
theorem dX3_appendText_3 : decode cX3_appendText 3 = .ok (.if_icmp .lt 9, 3) := by decide +kernel
theorem dX3_appendText_6 : decode cX3_appendText 6 = .ok (.iload_n 1, 1) := by decide +kernel
theorem dX3_appendText_7 : decode cX3_appendText 7 = .ok (.bipush 126, 2) := by decide +kernel
theorem dX3_appendText_9 : decode cX3_appendText 9 = .ok (.if_icmp .le 13, 3) := by decide +kernel
theorem dX3_appendText_12 : decode cX3_appendText 12 = .ok (.new 44, 3) := by decide +kernel
theorem dX3_appendText_15 : decode cX3_appendText 15 = .ok (.dup, 1) := by decide +kernel
theorem dX3_appendText_16 : decode cX3_appendText 16 = .ok (.ldc 87, 2) := by decide +kernel
theorem dX3_appendText_18 : decode cX3_appendText 18 = .ok (.invokespecial 48, 3) := by decide +kernel
theorem dX3_appendText_21 : decode cX3_appendText 21 = .ok (.athrow, 1) := by decide +kernel
theorem dX3_appendText_22 : decode cX3_appendText 22 = .ok (.aload_n 0, 1) := by decide +kernel
theorem dX3_appendText_23 : decode cX3_appendText 23 = .ok (.getfield 26, 3) := by decide +kernel
theorem dX3_appendText_26 : decode cX3_appendText 26 = .ok (.getfield 89, 3) := by decide +kernel
theorem dX3_appendText_29 : decode cX3_appendText 29 = .ok (.bipush 80, 2) := by decide +kernel
theorem dX3_appendText_31 : decode cX3_appendText 31 = .ok (.if_icmp .lt 13, 3) := by decide +kernel
theorem dX3_appendText_34 : decode cX3_appendText 34 = .ok (.new 93, 3) := by decide +kernel
theorem dX3_appendText_37 : decode cX3_appendText 37 = .ok (.dup, 1) := by decide +kernel
theorem dX3_appendText_38 : decode cX3_appendText 38 = .ok (.ldc 95, 2) := by decide +kernel
theorem dX3_appendText_40 : decode cX3_appendText 40 = .ok (.invokespecial 97, 3) := by decide +kernel
theorem dX3_appendText_43 : decode cX3_appendText 43 = .ok (.athrow, 1) := by decide +kernel
theorem dX3_appendText_44 : decode cX3_appendText 44 = .ok (.aload_n 0, 1) := by decide +kernel
theorem dX3_appendText_45 : decode cX3_appendText 45 = .ok (.getfield 26, 3) := by decide +kernel
theorem dX3_appendText_48 : decode cX3_appendText 48 = .ok (.iload_n 1, 1) := by decide +kernel
theorem dX3_appendText_49 : decode cX3_appendText 49 = .ok (.i2c, 1) := by decide +kernel
theorem dX3_appendText_50 : decode cX3_appendText 50 = .ok (.invokevirtual 98, 3) := by decide +kernel
theorem dX3_appendText_53 : decode cX3_appendText 53 = .ok (.aload_n 0, 1) := by decide +kernel
theorem dX3_appendText_54 : decode cX3_appendText 54 = .ok (.getfield 26, 3) := by decide +kernel
theorem dX3_appendText_57 : decode cX3_appendText 57 = .ok (.getfield 89, 3) := by decide +kernel
theorem dX3_appendText_60 : decode cX3_appendText 60 = .ok (.ireturn, 1) := by decide +kernel
theorem dX3_clearText_0 : decode cX3_clearText 0 = .ok (.aload_n 0, 1) := by decide +kernel
theorem dX3_clearText_1 : decode cX3_clearText 1 = .ok (.getfield 26, 3) := by decide +kernel
theorem dX3_clearText_4 : decode cX3_clearText 4 = .ok (.getfield 89, 3) := by decide +kernel
theorem dX3_clearText_7 : decode cX3_clearText 7 = .ok (.istore_n 1, 1) := by decide +kernel
theorem dX3_clearText_8 : decode cX3_clearText 8 = .ok (.aload_n 0, 1) := by decide +kernel
theorem dX3_clearText_9 : decode cX3_clearText 9 = .ok (.getfield 26, 3) := by decide +kernel
theorem dX3_clearText_12 : decode cX3_clearText 12 = .ok (.iconst 0, 1) := by decide +kernel
theorem dX3_clearText_13 : decode cX3_clearText 13 = .ok (.putfield 89, 3) := by decide +kernel
theorem dX3_clearText_16 : decode cX3_clearText 16 = .ok (.iload_n 1, 1) := by decide +kernel
theorem dX3_clearText_17 : decode cX3_clearText 17 = .ok (.ireturn, 1) := by decide +kernel
set_option maxRecDepth 20000 in
theorem ggX3_errorPosition_X2_findError : GoodIn wsX3_errorPosition wsX2_findError := goodIn_r _ [6, 7, 8, 9, 10, 11, 5, 12, 13, 14, 15, 16, 17, 18, 19, 20, 21, 22, 23, 24, 25, 26, 27, 28, 29, 30, 31, 32, 33, 34, 35, 36, 37, 38, 39, 40, 41, 42, 43, 44, 45, 46, 47, 48, 49, 50, 51, 52, 53, 54, 55, 56, 57, 58, 59, 60, 61, 65, 66, 67, 68, 69, 70, 71] (by decide +kernel) (by decide +kernel)
set_option maxRecDepth 20000 in
theorem gX3_errorPosition_X2_findError : GoodIn wsX3_errorPosition (wsV RX3 102 RX2 yX2_findError wsX2_findError) := goodIn_app (goodIn_of _ (by decide +kernel)) ggX3_errorPosition_X2_findError
theorem dX3_errorPosition_0 : decode cX3_errorPosition 0 = .ok (.aload_n 0, 1) := by decide +kernel
theorem dX3_errorPosition_1 : decode cX3_errorPosition 1 = .ok (.getfield 26, 3) := by decide +kernel
theorem dX3_errorPosition_4 : decode cX3_errorPosition 4 = .ok (.invokevirtual 102, 3) := by decide +kernel
theorem dX3_errorPosition_7 : decode cX3_errorPosition 7 = .ok (.ireturn, 1) := by decide +kernel
set_option maxRecDepth 20000 in
theorem ggX3_runText_X2_findError : GoodIn wsX3_runText wsX2_findError := goodIn_r _ [10, 11, 12, 13, 14, 15, 9, 16, 17, 18, 19, 20, 21, 22, 23, 24, 25, 26, 27, 28, 29, 30, 31, 32, 33, 34, 35, 36, 37, 38, 39, 40, 41, 42, 43, 44, 45, 46, 47, 48, 49, 50, 51, 52, 53, 54, 55, 56, 57, 58, 59, 60, 61, 62, 63, 64, 65, 199, 200, 201, 202, 203, 204, 205] (by decide +kernel) (by decide +kernel)
set_option maxRecDepth 20000 in
theorem gX3_runText_X2_findError : GoodIn wsX3_runText (wsV RX3 102 RX2 yX2_findError wsX2_findError) := goodIn_app (goodIn_of _ (by decide +kernel)) ggX3_runText_X2_findError
set_option maxRecDepth 20000 in
theorem ggX3_runText_X0_save : GoodIn wsX3_runText wsX0_save := goodIn_r _ [70, 71, 72, 73, 74, 75, 76, 77, 78, 79, 80, 81, 82, 83, 84, 85, 86, 87, 88, 89, 90, 91, 92, 93, 94, 95, 96, 206, 207, 208, 209, 210, 211, 212, 213, 214] (by decide +kernel) (by decide +kernel)
set_option maxRecDepth 20000 in
theorem gX3_runText_X0_save : GoodIn wsX3_runText (wsV RX3 49 RX0 yX0_save wsX0_save) := goodIn_app (goodIn_of _ (by decide +kernel)) ggX3_runText_X0_save
set_option maxRecDepth 20000 in
theorem ggX3_runText_X2_rewind : GoodIn wsX3_runText wsX2_rewind := goodIn_r _ [16, 11, 199, 200, 201, 202, 203, 204, 205] (by decide +kernel) (by decide +kernel)
set_option maxRecDepth 20000 in
theorem gX3_runText_X2_rewind : GoodIn wsX3_runText (wsV RX3 108 RX2 yX2_rewind wsX2_rewind) := goodIn_app (goodIn_of _ (by decide +kernel)) ggX3_runText_X2_rewind
set_option maxRecDepth 20000 in
theorem ggX3_runText_X2_readNext : GoodIn wsX3_runText wsX2_readNext := goodIn_r _ [20, 11, 21, 22, 23, 9, 24, 25, 26, 27, 28, 12, 29, 30, 31, 32, 33, 34, 35, 36, 37, 38, 39, 40, 41, 42, 43, 44, 45, 46, 47, 48, 49, 50, 51, 52, 53, 54, 55, 56, 57, 58, 59, 60, 61, 62, 63, 64, 65, 199, 200, 201, 202, 203, 204, 205] (by decide +kernel) (by decide +kernel)
set_option maxRecDepth 20000 in
theorem gX3_runText_X2_readNext : GoodIn wsX3_runText (wsV RX3 111 RX2 yX2_readNext wsX2_readNext) := goodIn_app (goodIn_of _ (by decide +kernel)) ggX3_runText_X2_readNext
set_option maxRecDepth 20000 in
theorem ggX3_runText_X3_execute : GoodIn wsX3_runText wsX3_execute := goodIn_r _ [103, 3, 5, 104, 105, 106, 76, 107, 108, 109, 110, 111, 112, 113, 114, 115, 87, 86, 116, 117, 118, 119, 83, 85, 120, 121, 122, 123, 124, 125, 126, 127, 128, 129, 130, 131, 132, 133, 134, 135, 136, 137, 138, 139, 140, 141, 142, 143, 144, 84, 145, 146, 147, 148, 149, 150, 151, 152, 153, 154, 155, 156, 157, 158, 159, 160, 161, 162, 163, 164, 165, 166, 167, 168, 169, 170, 171, 88, 172, 173, 174, 175, 176, 177, 178, 179, 180, 181, 182, 183, 184, 185, 186, 187, 188, 189, 190, 191, 192, 193, 194, 195, 196, 197, 198, 199, 200, 201, 202, 203, 204, 205, 209, 210, 211, 212, 213, 214] (by decide +kernel) (by decide +kernel)
set_option maxRecDepth 20000 in
theorem gX3_runText_X3_execute : GoodIn wsX3_runText (wsV RX3 115 RX3 yX3_execute wsX3_execute) := goodIn_app (goodIn_of _ (by decide +kernel)) ggX3_runText_X3_execute
theorem dX3_runText_0 : decode cX3_runText 0 = .ok (.aload_n 0, 1) := by decide +kernel
theorem dX3_runText_1 : decode cX3_runText 1 = .ok (.getfield 26, 3) := by decide +kernel
theorem dX3_runText_4 : decode cX3_runText 4 = .ok (.invokevirtual 102, 3) := by decide +kernel
theorem dX3_runText_7 : decode cX3_runText 7 = .ok (.iconst (-1), 1) := by decide +kernel
theorem dX3_runText_8 : decode cX3_runText 8 = .ok (.if_icmp .eq 13, 3) := by decide +kernel
theorem dX3_runText_11 : decode cX3_runText 11 = .ok (.new 93, 3) := by decide +kernel
theorem dX3_runText_14 : decode cX3_runText 14 = .ok (.dup, 1) := by decide +kernel
theorem dX3_runText_15 : decode cX3_runText 15 = .ok (.ldc 106, 2) := by decide +kernel
theorem dX3_runText_17 : decode cX3_runText 17 = .ok (.invokespecial 97, 3) := by decide +kernel
theorem dX3_runText_20 : decode cX3_runText 20 = .ok (.athrow, 1) := by decide +kernel
theorem dX3_runText_21 : decode cX3_runText 21 = .ok (.aload_n 0, 1) := by decide +kernel
theorem dX3_runText_22 : decode cX3_runText 22 = .ok (.getfield 19, 3) := by decide +kernel
theorem dX3_runText_25 : decode cX3_runText 25 = .ok (.aload_n 0, 1) := by decide +kernel
theorem dX3_runText_26 : decode cX3_runText 26 = .ok (.getfield 10, 3) := by decide +kernel
theorem dX3_runText_29 : decode cX3_runText 29 = .ok (.invokevirtual 49, 3) := by decide +kernel
theorem dX3_runText_32 : decode cX3_runText 32 = .ok (.aload_n 0, 1) := by decide +kernel
theorem dX3_runText_33 : decode cX3_runText 33 = .ok (.getfield 26, 3) := by decide +kernel
theorem dX3_runText_36 : decode cX3_runText 36 = .ok (.invokevirtual 108, 3) := by decide +kernel
theorem dX3_runText_39 : decode cX3_runText 39 = .ok (.iconst 0, 1) := by decide +kernel
theorem dX3_runText_40 : decode cX3_runText 40 = .ok (.istore_n 1, 1) := by decide +kernel
theorem dX3_runText_41 : decode cX3_runText 41 = .ok (.iload_n 1, 1) := by decide +kernel
theorem dX3_runText_42 : decode cX3_runText 42 = .ok (.bipush 80, 2) := by decide +kernel
theorem dX3_runText_44 : decode cX3_runText 44 = .ok (.if_icmp .ge 23, 3) := by decide +kernel
theorem dX3_runText_47 : decode cX3_runText 47 = .ok (.aload_n 0, 1) := by decide +kernel
theorem dX3_runText_48 : decode cX3_runText 48 = .ok (.getfield 26, 3) := by decide +kernel
theorem dX3_runText_51 : decode cX3_runText 51 = .ok (.invokevirtual 111, 3) := by decide +kernel
theorem dX3_runText_54 : decode cX3_runText 54 = .ok (.ifCond .eq 13, 3) := by decide +kernel
theorem dX3_runText_57 : decode cX3_runText 57 = .ok (.aload_n 0, 1) := by decide +kernel
theorem dX3_runText_58 : decode cX3_runText 58 = .ok (.invokevirtual 115, 3) := by decide +kernel
theorem dX3_runText_61 : decode cX3_runText 61 = .ok (.iinc 1 1, 3) := by decide +kernel
theorem dX3_runText_64 : decode cX3_runText 64 = .ok (.goto (-23), 3) := by decide +kernel
theorem dX3_runText_67 : decode cX3_runText 67 = .ok (.iload_n 1, 1) := by decide +kernel
theorem dX3_runText_68 : decode cX3_runText 68 = .ok (.ireturn, 1) := by decide +kernel
set_option maxRecDepth 20000 in
theorem ggX3_undo_X0_restore : GoodIn wsX3_undo wsX0_restore := goodIn_r _ [9, 10, 11, 12, 13, 14, 15, 16, 17, 18, 19, 20, 21, 22, 23, 24, 25, 26, 27, 31, 32, 33, 34, 35, 36, 37, 38, 39] (by decide +kernel) (by decide +kernel)
set_option maxRecDepth 20000 in
theorem gX3_undo_X0_restore : GoodIn wsX3_undo (wsV RX3 123 RX0 yX0_restore wsX0_restore) := goodIn_app (goodIn_of _ (by decide +kernel)) ggX3_undo_X0_restore
theorem dX3_undo_0 : decode cX3_undo 0 = .ok (.aload_n 0, 1) := by decide +kernel
theorem dX3_undo_1 : decode cX3_undo 1 = .ok (.getfield 19, 3) := by decide +kernel
theorem dX3_undo_4 : decode cX3_undo 4 = .ok (.getfield 118, 3) := by decide +kernel
theorem dX3_undo_7 : decode cX3_undo 7 = .ok (.ifCond .ne 13, 3) := by decide +kernel
theorem dX3_undo_10 : decode cX3_undo 10 = .ok (.new 93, 3) := by decide +kernel
theorem dX3_undo_13 : decode cX3_undo 13 = .ok (.dup, 1) := by decide +kernel
theorem dX3_undo_14 : decode cX3_undo 14 = .ok (.ldc 121, 2) := by decide +kernel
theorem dX3_undo_16 : decode cX3_undo 16 = .ok (.invokespecial 97, 3) := by decide +kernel
theorem dX3_undo_19 : decode cX3_undo 19 = .ok (.athrow, 1) := by decide +kernel
theorem dX3_undo_20 : decode cX3_undo 20 = .ok (.aload_n 0, 1) := by decide +kernel
theorem dX3_undo_21 : decode cX3_undo 21 = .ok (.getfield 19, 3) := by decide +kernel
theorem dX3_undo_24 : decode cX3_undo 24 = .ok (.aload_n 0, 1) := by decide +kernel
theorem dX3_undo_25 : decode cX3_undo 25 = .ok (.getfield 10, 3) := by decide +kernel
theorem dX3_undo_28 : decode cX3_undo 28 = .ok (.invokevirtual 123, 3) := by decide +kernel
theorem dX3_undo_31 : decode cX3_undo 31 = .ok (.aload_n 0, 1) := by decide +kernel
theorem dX3_undo_32 : decode cX3_undo 32 = .ok (.getfield 19, 3) := by decide +kernel
theorem dX3_undo_35 : decode cX3_undo 35 = .ok (.getfield 118, 3) := by decide +kernel
theorem dX3_undo_38 : decode cX3_undo 38 = .ok (.ireturn, 1) := by decide +kernel
set_option maxRecDepth 20000 in
theorem ggX3_latest_X3_checkReplica : GoodIn wsX3_latest wsX3_checkReplica := goodIn_ca (goodIn_r _ [5, 6, 7] (by decide +kernel) (by decide +kernel)) (goodIn_sub (fun _ h => List.mem_cons_of_mem _ (List.mem_append_right _ h)) (by decide +kernel))
set_option maxRecDepth 20000 in
theorem gX3_latest_X3_checkReplica : GoodIn wsX3_latest (va_wsS RX3 30 yX3_checkReplica wsX3_checkReplica) := goodIn_app (goodIn_of _ (by decide +kernel)) ggX3_latest_X3_checkReplica
set_option maxRecDepth 20000 in
theorem ggX3_latest_X3_checkRow : GoodIn wsX3_latest wsX3_checkRow := goodIn_ca (goodIn_r _ [10, 6, 7] (by decide +kernel) (by decide +kernel)) (goodIn_sub (fun _ h => List.mem_cons_of_mem _ (List.mem_append_right _ h)) (by decide +kernel))
set_option maxRecDepth 20000 in
theorem gX3_latest_X3_checkRow : GoodIn wsX3_latest (va_wsS RX3 34 yX3_checkRow wsX3_checkRow) := goodIn_app (goodIn_of _ (by decide +kernel)) ggX3_latest_X3_checkRow
set_option maxRecDepth 20000 in
theorem ggX3_latest_X1_latestValue : GoodIn wsX3_latest wsX1_latestValue := goodIn_r _ [15, 16, 17, 18, 19, 20, 14, 21, 22, 23, 24, 25, 26, 27, 31, 32, 33, 34, 35, 36] (by decide +kernel) (by decide +kernel)
set_option maxRecDepth 20000 in
theorem gX3_latest_X1_latestValue : GoodIn wsX3_latest (wsV RX3 126 RX1 yX1_latestValue wsX1_latestValue) := goodIn_app (goodIn_of _ (by decide +kernel)) ggX3_latest_X1_latestValue
theorem dX3_latest_0 : decode cX3_latest 0 = .ok (.iload_n 1, 1) := by decide +kernel
theorem dX3_latest_1 : decode cX3_latest 1 = .ok (.invokestatic 30, 3) := by decide +kernel
theorem dX3_latest_4 : decode cX3_latest 4 = .ok (.iload_n 2, 1) := by decide +kernel
theorem dX3_latest_5 : decode cX3_latest 5 = .ok (.invokestatic 34, 3) := by decide +kernel
theorem dX3_latest_8 : decode cX3_latest 8 = .ok (.aload_n 0, 1) := by decide +kernel
theorem dX3_latest_9 : decode cX3_latest 9 = .ok (.getfield 10, 3) := by decide +kernel
theorem dX3_latest_12 : decode cX3_latest 12 = .ok (.iload_n 1, 1) := by decide +kernel
theorem dX3_latest_13 : decode cX3_latest 13 = .ok (.iload_n 2, 1) := by decide +kernel
theorem dX3_latest_14 : decode cX3_latest 14 = .ok (.invokevirtual 126, 3) := by decide +kernel
theorem dX3_latest_17 : decode cX3_latest 17 = .ok (.ireturn, 1) := by decide +kernel
set_option maxRecDepth 20000 in
theorem ggX3_sibling_X3_checkReplica : GoodIn wsX3_sibling wsX3_checkReplica := goodIn_ca (goodIn_r _ [7, 1, 2] (by decide +kernel) (by decide +kernel)) (goodIn_sub (fun _ h => List.mem_cons_of_mem _ (List.mem_append_right _ h)) (by decide +kernel))
set_option maxRecDepth 20000 in
theorem gX3_sibling_X3_checkReplica : GoodIn wsX3_sibling (va_wsS RX3 30 yX3_checkReplica wsX3_checkReplica) := goodIn_app (goodIn_of _ (by decide +kernel)) ggX3_sibling_X3_checkReplica
set_option maxRecDepth 20000 in
theorem ggX3_sibling_X3_checkRow : GoodIn wsX3_sibling wsX3_checkRow := goodIn_ca (goodIn_r _ [10, 1, 2] (by decide +kernel) (by decide +kernel)) (goodIn_sub (fun _ h => List.mem_cons_of_mem _ (List.mem_append_right _ h)) (by decide +kernel))
set_option maxRecDepth 20000 in
theorem gX3_sibling_X3_checkRow : GoodIn wsX3_sibling (va_wsS RX3 34 yX3_checkRow wsX3_checkRow) := goodIn_app (goodIn_of _ (by decide +kernel)) ggX3_sibling_X3_checkRow
set_option maxRecDepth 20000 in
theorem ggX3_sibling_X1_siblingAt : GoodIn wsX3_sibling wsX1_siblingAt := goodIn_r _ [15, 16, 17, 18, 19, 14, 20, 21, 22, 23, 24, 25, 26, 27, 28, 29, 30, 34, 35, 36, 37, 38, 39] (by decide +kernel) (by decide +kernel)
set_option maxRecDepth 20000 in
theorem gX3_sibling_X1_siblingAt : GoodIn wsX3_sibling (wsV RX3 131 RX1 yX1_siblingAt wsX1_siblingAt) := goodIn_app (goodIn_of _ (by decide +kernel)) ggX3_sibling_X1_siblingAt
theorem dX3_sibling_0 : decode cX3_sibling 0 = .ok (.iload_n 1, 1) := by decide +kernel
theorem dX3_sibling_1 : decode cX3_sibling 1 = .ok (.invokestatic 30, 3) := by decide +kernel
theorem dX3_sibling_4 : decode cX3_sibling 4 = .ok (.iload_n 2, 1) := by decide +kernel
theorem dX3_sibling_5 : decode cX3_sibling 5 = .ok (.invokestatic 34, 3) := by decide +kernel
theorem dX3_sibling_8 : decode cX3_sibling 8 = .ok (.iload_n 3, 1) := by decide +kernel
theorem dX3_sibling_9 : decode cX3_sibling 9 = .ok (.ifCond .ge 13, 3) := by decide +kernel
theorem dX3_sibling_12 : decode cX3_sibling 12 = .ok (.new 37, 3) := by decide +kernel
theorem dX3_sibling_15 : decode cX3_sibling 15 = .ok (.dup, 1) := by decide +kernel
theorem dX3_sibling_16 : decode cX3_sibling 16 = .ok (.ldc 129, 2) := by decide +kernel
theorem dX3_sibling_18 : decode cX3_sibling 18 = .ok (.invokespecial 41, 3) := by decide +kernel
theorem dX3_sibling_21 : decode cX3_sibling 21 = .ok (.athrow, 1) := by decide +kernel
theorem dX3_sibling_22 : decode cX3_sibling 22 = .ok (.aload_n 0, 1) := by decide +kernel
theorem dX3_sibling_23 : decode cX3_sibling 23 = .ok (.getfield 10, 3) := by decide +kernel
theorem dX3_sibling_26 : decode cX3_sibling 26 = .ok (.iload_n 1, 1) := by decide +kernel
theorem dX3_sibling_27 : decode cX3_sibling 27 = .ok (.iload_n 2, 1) := by decide +kernel
theorem dX3_sibling_28 : decode cX3_sibling 28 = .ok (.iload_n 3, 1) := by decide +kernel
theorem dX3_sibling_29 : decode cX3_sibling 29 = .ok (.invokevirtual 131, 3) := by decide +kernel
theorem dX3_sibling_32 : decode cX3_sibling 32 = .ok (.ireturn, 1) := by decide +kernel
set_option maxRecDepth 20000 in
theorem ggX3_greatest_X3_checkReplica : GoodIn wsX3_greatest wsX3_checkReplica := goodIn_ca (goodIn_r _ [5, 6, 7] (by decide +kernel) (by decide +kernel)) (goodIn_sub (fun _ h => List.mem_cons_of_mem _ (List.mem_append_right _ h)) (by decide +kernel))
set_option maxRecDepth 20000 in
theorem gX3_greatest_X3_checkReplica : GoodIn wsX3_greatest (va_wsS RX3 30 yX3_checkReplica wsX3_checkReplica) := goodIn_app (goodIn_of _ (by decide +kernel)) ggX3_greatest_X3_checkReplica
set_option maxRecDepth 20000 in
theorem ggX3_greatest_X3_checkRow : GoodIn wsX3_greatest wsX3_checkRow := goodIn_ca (goodIn_r _ [10, 6, 7] (by decide +kernel) (by decide +kernel)) (goodIn_sub (fun _ h => List.mem_cons_of_mem _ (List.mem_append_right _ h)) (by decide +kernel))
set_option maxRecDepth 20000 in
theorem gX3_greatest_X3_checkRow : GoodIn wsX3_greatest (va_wsS RX3 34 yX3_checkRow wsX3_checkRow) := goodIn_app (goodIn_of _ (by decide +kernel)) ggX3_greatest_X3_checkRow
set_option maxRecDepth 20000 in
theorem ggX3_greatest_X1_greatestValue : GoodIn wsX3_greatest wsX1_greatestValue := goodIn_r _ [15, 16, 17, 18, 19, 20, 21, 22, 23, 14, 24, 25, 26, 27, 28, 29, 30, 34, 35, 36, 37, 38, 39] (by decide +kernel) (by decide +kernel)
set_option maxRecDepth 20000 in
theorem gX3_greatest_X1_greatestValue : GoodIn wsX3_greatest (wsV RX3 134 RX1 yX1_greatestValue wsX1_greatestValue) := goodIn_app (goodIn_of _ (by decide +kernel)) ggX3_greatest_X1_greatestValue
theorem dX3_greatest_0 : decode cX3_greatest 0 = .ok (.iload_n 1, 1) := by decide +kernel
theorem dX3_greatest_1 : decode cX3_greatest 1 = .ok (.invokestatic 30, 3) := by decide +kernel
theorem dX3_greatest_4 : decode cX3_greatest 4 = .ok (.iload_n 2, 1) := by decide +kernel
theorem dX3_greatest_5 : decode cX3_greatest 5 = .ok (.invokestatic 34, 3) := by decide +kernel
theorem dX3_greatest_8 : decode cX3_greatest 8 = .ok (.aload_n 0, 1) := by decide +kernel
theorem dX3_greatest_9 : decode cX3_greatest 9 = .ok (.getfield 10, 3) := by decide +kernel
theorem dX3_greatest_12 : decode cX3_greatest 12 = .ok (.iload_n 1, 1) := by decide +kernel
theorem dX3_greatest_13 : decode cX3_greatest 13 = .ok (.iload_n 2, 1) := by decide +kernel
theorem dX3_greatest_14 : decode cX3_greatest 14 = .ok (.invokevirtual 134, 3) := by decide +kernel
theorem dX3_greatest_17 : decode cX3_greatest 17 = .ok (.ireturn, 1) := by decide +kernel
set_option maxRecDepth 20000 in
theorem ggX3_counter_X3_checkReplica : GoodIn wsX3_counter wsX3_checkReplica := goodIn_ca (goodIn_r _ [5, 6, 7] (by decide +kernel) (by decide +kernel)) (goodIn_sub (fun _ h => List.mem_cons_of_mem _ (List.mem_append_right _ h)) (by decide +kernel))
set_option maxRecDepth 20000 in
theorem gX3_counter_X3_checkReplica : GoodIn wsX3_counter (va_wsS RX3 30 yX3_checkReplica wsX3_checkReplica) := goodIn_app (goodIn_of _ (by decide +kernel)) ggX3_counter_X3_checkReplica
set_option maxRecDepth 20000 in
theorem ggX3_counter_X3_checkRow : GoodIn wsX3_counter wsX3_checkRow := goodIn_ca (goodIn_r _ [10, 6, 7] (by decide +kernel) (by decide +kernel)) (goodIn_sub (fun _ h => List.mem_cons_of_mem _ (List.mem_append_right _ h)) (by decide +kernel))
set_option maxRecDepth 20000 in
theorem gX3_counter_X3_checkRow : GoodIn wsX3_counter (va_wsS RX3 34 yX3_checkRow wsX3_checkRow) := goodIn_app (goodIn_of _ (by decide +kernel)) ggX3_counter_X3_checkRow
set_option maxRecDepth 20000 in
theorem ggX3_counter_X1_sumOfCell : GoodIn wsX3_counter wsX1_sumOfCell := goodIn_r _ [15, 16, 17, 18, 19, 14, 20, 21, 22, 23, 24, 25, 26, 30, 31, 32, 33, 34, 35] (by decide +kernel) (by decide +kernel)
set_option maxRecDepth 20000 in
theorem gX3_counter_X1_sumOfCell : GoodIn wsX3_counter (wsV RX3 63 RX1 yX1_sumOfCell wsX1_sumOfCell) := goodIn_app (goodIn_of _ (by decide +kernel)) ggX3_counter_X1_sumOfCell
theorem dX3_counter_0 : decode cX3_counter 0 = .ok (.iload_n 1, 1) := by decide +kernel
theorem dX3_counter_1 : decode cX3_counter 1 = .ok (.invokestatic 30, 3) := by decide +kernel
theorem dX3_counter_4 : decode cX3_counter 4 = .ok (.iload_n 2, 1) := by decide +kernel
theorem dX3_counter_5 : decode cX3_counter 5 = .ok (.invokestatic 34, 3) := by decide +kernel
theorem dX3_counter_8 : decode cX3_counter 8 = .ok (.aload_n 0, 1) := by decide +kernel
theorem dX3_counter_9 : decode cX3_counter 9 = .ok (.getfield 10, 3) := by decide +kernel
theorem dX3_counter_12 : decode cX3_counter 12 = .ok (.iload_n 1, 1) := by decide +kernel
theorem dX3_counter_13 : decode cX3_counter 13 = .ok (.iload_n 2, 1) := by decide +kernel
theorem dX3_counter_14 : decode cX3_counter 14 = .ok (.iconst 3, 1) := by decide +kernel
theorem dX3_counter_15 : decode cX3_counter 15 = .ok (.invokevirtual 63, 3) := by decide +kernel
theorem dX3_counter_18 : decode cX3_counter 18 = .ok (.ireturn, 1) := by decide +kernel
set_option maxRecDepth 20000 in
theorem ggX3_elements_X3_checkReplica : GoodIn wsX3_elements wsX3_checkReplica := goodIn_ca (goodIn_r _ [5, 6, 7] (by decide +kernel) (by decide +kernel)) (goodIn_sub (fun _ h => List.mem_cons_of_mem _ (List.mem_append_right _ h)) (by decide +kernel))
set_option maxRecDepth 20000 in
theorem gX3_elements_X3_checkReplica : GoodIn wsX3_elements (va_wsS RX3 30 yX3_checkReplica wsX3_checkReplica) := goodIn_app (goodIn_of _ (by decide +kernel)) ggX3_elements_X3_checkReplica
set_option maxRecDepth 20000 in
theorem ggX3_elements_X3_checkRow : GoodIn wsX3_elements wsX3_checkRow := goodIn_ca (goodIn_r _ [10, 6, 7] (by decide +kernel) (by decide +kernel)) (goodIn_sub (fun _ h => List.mem_cons_of_mem _ (List.mem_append_right _ h)) (by decide +kernel))
set_option maxRecDepth 20000 in
theorem gX3_elements_X3_checkRow : GoodIn wsX3_elements (va_wsS RX3 34 yX3_checkRow wsX3_checkRow) := goodIn_app (goodIn_of _ (by decide +kernel)) ggX3_elements_X3_checkRow
set_option maxRecDepth 20000 in
theorem ggX3_elements_X1_elementBits : GoodIn wsX3_elements wsX1_elementBits := goodIn_r _ [15, 16, 17, 18, 19, 14, 20, 21, 22, 23, 24, 25, 26, 30, 31, 32, 33, 34, 35] (by decide +kernel) (by decide +kernel)
set_option maxRecDepth 20000 in
theorem gX3_elements_X1_elementBits : GoodIn wsX3_elements (wsV RX3 137 RX1 yX1_elementBits wsX1_elementBits) := goodIn_app (goodIn_of _ (by decide +kernel)) ggX3_elements_X1_elementBits
theorem dX3_elements_0 : decode cX3_elements 0 = .ok (.iload_n 1, 1) := by decide +kernel
theorem dX3_elements_1 : decode cX3_elements 1 = .ok (.invokestatic 30, 3) := by decide +kernel
theorem dX3_elements_4 : decode cX3_elements 4 = .ok (.iload_n 2, 1) := by decide +kernel
theorem dX3_elements_5 : decode cX3_elements 5 = .ok (.invokestatic 34, 3) := by decide +kernel
theorem dX3_elements_8 : decode cX3_elements 8 = .ok (.aload_n 0, 1) := by decide +kernel
theorem dX3_elements_9 : decode cX3_elements 9 = .ok (.getfield 10, 3) := by decide +kernel
theorem dX3_elements_12 : decode cX3_elements 12 = .ok (.iload_n 1, 1) := by decide +kernel
theorem dX3_elements_13 : decode cX3_elements 13 = .ok (.iload_n 2, 1) := by decide +kernel
theorem dX3_elements_14 : decode cX3_elements 14 = .ok (.invokevirtual 137, 3) := by decide +kernel
theorem dX3_elements_17 : decode cX3_elements 17 = .ok (.ireturn, 1) := by decide +kernel
set_option maxRecDepth 20000 in
theorem ggX3_entries_X3_checkReplica : GoodIn wsX3_entries wsX3_checkReplica := goodIn_ca (goodIn_r _ [7, 1, 2] (by decide +kernel) (by decide +kernel)) (goodIn_sub (fun _ h => List.mem_cons_of_mem _ (List.mem_append_right _ h)) (by decide +kernel))
set_option maxRecDepth 20000 in
theorem gX3_entries_X3_checkReplica : GoodIn wsX3_entries (va_wsS RX3 30 yX3_checkReplica wsX3_checkReplica) := goodIn_app (goodIn_of _ (by decide +kernel)) ggX3_entries_X3_checkReplica
set_option maxRecDepth 20000 in
theorem ggX3_entries_X3_checkRow : GoodIn wsX3_entries wsX3_checkRow := goodIn_ca (goodIn_r _ [10, 1, 2] (by decide +kernel) (by decide +kernel)) (goodIn_sub (fun _ h => List.mem_cons_of_mem _ (List.mem_append_right _ h)) (by decide +kernel))
set_option maxRecDepth 20000 in
theorem gX3_entries_X3_checkRow : GoodIn wsX3_entries (va_wsS RX3 34 yX3_checkRow wsX3_checkRow) := goodIn_app (goodIn_of _ (by decide +kernel)) ggX3_entries_X3_checkRow
set_option maxRecDepth 20000 in
theorem ggX3_entries_X1_countInCell : GoodIn wsX3_entries wsX1_countInCell := goodIn_r _ [15, 16, 17, 14, 18, 19, 20, 21, 22, 23, 24, 25, 26, 27, 28, 29, 33, 34, 35, 36, 37, 38] (by decide +kernel) (by decide +kernel)
set_option maxRecDepth 20000 in
theorem gX3_entries_X1_countInCell : GoodIn wsX3_entries (wsV RX3 142 RX1 yX1_countInCell wsX1_countInCell) := goodIn_app (goodIn_of _ (by decide +kernel)) ggX3_entries_X1_countInCell
theorem dX3_entries_0 : decode cX3_entries 0 = .ok (.iload_n 1, 1) := by decide +kernel
theorem dX3_entries_1 : decode cX3_entries 1 = .ok (.invokestatic 30, 3) := by decide +kernel
theorem dX3_entries_4 : decode cX3_entries 4 = .ok (.iload_n 2, 1) := by decide +kernel
theorem dX3_entries_5 : decode cX3_entries 5 = .ok (.invokestatic 34, 3) := by decide +kernel
theorem dX3_entries_8 : decode cX3_entries 8 = .ok (.iload_n 3, 1) := by decide +kernel
theorem dX3_entries_9 : decode cX3_entries 9 = .ok (.ifCond .lt 8, 3) := by decide +kernel
theorem dX3_entries_12 : decode cX3_entries 12 = .ok (.iload_n 3, 1) := by decide +kernel
theorem dX3_entries_13 : decode cX3_entries 13 = .ok (.iconst 5, 1) := by decide +kernel
theorem dX3_entries_14 : decode cX3_entries 14 = .ok (.if_icmp .lt 13, 3) := by decide +kernel
theorem dX3_entries_17 : decode cX3_entries 17 = .ok (.new 37, 3) := by decide +kernel
theorem dX3_entries_20 : decode cX3_entries 20 = .ok (.dup, 1) := by decide +kernel
theorem dX3_entries_21 : decode cX3_entries 21 = .ok (.ldc 140, 2) := by decide +kernel
theorem dX3_entries_23 : decode cX3_entries 23 = .ok (.invokespecial 41, 3) := by decide +kernel
theorem dX3_entries_26 : decode cX3_entries 26 = .ok (.athrow, 1) := by decide +kernel
theorem dX3_entries_27 : decode cX3_entries 27 = .ok (.aload_n 0, 1) := by decide +kernel
theorem dX3_entries_28 : decode cX3_entries 28 = .ok (.getfield 10, 3) := by decide +kernel
theorem dX3_entries_31 : decode cX3_entries 31 = .ok (.iload_n 1, 1) := by decide +kernel
theorem dX3_entries_32 : decode cX3_entries 32 = .ok (.iload_n 2, 1) := by decide +kernel
theorem dX3_entries_33 : decode cX3_entries 33 = .ok (.iload_n 3, 1) := by decide +kernel
theorem dX3_entries_34 : decode cX3_entries 34 = .ok (.invokevirtual 142, 3) := by decide +kernel
theorem dX3_entries_37 : decode cX3_entries 37 = .ok (.ireturn, 1) := by decide +kernel
set_option maxRecDepth 20000 in
theorem ggX3_exists_X3_checkReplica : GoodIn wsX3_exists wsX3_checkReplica := goodIn_ca (goodIn_r _ [5, 6, 7] (by decide +kernel) (by decide +kernel)) (goodIn_sub (fun _ h => List.mem_cons_of_mem _ (List.mem_append_right _ h)) (by decide +kernel))
set_option maxRecDepth 20000 in
theorem gX3_exists_X3_checkReplica : GoodIn wsX3_exists (va_wsS RX3 30 yX3_checkReplica wsX3_checkReplica) := goodIn_app (goodIn_of _ (by decide +kernel)) ggX3_exists_X3_checkReplica
set_option maxRecDepth 20000 in
theorem ggX3_exists_X3_checkRow : GoodIn wsX3_exists wsX3_checkRow := goodIn_ca (goodIn_r _ [10, 6, 7] (by decide +kernel) (by decide +kernel)) (goodIn_sub (fun _ h => List.mem_cons_of_mem _ (List.mem_append_right _ h)) (by decide +kernel))
set_option maxRecDepth 20000 in
theorem gX3_exists_X3_checkRow : GoodIn wsX3_exists (va_wsS RX3 34 yX3_checkRow wsX3_checkRow) := goodIn_app (goodIn_of _ (by decide +kernel)) ggX3_exists_X3_checkRow
set_option maxRecDepth 20000 in
theorem ggX3_exists_X1_holdsRow : GoodIn wsX3_exists wsX1_holdsRow := goodIn_r _ [15, 16, 17, 14, 18, 19, 20, 21, 22, 23, 27, 28, 29, 30, 31, 32] (by decide +kernel) (by decide +kernel)
set_option maxRecDepth 20000 in
theorem gX3_exists_X1_holdsRow : GoodIn wsX3_exists (wsV RX3 145 RX1 yX1_holdsRow wsX1_holdsRow) := goodIn_app (goodIn_of _ (by decide +kernel)) ggX3_exists_X1_holdsRow
theorem dX3_exists_0 : decode cX3_exists 0 = .ok (.iload_n 1, 1) := by decide +kernel
theorem dX3_exists_1 : decode cX3_exists 1 = .ok (.invokestatic 30, 3) := by decide +kernel
theorem dX3_exists_4 : decode cX3_exists 4 = .ok (.iload_n 2, 1) := by decide +kernel
theorem dX3_exists_5 : decode cX3_exists 5 = .ok (.invokestatic 34, 3) := by decide +kernel
theorem dX3_exists_8 : decode cX3_exists 8 = .ok (.aload_n 0, 1) := by decide +kernel
theorem dX3_exists_9 : decode cX3_exists 9 = .ok (.getfield 10, 3) := by decide +kernel
theorem dX3_exists_12 : decode cX3_exists 12 = .ok (.iload_n 1, 1) := by decide +kernel
theorem dX3_exists_13 : decode cX3_exists 13 = .ok (.iload_n 2, 1) := by decide +kernel
theorem dX3_exists_14 : decode cX3_exists 14 = .ok (.invokevirtual 145, 3) := by decide +kernel
theorem dX3_exists_17 : decode cX3_exists 17 = .ok (.ireturn, 1) := by decide +kernel
set_option maxRecDepth 20000 in
theorem ggX3_mean_X3_checkReplica : GoodIn wsX3_mean wsX3_checkReplica := goodIn_ca (goodIn_r _ [5, 6, 7] (by decide +kernel) (by decide +kernel)) (goodIn_sub (fun _ h => List.mem_cons_of_mem _ (List.mem_append_right _ h)) (by decide +kernel))
set_option maxRecDepth 20000 in
theorem gX3_mean_X3_checkReplica : GoodIn wsX3_mean (va_wsS RX3 30 yX3_checkReplica wsX3_checkReplica) := goodIn_app (goodIn_of _ (by decide +kernel)) ggX3_mean_X3_checkReplica
set_option maxRecDepth 20000 in
theorem ggX3_mean_X3_checkRow : GoodIn wsX3_mean wsX3_checkRow := goodIn_ca (goodIn_r _ [10, 6, 7] (by decide +kernel) (by decide +kernel)) (goodIn_sub (fun _ h => List.mem_cons_of_mem _ (List.mem_append_right _ h)) (by decide +kernel))
set_option maxRecDepth 20000 in
theorem gX3_mean_X3_checkRow : GoodIn wsX3_mean (va_wsS RX3 34 yX3_checkRow wsX3_checkRow) := goodIn_app (goodIn_of _ (by decide +kernel)) ggX3_mean_X3_checkRow
set_option maxRecDepth 20000 in
theorem ggX3_mean_X1_countInCell : GoodIn wsX3_mean wsX1_countInCell := goodIn_r _ [15, 16, 17, 14, 18, 19, 20, 21, 22, 23, 24, 25, 26, 27, 28, 29, 38, 39, 40, 41, 42, 43] (by decide +kernel) (by decide +kernel)
set_option maxRecDepth 20000 in
theorem gX3_mean_X1_countInCell : GoodIn wsX3_mean (wsV RX3 142 RX1 yX1_countInCell wsX1_countInCell) := goodIn_app (goodIn_of _ (by decide +kernel)) ggX3_mean_X1_countInCell
set_option maxRecDepth 20000 in
theorem ggX3_mean_X1_sumOfCell : GoodIn wsX3_mean wsX1_sumOfCell := goodIn_r _ [33, 29, 34, 22, 23, 14, 24, 19, 20, 21, 16, 17, 18, 38, 39, 40, 41, 42, 43] (by decide +kernel) (by decide +kernel)
set_option maxRecDepth 20000 in
theorem gX3_mean_X1_sumOfCell : GoodIn wsX3_mean (wsV RX3 63 RX1 yX1_sumOfCell wsX1_sumOfCell) := goodIn_app (goodIn_of _ (by decide +kernel)) ggX3_mean_X1_sumOfCell
theorem dX3_mean_0 : decode cX3_mean 0 = .ok (.iload_n 1, 1) := by decide +kernel
theorem dX3_mean_1 : decode cX3_mean 1 = .ok (.invokestatic 30, 3) := by decide +kernel
theorem dX3_mean_4 : decode cX3_mean 4 = .ok (.iload_n 2, 1) := by decide +kernel
theorem dX3_mean_5 : decode cX3_mean 5 = .ok (.invokestatic 34, 3) := by decide +kernel
theorem dX3_mean_8 : decode cX3_mean 8 = .ok (.aload_n 0, 1) := by decide +kernel
theorem dX3_mean_9 : decode cX3_mean 9 = .ok (.getfield 10, 3) := by decide +kernel
theorem dX3_mean_12 : decode cX3_mean 12 = .ok (.iload_n 1, 1) := by decide +kernel
theorem dX3_mean_13 : decode cX3_mean 13 = .ok (.iload_n 2, 1) := by decide +kernel
theorem dX3_mean_14 : decode cX3_mean 14 = .ok (.iconst 1, 1) := by decide +kernel
theorem dX3_mean_15 : decode cX3_mean 15 = .ok (.invokevirtual 142, 3) := by decide +kernel
theorem dX3_mean_18 : decode cX3_mean 18 = .ok (.istore_n 3, 1) := by decide +kernel
theorem dX3_mean_19 : decode cX3_mean 19 = .ok (.iload_n 3, 1) := by decide +kernel
theorem dX3_mean_20 : decode cX3_mean 20 = .ok (.ifCond .ne 5, 3) := by decide +kernel
theorem dX3_mean_23 : decode cX3_mean 23 = .ok (.fconst 0, 1) := by decide +kernel
theorem dX3_mean_24 : decode cX3_mean 24 = .ok (.freturn, 1) := by decide +kernel
theorem dX3_mean_25 : decode cX3_mean 25 = .ok (.aload_n 0, 1) := by decide +kernel
theorem dX3_mean_26 : decode cX3_mean 26 = .ok (.getfield 10, 3) := by decide +kernel
theorem dX3_mean_29 : decode cX3_mean 29 = .ok (.iload_n 1, 1) := by decide +kernel
theorem dX3_mean_30 : decode cX3_mean 30 = .ok (.iload_n 2, 1) := by decide +kernel
theorem dX3_mean_31 : decode cX3_mean 31 = .ok (.iconst 1, 1) := by decide +kernel
theorem dX3_mean_32 : decode cX3_mean 32 = .ok (.invokevirtual 63, 3) := by decide +kernel
theorem dX3_mean_35 : decode cX3_mean 35 = .ok (.i2f, 1) := by decide +kernel
theorem dX3_mean_36 : decode cX3_mean 36 = .ok (.iload_n 3, 1) := by decide +kernel
theorem dX3_mean_37 : decode cX3_mean 37 = .ok (.i2f, 1) := by decide +kernel
theorem dX3_mean_38 : decode cX3_mean 38 = .ok (.fdiv, 1) := by decide +kernel
theorem dX3_mean_39 : decode cX3_mean 39 = .ok (.freturn, 1) := by decide +kernel
set_option maxRecDepth 20000 in
theorem ggX3_seen_X3_checkReplica : GoodIn wsX3_seen wsX3_checkReplica := goodIn_ca (goodIn_r _ [5, 6, 7] (by decide +kernel) (by decide +kernel)) (goodIn_sub (fun _ h => List.mem_cons_of_mem _ (List.mem_append_right _ h)) (by decide +kernel))
set_option maxRecDepth 20000 in
theorem gX3_seen_X3_checkReplica : GoodIn wsX3_seen (va_wsS RX3 30 yX3_checkReplica wsX3_checkReplica) := goodIn_app (goodIn_of _ (by decide +kernel)) ggX3_seen_X3_checkReplica
set_option maxRecDepth 20000 in
theorem ggX3_seen_X1_seenNumber : GoodIn wsX3_seen wsX1_seenNumber := goodIn_r _ [12, 13, 17, 18, 19, 20, 21, 22] (by decide +kernel) (by decide +kernel)
set_option maxRecDepth 20000 in
theorem gX3_seen_X1_seenNumber : GoodIn wsX3_seen (wsV RX3 149 RX1 yX1_seenNumber wsX1_seenNumber) := goodIn_app (goodIn_of _ (by decide +kernel)) ggX3_seen_X1_seenNumber
theorem dX3_seen_0 : decode cX3_seen 0 = .ok (.iload_n 1, 1) := by decide +kernel
theorem dX3_seen_1 : decode cX3_seen 1 = .ok (.invokestatic 30, 3) := by decide +kernel
theorem dX3_seen_4 : decode cX3_seen 4 = .ok (.iload_n 2, 1) := by decide +kernel
theorem dX3_seen_5 : decode cX3_seen 5 = .ok (.invokestatic 30, 3) := by decide +kernel
theorem dX3_seen_8 : decode cX3_seen 8 = .ok (.aload_n 0, 1) := by decide +kernel
theorem dX3_seen_9 : decode cX3_seen 9 = .ok (.getfield 10, 3) := by decide +kernel
theorem dX3_seen_12 : decode cX3_seen 12 = .ok (.iload_n 1, 1) := by decide +kernel
theorem dX3_seen_13 : decode cX3_seen 13 = .ok (.iload_n 2, 1) := by decide +kernel
theorem dX3_seen_14 : decode cX3_seen 14 = .ok (.invokevirtual 149, 3) := by decide +kernel
theorem dX3_seen_17 : decode cX3_seen 17 = .ok (.ireturn, 1) := by decide +kernel
set_option maxRecDepth 20000 in
theorem ggX3_clock_X3_checkReplica : GoodIn wsX3_clock wsX3_checkReplica := goodIn_ca (goodIn_r _ [5, 6, 7] (by decide +kernel) (by decide +kernel)) (goodIn_sub (fun _ h => List.mem_cons_of_mem _ (List.mem_append_right _ h)) (by decide +kernel))
set_option maxRecDepth 20000 in
theorem gX3_clock_X3_checkReplica : GoodIn wsX3_clock (va_wsS RX3 30 yX3_checkReplica wsX3_checkReplica) := goodIn_app (goodIn_of _ (by decide +kernel)) ggX3_clock_X3_checkReplica
theorem dX3_clock_0 : decode cX3_clock 0 = .ok (.iload_n 1, 1) := by decide +kernel
theorem dX3_clock_1 : decode cX3_clock 1 = .ok (.invokestatic 30, 3) := by decide +kernel
theorem dX3_clock_4 : decode cX3_clock 4 = .ok (.aload_n 0, 1) := by decide +kernel
theorem dX3_clock_5 : decode cX3_clock 5 = .ok (.getfield 10, 3) := by decide +kernel
theorem dX3_clock_8 : decode cX3_clock 8 = .ok (.getfield 152, 3) := by decide +kernel
theorem dX3_clock_11 : decode cX3_clock 11 = .ok (.iload_n 1, 1) := by decide +kernel
theorem dX3_clock_12 : decode cX3_clock 12 = .ok (.iaload, 1) := by decide +kernel
theorem dX3_clock_13 : decode cX3_clock 13 = .ok (.ireturn, 1) := by decide +kernel
set_option maxRecDepth 20000 in
theorem ggX3_relation_X3_checkReplica : GoodIn wsX3_relation wsX3_checkReplica := goodIn_ca (goodIn_r _ [5, 6, 7] (by decide +kernel) (by decide +kernel)) (goodIn_sub (fun _ h => List.mem_cons_of_mem _ (List.mem_append_right _ h)) (by decide +kernel))
set_option maxRecDepth 20000 in
theorem gX3_relation_X3_checkReplica : GoodIn wsX3_relation (va_wsS RX3 30 yX3_checkReplica wsX3_checkReplica) := goodIn_app (goodIn_of _ (by decide +kernel)) ggX3_relation_X3_checkReplica
set_option maxRecDepth 20000 in
theorem ggX3_relation_X1_knows : GoodIn wsX3_relation wsX1_knows := goodIn_r _ [12, 13, 14, 15, 11, 16, 17, 21, 22, 23, 24, 25, 26] (by decide +kernel) (by decide +kernel)
set_option maxRecDepth 20000 in
theorem gX3_relation_X1_knows : GoodIn wsX3_relation (wsV RX3 156 RX1 yX1_knows wsX1_knows) := goodIn_app (goodIn_of _ (by decide +kernel)) ggX3_relation_X1_knows
theorem dX3_relation_0 : decode cX3_relation 0 = .ok (.iload_n 1, 1) := by decide +kernel
theorem dX3_relation_1 : decode cX3_relation 1 = .ok (.invokestatic 30, 3) := by decide +kernel
theorem dX3_relation_4 : decode cX3_relation 4 = .ok (.iload_n 2, 1) := by decide +kernel
theorem dX3_relation_5 : decode cX3_relation 5 = .ok (.invokestatic 30, 3) := by decide +kernel
theorem dX3_relation_8 : decode cX3_relation 8 = .ok (.aload_n 0, 1) := by decide +kernel
theorem dX3_relation_9 : decode cX3_relation 9 = .ok (.getfield 10, 3) := by decide +kernel
theorem dX3_relation_12 : decode cX3_relation 12 = .ok (.iload_n 1, 1) := by decide +kernel
theorem dX3_relation_13 : decode cX3_relation 13 = .ok (.iload_n 2, 1) := by decide +kernel
theorem dX3_relation_14 : decode cX3_relation 14 = .ok (.invokevirtual 156, 3) := by decide +kernel
theorem dX3_relation_17 : decode cX3_relation 17 = .ok (.istore_n 3, 1) := by decide +kernel
theorem dX3_relation_18 : decode cX3_relation 18 = .ok (.aload_n 0, 1) := by decide +kernel
theorem dX3_relation_19 : decode cX3_relation 19 = .ok (.getfield 10, 3) := by decide +kernel
theorem dX3_relation_22 : decode cX3_relation 22 = .ok (.iload_n 2, 1) := by decide +kernel
theorem dX3_relation_23 : decode cX3_relation 23 = .ok (.iload_n 1, 1) := by decide +kernel
theorem dX3_relation_24 : decode cX3_relation 24 = .ok (.invokevirtual 156, 3) := by decide +kernel
theorem dX3_relation_27 : decode cX3_relation 27 = .ok (.istore 4, 2) := by decide +kernel
theorem dX3_relation_29 : decode cX3_relation 29 = .ok (.iload_n 3, 1) := by decide +kernel
theorem dX3_relation_30 : decode cX3_relation 30 = .ok (.ifCond .eq 14, 3) := by decide +kernel
theorem dX3_relation_33 : decode cX3_relation 33 = .ok (.iload 4, 2) := by decide +kernel
theorem dX3_relation_35 : decode cX3_relation 35 = .ok (.ifCond .eq 7, 3) := by decide +kernel
theorem dX3_relation_38 : decode cX3_relation 38 = .ok (.iconst 0, 1) := by decide +kernel
theorem dX3_relation_39 : decode cX3_relation 39 = .ok (.goto 4, 3) := by decide +kernel
theorem dX3_relation_42 : decode cX3_relation 42 = .ok (.iconst 2, 1) := by decide +kernel
theorem dX3_relation_43 : decode cX3_relation 43 = .ok (.ireturn, 1) := by decide +kernel
theorem dX3_relation_44 : decode cX3_relation 44 = .ok (.iload 4, 2) := by decide +kernel
theorem dX3_relation_46 : decode cX3_relation 46 = .ok (.ifCond .eq 7, 3) := by decide +kernel
theorem dX3_relation_49 : decode cX3_relation 49 = .ok (.iconst 1, 1) := by decide +kernel
theorem dX3_relation_50 : decode cX3_relation 50 = .ok (.goto 4, 3) := by decide +kernel
theorem dX3_relation_53 : decode cX3_relation 53 = .ok (.iconst 3, 1) := by decide +kernel
theorem dX3_relation_54 : decode cX3_relation 54 = .ok (.ireturn, 1) := by decide +kernel
set_option maxRecDepth 20000 in
theorem ggX3_conflicts_X3_checkReplica : GoodIn wsX3_conflicts wsX3_checkReplica := goodIn_ca (goodIn_r _ [5, 6, 7] (by decide +kernel) (by decide +kernel)) (goodIn_sub (fun _ h => List.mem_cons_of_mem _ (List.mem_append_right _ h)) (by decide +kernel))
set_option maxRecDepth 20000 in
theorem gX3_conflicts_X3_checkReplica : GoodIn wsX3_conflicts (va_wsS RX3 30 yX3_checkReplica wsX3_checkReplica) := goodIn_app (goodIn_of _ (by decide +kernel)) ggX3_conflicts_X3_checkReplica
set_option maxRecDepth 20000 in
theorem ggX3_conflicts_X1_countInCell : GoodIn wsX3_conflicts wsX1_countInCell := goodIn_r _ [12, 13, 14, 11, 15, 16, 17, 18, 19, 20, 21, 22, 23, 24, 25, 26, 30, 31, 32, 33, 34, 35] (by decide +kernel) (by decide +kernel)
set_option maxRecDepth 20000 in
theorem gX3_conflicts_X1_countInCell : GoodIn wsX3_conflicts (wsV RX3 142 RX1 yX1_countInCell wsX1_countInCell) := goodIn_app (goodIn_of _ (by decide +kernel)) ggX3_conflicts_X1_countInCell
theorem dX3_conflicts_0 : decode cX3_conflicts 0 = .ok (.iload_n 1, 1) := by decide +kernel
theorem dX3_conflicts_1 : decode cX3_conflicts 1 = .ok (.invokestatic 30, 3) := by decide +kernel
theorem dX3_conflicts_4 : decode cX3_conflicts 4 = .ok (.iconst 0, 1) := by decide +kernel
theorem dX3_conflicts_5 : decode cX3_conflicts 5 = .ok (.istore_n 2, 1) := by decide +kernel
theorem dX3_conflicts_6 : decode cX3_conflicts 6 = .ok (.iconst 0, 1) := by decide +kernel
theorem dX3_conflicts_7 : decode cX3_conflicts 7 = .ok (.istore_n 3, 1) := by decide +kernel
theorem dX3_conflicts_8 : decode cX3_conflicts 8 = .ok (.iload_n 3, 1) := by decide +kernel
theorem dX3_conflicts_9 : decode cX3_conflicts 9 = .ok (.bipush 6, 2) := by decide +kernel
theorem dX3_conflicts_11 : decode cX3_conflicts 11 = .ok (.if_icmp .ge 26, 3) := by decide +kernel
theorem dX3_conflicts_14 : decode cX3_conflicts 14 = .ok (.aload_n 0, 1) := by decide +kernel
theorem dX3_conflicts_15 : decode cX3_conflicts 15 = .ok (.getfield 10, 3) := by decide +kernel
theorem dX3_conflicts_18 : decode cX3_conflicts 18 = .ok (.iload_n 1, 1) := by decide +kernel
theorem dX3_conflicts_19 : decode cX3_conflicts 19 = .ok (.iload_n 3, 1) := by decide +kernel
theorem dX3_conflicts_20 : decode cX3_conflicts 20 = .ok (.iconst 1, 1) := by decide +kernel
theorem dX3_conflicts_21 : decode cX3_conflicts 21 = .ok (.invokevirtual 142, 3) := by decide +kernel
theorem dX3_conflicts_24 : decode cX3_conflicts 24 = .ok (.iconst 2, 1) := by decide +kernel
theorem dX3_conflicts_25 : decode cX3_conflicts 25 = .ok (.if_icmp .lt 6, 3) := by decide +kernel
theorem dX3_conflicts_28 : decode cX3_conflicts 28 = .ok (.iinc 2 1, 3) := by decide +kernel
theorem dX3_conflicts_31 : decode cX3_conflicts 31 = .ok (.iinc 3 1, 3) := by decide +kernel
theorem dX3_conflicts_34 : decode cX3_conflicts 34 = .ok (.goto (-26), 3) := by decide +kernel
theorem dX3_conflicts_37 : decode cX3_conflicts 37 = .ok (.iload_n 2, 1) := by decide +kernel
theorem dX3_conflicts_38 : decode cX3_conflicts 38 = .ok (.ireturn, 1) := by decide +kernel
set_option maxRecDepth 20000 in
theorem ggX3_agreement_X1_isAgreed : GoodIn wsX3_agreement wsX1_isAgreed := goodIn_r _ [7, 8, 9, 10, 6, 11, 12, 13, 14, 15, 16, 17, 21, 22, 23, 24, 25, 26] (by decide +kernel) (by decide +kernel)
set_option maxRecDepth 20000 in
theorem gX3_agreement_X1_isAgreed : GoodIn wsX3_agreement (wsV RX3 159 RX1 yX1_isAgreed wsX1_isAgreed) := goodIn_app (goodIn_of _ (by decide +kernel)) ggX3_agreement_X1_isAgreed
theorem dX3_agreement_0 : decode cX3_agreement 0 = .ok (.iconst 0, 1) := by decide +kernel
theorem dX3_agreement_1 : decode cX3_agreement 1 = .ok (.istore_n 1, 1) := by decide +kernel
theorem dX3_agreement_2 : decode cX3_agreement 2 = .ok (.iconst 0, 1) := by decide +kernel
theorem dX3_agreement_3 : decode cX3_agreement 3 = .ok (.istore_n 2, 1) := by decide +kernel
theorem dX3_agreement_4 : decode cX3_agreement 4 = .ok (.iload_n 2, 1) := by decide +kernel
theorem dX3_agreement_5 : decode cX3_agreement 5 = .ok (.bipush 6, 2) := by decide +kernel
theorem dX3_agreement_7 : decode cX3_agreement 7 = .ok (.if_icmp .ge 37, 3) := by decide +kernel
theorem dX3_agreement_10 : decode cX3_agreement 10 = .ok (.iconst 0, 1) := by decide +kernel
theorem dX3_agreement_11 : decode cX3_agreement 11 = .ok (.istore_n 3, 1) := by decide +kernel
theorem dX3_agreement_12 : decode cX3_agreement 12 = .ok (.iload_n 3, 1) := by decide +kernel
theorem dX3_agreement_13 : decode cX3_agreement 13 = .ok (.iconst 5, 1) := by decide +kernel
theorem dX3_agreement_14 : decode cX3_agreement 14 = .ok (.if_icmp .ge 24, 3) := by decide +kernel
theorem dX3_agreement_17 : decode cX3_agreement 17 = .ok (.aload_n 0, 1) := by decide +kernel
theorem dX3_agreement_18 : decode cX3_agreement 18 = .ok (.getfield 10, 3) := by decide +kernel
theorem dX3_agreement_21 : decode cX3_agreement 21 = .ok (.iload_n 2, 1) := by decide +kernel
theorem dX3_agreement_22 : decode cX3_agreement 22 = .ok (.iload_n 3, 1) := by decide +kernel
theorem dX3_agreement_23 : decode cX3_agreement 23 = .ok (.invokevirtual 159, 3) := by decide +kernel
theorem dX3_agreement_26 : decode cX3_agreement 26 = .ok (.ifCond .eq 6, 3) := by decide +kernel
theorem dX3_agreement_29 : decode cX3_agreement 29 = .ok (.iinc 1 1, 3) := by decide +kernel
theorem dX3_agreement_32 : decode cX3_agreement 32 = .ok (.iinc 3 1, 3) := by decide +kernel
theorem dX3_agreement_35 : decode cX3_agreement 35 = .ok (.goto (-23), 3) := by decide +kernel
theorem dX3_agreement_38 : decode cX3_agreement 38 = .ok (.iinc 2 1, 3) := by decide +kernel
theorem dX3_agreement_41 : decode cX3_agreement 41 = .ok (.goto (-37), 3) := by decide +kernel
theorem dX3_agreement_44 : decode cX3_agreement 44 = .ok (.iload_n 1, 1) := by decide +kernel
theorem dX3_agreement_45 : decode cX3_agreement 45 = .ok (.i2d, 1) := by decide +kernel
theorem dX3_agreement_46 : decode cX3_agreement 46 = .ok (.ldc2_w 162, 3) := by decide +kernel
theorem dX3_agreement_49 : decode cX3_agreement 49 = .ok (.ddiv, 1) := by decide +kernel
theorem dX3_agreement_50 : decode cX3_agreement 50 = .ok (.dreturn, 1) := by decide +kernel
theorem dX3_latestMerge_0 : decode cX3_latestMerge 0 = .ok (.iload_n 1, 1) := by decide +kernel
theorem dX3_latestMerge_1 : decode cX3_latestMerge 1 = .ok (.ifCond .lt 8, 3) := by decide +kernel
theorem dX3_latestMerge_4 : decode cX3_latestMerge 4 = .ok (.iload_n 1, 1) := by decide +kernel
theorem dX3_latestMerge_5 : decode cX3_latestMerge 5 = .ok (.iconst 4, 1) := by decide +kernel
theorem dX3_latestMerge_6 : decode cX3_latestMerge 6 = .ok (.if_icmp .lt 13, 3) := by decide +kernel
theorem dX3_latestMerge_9 : decode cX3_latestMerge 9 = .ok (.new 44, 3) := by decide +kernel
theorem dX3_latestMerge_12 : decode cX3_latestMerge 12 = .ok (.dup, 1) := by decide +kernel
theorem dX3_latestMerge_13 : decode cX3_latestMerge 13 = .ok (.ldc 164, 2) := by decide +kernel
theorem dX3_latestMerge_15 : decode cX3_latestMerge 15 = .ok (.invokespecial 48, 3) := by decide +kernel
theorem dX3_latestMerge_18 : decode cX3_latestMerge 18 = .ok (.athrow, 1) := by decide +kernel
theorem dX3_latestMerge_19 : decode cX3_latestMerge 19 = .ok (.aload_n 0, 1) := by decide +kernel
theorem dX3_latestMerge_20 : decode cX3_latestMerge 20 = .ok (.getfield 10, 3) := by decide +kernel
theorem dX3_latestMerge_23 : decode cX3_latestMerge 23 = .ok (.getfield 166, 3) := by decide +kernel
theorem dX3_latestMerge_26 : decode cX3_latestMerge 26 = .ok (.iload_n 1, 1) := by decide +kernel
theorem dX3_latestMerge_27 : decode cX3_latestMerge 27 = .ok (.iaload, 1) := by decide +kernel
theorem dX3_latestMerge_28 : decode cX3_latestMerge 28 = .ok (.ireturn, 1) := by decide +kernel
set_option maxRecDepth 20000 in
theorem ggX3_ifMerged_X3_checkReplica : GoodIn wsX3_ifMerged wsX3_checkReplica := goodIn_ca (goodIn_r _ [7, 8, 9] (by decide +kernel) (by decide +kernel)) (goodIn_sub (fun _ h => List.mem_cons_of_mem _ (List.mem_append_right _ h)) (by decide +kernel))
set_option maxRecDepth 20000 in
theorem gX3_ifMerged_X3_checkReplica : GoodIn wsX3_ifMerged (va_wsS RX3 30 yX3_checkReplica wsX3_checkReplica) := goodIn_app (goodIn_of _ (by decide +kernel)) ggX3_ifMerged_X3_checkReplica
set_option maxRecDepth 20000 in
theorem ggX3_ifMerged_X3_checkDifferent : GoodIn wsX3_ifMerged wsX3_checkDifferent := goodIn_ca (goodIn_r _ [12, 1, 2] (by decide +kernel) (by decide +kernel)) (goodIn_sub (fun _ h => List.mem_cons_of_mem _ (List.mem_append_left _ (List.mem_append_right _ h))) (by decide +kernel))
set_option maxRecDepth 20000 in
theorem gX3_ifMerged_X3_checkDifferent : GoodIn wsX3_ifMerged (va_wsS RX3 80 yX3_checkDifferent wsX3_checkDifferent) := goodIn_app (goodIn_of _ (by decide +kernel)) ggX3_ifMerged_X3_checkDifferent
set_option maxRecDepth 20000 in
theorem ggX3_ifMerged_X1_countAdded : GoodIn wsX3_ifMerged wsX1_countAdded := goodIn_r _ [17, 18, 19, 20, 16, 21, 22, 23, 24, 25, 26, 27, 39, 40, 41, 42, 43, 44] (by decide +kernel) (by decide +kernel)
set_option maxRecDepth 20000 in
theorem gX3_ifMerged_X1_countAdded : GoodIn wsX3_ifMerged (wsV RX3 171 RX1 yX1_countAdded wsX1_countAdded) := goodIn_app (goodIn_of _ (by decide +kernel)) ggX3_ifMerged_X1_countAdded
set_option maxRecDepth 20000 in
theorem ggX3_ifMerged_X1_countRemoved : GoodIn wsX3_ifMerged wsX1_countRemoved := goodIn_r _ [31, 32, 33, 34, 16, 35, 22, 23, 24, 25, 26, 27, 39, 40, 41, 42, 43, 44] (by decide +kernel) (by decide +kernel)
set_option maxRecDepth 20000 in
theorem gX3_ifMerged_X1_countRemoved : GoodIn wsX3_ifMerged (wsV RX3 174 RX1 yX1_countRemoved wsX1_countRemoved) := goodIn_app (goodIn_of _ (by decide +kernel)) ggX3_ifMerged_X1_countRemoved
theorem dX3_ifMerged_0 : decode cX3_ifMerged 0 = .ok (.iload_n 1, 1) := by decide +kernel
theorem dX3_ifMerged_1 : decode cX3_ifMerged 1 = .ok (.invokestatic 30, 3) := by decide +kernel
theorem dX3_ifMerged_4 : decode cX3_ifMerged 4 = .ok (.iload_n 2, 1) := by decide +kernel
theorem dX3_ifMerged_5 : decode cX3_ifMerged 5 = .ok (.invokestatic 30, 3) := by decide +kernel
theorem dX3_ifMerged_8 : decode cX3_ifMerged 8 = .ok (.iload_n 1, 1) := by decide +kernel
theorem dX3_ifMerged_9 : decode cX3_ifMerged 9 = .ok (.iload_n 2, 1) := by decide +kernel
theorem dX3_ifMerged_10 : decode cX3_ifMerged 10 = .ok (.invokestatic 80, 3) := by decide +kernel
theorem dX3_ifMerged_13 : decode cX3_ifMerged 13 = .ok (.iload_n 3, 1) := by decide +kernel
theorem dX3_ifMerged_14 : decode cX3_ifMerged 14 = .ok (.iconst 2, 1) := by decide +kernel
theorem dX3_ifMerged_15 : decode cX3_ifMerged 15 = .ok (.if_icmp .eq 18, 3) := by decide +kernel
theorem dX3_ifMerged_18 : decode cX3_ifMerged 18 = .ok (.iload_n 3, 1) := by decide +kernel
theorem dX3_ifMerged_19 : decode cX3_ifMerged 19 = .ok (.iconst 3, 1) := by decide +kernel
theorem dX3_ifMerged_20 : decode cX3_ifMerged 20 = .ok (.if_icmp .eq 13, 3) := by decide +kernel
theorem dX3_ifMerged_23 : decode cX3_ifMerged 23 = .ok (.new 44, 3) := by decide +kernel
theorem dX3_ifMerged_26 : decode cX3_ifMerged 26 = .ok (.dup, 1) := by decide +kernel
theorem dX3_ifMerged_27 : decode cX3_ifMerged 27 = .ok (.ldc 169, 2) := by decide +kernel
theorem dX3_ifMerged_29 : decode cX3_ifMerged 29 = .ok (.invokespecial 48, 3) := by decide +kernel
theorem dX3_ifMerged_32 : decode cX3_ifMerged 32 = .ok (.athrow, 1) := by decide +kernel
theorem dX3_ifMerged_33 : decode cX3_ifMerged 33 = .ok (.iload_n 3, 1) := by decide +kernel
theorem dX3_ifMerged_34 : decode cX3_ifMerged 34 = .ok (.iconst 2, 1) := by decide +kernel
theorem dX3_ifMerged_35 : decode cX3_ifMerged 35 = .ok (.if_icmp .ne 15, 3) := by decide +kernel
theorem dX3_ifMerged_38 : decode cX3_ifMerged 38 = .ok (.aload_n 0, 1) := by decide +kernel
theorem dX3_ifMerged_39 : decode cX3_ifMerged 39 = .ok (.getfield 10, 3) := by decide +kernel
theorem dX3_ifMerged_42 : decode cX3_ifMerged 42 = .ok (.iload_n 1, 1) := by decide +kernel
theorem dX3_ifMerged_43 : decode cX3_ifMerged 43 = .ok (.iload_n 2, 1) := by decide +kernel
theorem dX3_ifMerged_44 : decode cX3_ifMerged 44 = .ok (.invokevirtual 171, 3) := by decide +kernel
theorem dX3_ifMerged_47 : decode cX3_ifMerged 47 = .ok (.goto 12, 3) := by decide +kernel
theorem dX3_ifMerged_50 : decode cX3_ifMerged 50 = .ok (.aload_n 0, 1) := by decide +kernel
theorem dX3_ifMerged_51 : decode cX3_ifMerged 51 = .ok (.getfield 10, 3) := by decide +kernel
theorem dX3_ifMerged_54 : decode cX3_ifMerged 54 = .ok (.iload_n 1, 1) := by decide +kernel
theorem dX3_ifMerged_55 : decode cX3_ifMerged 55 = .ok (.iload_n 2, 1) := by decide +kernel
theorem dX3_ifMerged_56 : decode cX3_ifMerged 56 = .ok (.invokevirtual 174, 3) := by decide +kernel
theorem dX3_ifMerged_59 : decode cX3_ifMerged 59 = .ok (.ireturn, 1) := by decide +kernel
theorem dX3_savedStates_0 : decode cX3_savedStates 0 = .ok (.aload_n 0, 1) := by decide +kernel
theorem dX3_savedStates_1 : decode cX3_savedStates 1 = .ok (.getfield 19, 3) := by decide +kernel
theorem dX3_savedStates_4 : decode cX3_savedStates 4 = .ok (.getfield 118, 3) := by decide +kernel
theorem dX3_savedStates_7 : decode cX3_savedStates 7 = .ok (.ireturn, 1) := by decide +kernel
theorem dX3_textLength_0 : decode cX3_textLength 0 = .ok (.aload_n 0, 1) := by decide +kernel
theorem dX3_textLength_1 : decode cX3_textLength 1 = .ok (.getfield 26, 3) := by decide +kernel
theorem dX3_textLength_4 : decode cX3_textLength 4 = .ok (.getfield 89, 3) := by decide +kernel
theorem dX3_textLength_7 : decode cX3_textLength 7 = .ok (.ireturn, 1) := by decide +kernel
theorem dX3_checkReplica_0 : decode cX3_checkReplica 0 = .ok (.iload_n 0, 1) := by decide +kernel
theorem dX3_checkReplica_1 : decode cX3_checkReplica 1 = .ok (.ifCond .lt 8, 3) := by decide +kernel
theorem dX3_checkReplica_4 : decode cX3_checkReplica 4 = .ok (.iload_n 0, 1) := by decide +kernel
theorem dX3_checkReplica_5 : decode cX3_checkReplica 5 = .ok (.iconst 4, 1) := by decide +kernel
theorem dX3_checkReplica_6 : decode cX3_checkReplica 6 = .ok (.if_icmp .lt 13, 3) := by decide +kernel
theorem dX3_checkReplica_9 : decode cX3_checkReplica 9 = .ok (.new 37, 3) := by decide +kernel
theorem dX3_checkReplica_12 : decode cX3_checkReplica 12 = .ok (.dup, 1) := by decide +kernel
theorem dX3_checkReplica_13 : decode cX3_checkReplica 13 = .ok (.ldc 177, 2) := by decide +kernel
theorem dX3_checkReplica_15 : decode cX3_checkReplica 15 = .ok (.invokespecial 41, 3) := by decide +kernel
theorem dX3_checkReplica_18 : decode cX3_checkReplica 18 = .ok (.athrow, 1) := by decide +kernel
theorem dX3_checkReplica_19 : decode cX3_checkReplica 19 = .ok (.return_, 1) := by decide +kernel
theorem dX3_checkRow_0 : decode cX3_checkRow 0 = .ok (.iload_n 0, 1) := by decide +kernel
theorem dX3_checkRow_1 : decode cX3_checkRow 1 = .ok (.ifCond .lt 9, 3) := by decide +kernel
theorem dX3_checkRow_4 : decode cX3_checkRow 4 = .ok (.iload_n 0, 1) := by decide +kernel
theorem dX3_checkRow_5 : decode cX3_checkRow 5 = .ok (.bipush 6, 2) := by decide +kernel
theorem dX3_checkRow_7 : decode cX3_checkRow 7 = .ok (.if_icmp .lt 13, 3) := by decide +kernel
theorem dX3_checkRow_10 : decode cX3_checkRow 10 = .ok (.new 37, 3) := by decide +kernel
theorem dX3_checkRow_13 : decode cX3_checkRow 13 = .ok (.dup, 1) := by decide +kernel
theorem dX3_checkRow_14 : decode cX3_checkRow 14 = .ok (.ldc 179, 2) := by decide +kernel
theorem dX3_checkRow_16 : decode cX3_checkRow 16 = .ok (.invokespecial 41, 3) := by decide +kernel
theorem dX3_checkRow_19 : decode cX3_checkRow 19 = .ok (.athrow, 1) := by decide +kernel
theorem dX3_checkRow_20 : decode cX3_checkRow 20 = .ok (.return_, 1) := by decide +kernel
theorem dX3_checkElement_0 : decode cX3_checkElement 0 = .ok (.iload_n 0, 1) := by decide +kernel
theorem dX3_checkElement_1 : decode cX3_checkElement 1 = .ok (.ifCond .lt 9, 3) := by decide +kernel
theorem dX3_checkElement_4 : decode cX3_checkElement 4 = .ok (.iload_n 0, 1) := by decide +kernel
theorem dX3_checkElement_5 : decode cX3_checkElement 5 = .ok (.bipush 16, 2) := by decide +kernel
theorem dX3_checkElement_7 : decode cX3_checkElement 7 = .ok (.if_icmp .lt 13, 3) := by decide +kernel
theorem dX3_checkElement_10 : decode cX3_checkElement 10 = .ok (.new 44, 3) := by decide +kernel
theorem dX3_checkElement_13 : decode cX3_checkElement 13 = .ok (.dup, 1) := by decide +kernel
theorem dX3_checkElement_14 : decode cX3_checkElement 14 = .ok (.ldc 181, 2) := by decide +kernel
theorem dX3_checkElement_16 : decode cX3_checkElement 16 = .ok (.invokespecial 48, 3) := by decide +kernel
theorem dX3_checkElement_19 : decode cX3_checkElement 19 = .ok (.athrow, 1) := by decide +kernel
theorem dX3_checkElement_20 : decode cX3_checkElement 20 = .ok (.return_, 1) := by decide +kernel
theorem dX3_checkDifferent_0 : decode cX3_checkDifferent 0 = .ok (.iload_n 0, 1) := by decide +kernel
theorem dX3_checkDifferent_1 : decode cX3_checkDifferent 1 = .ok (.iload_n 1, 1) := by decide +kernel
theorem dX3_checkDifferent_2 : decode cX3_checkDifferent 2 = .ok (.if_icmp .ne 13, 3) := by decide +kernel
theorem dX3_checkDifferent_5 : decode cX3_checkDifferent 5 = .ok (.new 44, 3) := by decide +kernel
theorem dX3_checkDifferent_8 : decode cX3_checkDifferent 8 = .ok (.dup, 1) := by decide +kernel
theorem dX3_checkDifferent_9 : decode cX3_checkDifferent 9 = .ok (.ldc 183, 2) := by decide +kernel
theorem dX3_checkDifferent_11 : decode cX3_checkDifferent 11 = .ok (.invokespecial 48, 3) := by decide +kernel
theorem dX3_checkDifferent_14 : decode cX3_checkDifferent 14 = .ok (.athrow, 1) := by decide +kernel
theorem dX3_checkDifferent_15 : decode cX3_checkDifferent 15 = .ok (.return_, 1) := by decide +kernel
set_option maxRecDepth 20000 in
theorem ggX3_execute_X1_putValue : GoodIn wsX3_execute wsX1_putValue := goodIn_r _ [7, 8, 9, 10, 11, 12, 13, 14, 6, 15, 16, 17, 18, 19, 20, 21, 22, 23, 24, 25, 26, 27, 28, 29, 30, 31, 32, 33, 34, 35, 36, 37, 38, 39, 40, 41, 42, 43, 44, 45, 46, 47, 48, 49, 50, 51, 52, 53, 112, 113, 114, 115, 116, 117] (by decide +kernel) (by decide +kernel)
set_option maxRecDepth 20000 in
theorem gX3_execute_X1_putValue : GoodIn wsX3_execute (wsV RX3 53 RX1 yX1_putValue wsX1_putValue) := goodIn_app (goodIn_of _ (by decide +kernel)) ggX3_execute_X1_putValue
set_option maxRecDepth 20000 in
theorem ggX3_execute_X1_addAmount : GoodIn wsX3_execute wsX1_addAmount := goodIn_r _ [57, 22, 23, 12, 13, 14, 6, 15, 16, 17, 27, 28, 29, 45, 46, 47, 48, 49, 50, 51, 52, 53, 112, 113, 114, 115, 116, 117] (by decide +kernel) (by decide +kernel)
set_option maxRecDepth 20000 in
theorem gX3_execute_X1_addAmount : GoodIn wsX3_execute (wsV RX3 59 RX1 yX1_addAmount wsX1_addAmount) := goodIn_app (goodIn_of _ (by decide +kernel)) ggX3_execute_X1_addAmount
set_option maxRecDepth 20000 in
theorem ggX3_execute_X1_includeElement : GoodIn wsX3_execute wsX1_includeElement := goodIn_r _ [61, 12, 13, 14, 6, 15, 16, 17, 62, 63, 64, 33, 34, 35, 36, 27, 28, 29, 37, 38, 39, 40, 22, 41, 42, 43, 44, 45, 46, 47, 48, 49, 23, 50, 51, 52, 53, 112, 113, 114, 115, 116, 117] (by decide +kernel) (by decide +kernel)
set_option maxRecDepth 20000 in
theorem gX3_execute_X1_includeElement : GoodIn wsX3_execute (wsV RX3 70 RX1 yX1_includeElement wsX1_includeElement) := goodIn_app (goodIn_of _ (by decide +kernel)) ggX3_execute_X1_includeElement
set_option maxRecDepth 20000 in
theorem ggX3_execute_X1_excludeElement : GoodIn wsX3_execute wsX1_excludeElement := goodIn_r _ [68, 12, 13, 14, 6, 15, 16, 17, 62, 63, 64, 33, 34, 35, 36, 27, 28, 29, 37, 38, 39, 40, 22, 41, 42, 43, 44, 112, 113, 114, 115, 116, 117] (by decide +kernel) (by decide +kernel)
set_option maxRecDepth 20000 in
theorem gX3_execute_X1_excludeElement : GoodIn wsX3_execute (wsV RX3 73 RX1 yX1_excludeElement wsX1_excludeElement) := goodIn_app (goodIn_of _ (by decide +kernel)) ggX3_execute_X1_excludeElement
set_option maxRecDepth 20000 in
theorem ggX3_execute_X1_deleteRow : GoodIn wsX3_execute wsX1_deleteRow := goodIn_r _ [72, 12, 13, 14, 6, 15, 16, 17, 27, 28, 29, 37, 38, 39, 40, 22, 41, 42, 43, 44, 112, 113, 114, 115, 116, 117] (by decide +kernel) (by decide +kernel)
set_option maxRecDepth 20000 in
theorem gX3_execute_X1_deleteRow : GoodIn wsX3_execute (wsV RX3 76 RX1 yX1_deleteRow wsX1_deleteRow) := goodIn_app (goodIn_of _ (by decide +kernel)) ggX3_execute_X1_deleteRow
set_option maxRecDepth 20000 in
theorem ggX3_execute_X1_mergeReplica : GoodIn wsX3_execute wsX1_mergeReplica := goodIn_r _ [76, 77, 78, 79, 80, 6, 81, 82, 83, 84, 85, 22, 50, 51, 52, 53, 17, 86, 87, 88, 89, 90, 91, 92, 93, 94, 95, 96, 97, 49, 23, 98, 99, 100, 101, 8, 9, 10, 11, 16, 112, 113, 114, 115, 116, 117] (by decide +kernel) (by decide +kernel)
set_option maxRecDepth 20000 in
theorem gX3_execute_X1_mergeReplica : GoodIn wsX3_execute (wsV RX3 84 RX1 yX1_mergeReplica wsX1_mergeReplica) := goodIn_app (goodIn_of _ (by decide +kernel)) ggX3_execute_X1_mergeReplica
theorem dX3_execute_0 : decode cX3_execute 0 = .ok (.aload_n 0, 1) := by decide +kernel
theorem dX3_execute_1 : decode cX3_execute 1 = .ok (.getfield 26, 3) := by decide +kernel
theorem dX3_execute_4 : decode cX3_execute 4 = .ok (.getfield 185, 3) := by decide +kernel
theorem dX3_execute_7 : decode cX3_execute 7 = .ok (.tableswitch 345 97 118 #[200, 345, 345, 295, 263, 345, 167, 345, 231, 345, 345, 101, 320, 345, 345, 345, 345, 345, 345, 345, 345, 134], 101) := by decide +kernel
theorem dX3_execute_108 : decode cX3_execute 108 = .ok (.aload_n 0, 1) := by decide +kernel
theorem dX3_execute_109 : decode cX3_execute 109 = .ok (.getfield 10, 3) := by decide +kernel
theorem dX3_execute_112 : decode cX3_execute 112 = .ok (.aload_n 0, 1) := by decide +kernel
theorem dX3_execute_113 : decode cX3_execute 113 = .ok (.getfield 26, 3) := by decide +kernel
theorem dX3_execute_116 : decode cX3_execute 116 = .ok (.getfield 188, 3) := by decide +kernel
theorem dX3_execute_119 : decode cX3_execute 119 = .ok (.aload_n 0, 1) := by decide +kernel
theorem dX3_execute_120 : decode cX3_execute 120 = .ok (.getfield 26, 3) := by decide +kernel
theorem dX3_execute_123 : decode cX3_execute 123 = .ok (.getfield 191, 3) := by decide +kernel
theorem dX3_execute_126 : decode cX3_execute 126 = .ok (.iconst 0, 1) := by decide +kernel
theorem dX3_execute_127 : decode cX3_execute 127 = .ok (.aload_n 0, 1) := by decide +kernel
theorem dX3_execute_128 : decode cX3_execute 128 = .ok (.getfield 26, 3) := by decide +kernel
theorem dX3_execute_131 : decode cX3_execute 131 = .ok (.getfield 194, 3) := by decide +kernel
theorem dX3_execute_134 : decode cX3_execute 134 = .ok (.invokevirtual 53, 3) := by decide +kernel
theorem dX3_execute_137 : decode cX3_execute 137 = .ok (.pop, 1) := by decide +kernel
theorem dX3_execute_138 : decode cX3_execute 138 = .ok (.goto 214, 3) := by decide +kernel
theorem dX3_execute_141 : decode cX3_execute 141 = .ok (.aload_n 0, 1) := by decide +kernel
theorem dX3_execute_142 : decode cX3_execute 142 = .ok (.getfield 10, 3) := by decide +kernel
theorem dX3_execute_145 : decode cX3_execute 145 = .ok (.aload_n 0, 1) := by decide +kernel
theorem dX3_execute_146 : decode cX3_execute 146 = .ok (.getfield 26, 3) := by decide +kernel
theorem dX3_execute_149 : decode cX3_execute 149 = .ok (.getfield 188, 3) := by decide +kernel
theorem dX3_execute_152 : decode cX3_execute 152 = .ok (.aload_n 0, 1) := by decide +kernel
theorem dX3_execute_153 : decode cX3_execute 153 = .ok (.getfield 26, 3) := by decide +kernel
theorem dX3_execute_156 : decode cX3_execute 156 = .ok (.getfield 191, 3) := by decide +kernel
theorem dX3_execute_159 : decode cX3_execute 159 = .ok (.iconst 1, 1) := by decide +kernel
theorem dX3_execute_160 : decode cX3_execute 160 = .ok (.aload_n 0, 1) := by decide +kernel
theorem dX3_execute_161 : decode cX3_execute 161 = .ok (.getfield 26, 3) := by decide +kernel
theorem dX3_execute_164 : decode cX3_execute 164 = .ok (.getfield 194, 3) := by decide +kernel
theorem dX3_execute_167 : decode cX3_execute 167 = .ok (.invokevirtual 53, 3) := by decide +kernel
theorem dX3_execute_170 : decode cX3_execute 170 = .ok (.pop, 1) := by decide +kernel
theorem dX3_execute_171 : decode cX3_execute 171 = .ok (.goto 181, 3) := by decide +kernel
theorem dX3_execute_174 : decode cX3_execute 174 = .ok (.aload_n 0, 1) := by decide +kernel
theorem dX3_execute_175 : decode cX3_execute 175 = .ok (.getfield 10, 3) := by decide +kernel
theorem dX3_execute_178 : decode cX3_execute 178 = .ok (.aload_n 0, 1) := by decide +kernel
theorem dX3_execute_179 : decode cX3_execute 179 = .ok (.getfield 26, 3) := by decide +kernel
theorem dX3_execute_182 : decode cX3_execute 182 = .ok (.getfield 188, 3) := by decide +kernel
theorem dX3_execute_185 : decode cX3_execute 185 = .ok (.aload_n 0, 1) := by decide +kernel
theorem dX3_execute_186 : decode cX3_execute 186 = .ok (.getfield 26, 3) := by decide +kernel
theorem dX3_execute_189 : decode cX3_execute 189 = .ok (.getfield 191, 3) := by decide +kernel
theorem dX3_execute_192 : decode cX3_execute 192 = .ok (.iconst 2, 1) := by decide +kernel
theorem dX3_execute_193 : decode cX3_execute 193 = .ok (.aload_n 0, 1) := by decide +kernel
theorem dX3_execute_194 : decode cX3_execute 194 = .ok (.getfield 26, 3) := by decide +kernel
theorem dX3_execute_197 : decode cX3_execute 197 = .ok (.getfield 194, 3) := by decide +kernel
theorem dX3_execute_200 : decode cX3_execute 200 = .ok (.invokevirtual 53, 3) := by decide +kernel
theorem dX3_execute_203 : decode cX3_execute 203 = .ok (.pop, 1) := by decide +kernel
theorem dX3_execute_204 : decode cX3_execute 204 = .ok (.goto 148, 3) := by decide +kernel
theorem dX3_execute_207 : decode cX3_execute 207 = .ok (.aload_n 0, 1) := by decide +kernel
theorem dX3_execute_208 : decode cX3_execute 208 = .ok (.getfield 10, 3) := by decide +kernel
theorem dX3_execute_211 : decode cX3_execute 211 = .ok (.aload_n 0, 1) := by decide +kernel
theorem dX3_execute_212 : decode cX3_execute 212 = .ok (.getfield 26, 3) := by decide +kernel
theorem dX3_execute_215 : decode cX3_execute 215 = .ok (.getfield 188, 3) := by decide +kernel
theorem dX3_execute_218 : decode cX3_execute 218 = .ok (.aload_n 0, 1) := by decide +kernel
theorem dX3_execute_219 : decode cX3_execute 219 = .ok (.getfield 26, 3) := by decide +kernel
theorem dX3_execute_222 : decode cX3_execute 222 = .ok (.getfield 191, 3) := by decide +kernel
theorem dX3_execute_225 : decode cX3_execute 225 = .ok (.aload_n 0, 1) := by decide +kernel
theorem dX3_execute_226 : decode cX3_execute 226 = .ok (.getfield 26, 3) := by decide +kernel
theorem dX3_execute_229 : decode cX3_execute 229 = .ok (.getfield 194, 3) := by decide +kernel
theorem dX3_execute_232 : decode cX3_execute 232 = .ok (.invokevirtual 59, 3) := by decide +kernel
theorem dX3_execute_235 : decode cX3_execute 235 = .ok (.goto 117, 3) := by decide +kernel
theorem dX3_execute_238 : decode cX3_execute 238 = .ok (.aload_n 0, 1) := by decide +kernel
theorem dX3_execute_239 : decode cX3_execute 239 = .ok (.getfield 10, 3) := by decide +kernel
theorem dX3_execute_242 : decode cX3_execute 242 = .ok (.aload_n 0, 1) := by decide +kernel
theorem dX3_execute_243 : decode cX3_execute 243 = .ok (.getfield 26, 3) := by decide +kernel
theorem dX3_execute_246 : decode cX3_execute 246 = .ok (.getfield 188, 3) := by decide +kernel
theorem dX3_execute_249 : decode cX3_execute 249 = .ok (.aload_n 0, 1) := by decide +kernel
theorem dX3_execute_250 : decode cX3_execute 250 = .ok (.getfield 26, 3) := by decide +kernel
theorem dX3_execute_253 : decode cX3_execute 253 = .ok (.getfield 191, 3) := by decide +kernel
theorem dX3_execute_256 : decode cX3_execute 256 = .ok (.aload_n 0, 1) := by decide +kernel
theorem dX3_execute_257 : decode cX3_execute 257 = .ok (.getfield 26, 3) := by decide +kernel
theorem dX3_execute_260 : decode cX3_execute 260 = .ok (.getfield 194, 3) := by decide +kernel
theorem dX3_execute_263 : decode cX3_execute 263 = .ok (.invokevirtual 70, 3) := by decide +kernel
theorem dX3_execute_266 : decode cX3_execute 266 = .ok (.pop, 1) := by decide +kernel
theorem dX3_execute_267 : decode cX3_execute 267 = .ok (.goto 85, 3) := by decide +kernel
theorem dX3_execute_270 : decode cX3_execute 270 = .ok (.aload_n 0, 1) := by decide +kernel
theorem dX3_execute_271 : decode cX3_execute 271 = .ok (.getfield 10, 3) := by decide +kernel
theorem dX3_execute_274 : decode cX3_execute 274 = .ok (.aload_n 0, 1) := by decide +kernel
theorem dX3_execute_275 : decode cX3_execute 275 = .ok (.getfield 26, 3) := by decide +kernel
theorem dX3_execute_278 : decode cX3_execute 278 = .ok (.getfield 188, 3) := by decide +kernel
theorem dX3_execute_281 : decode cX3_execute 281 = .ok (.aload_n 0, 1) := by decide +kernel
theorem dX3_execute_282 : decode cX3_execute 282 = .ok (.getfield 26, 3) := by decide +kernel
theorem dX3_execute_285 : decode cX3_execute 285 = .ok (.getfield 191, 3) := by decide +kernel
theorem dX3_execute_288 : decode cX3_execute 288 = .ok (.aload_n 0, 1) := by decide +kernel
theorem dX3_execute_289 : decode cX3_execute 289 = .ok (.getfield 26, 3) := by decide +kernel
theorem dX3_execute_292 : decode cX3_execute 292 = .ok (.getfield 194, 3) := by decide +kernel
theorem dX3_execute_295 : decode cX3_execute 295 = .ok (.invokevirtual 73, 3) := by decide +kernel
theorem dX3_execute_298 : decode cX3_execute 298 = .ok (.pop, 1) := by decide +kernel
theorem dX3_execute_299 : decode cX3_execute 299 = .ok (.goto 53, 3) := by decide +kernel
theorem dX3_execute_302 : decode cX3_execute 302 = .ok (.aload_n 0, 1) := by decide +kernel
theorem dX3_execute_303 : decode cX3_execute 303 = .ok (.getfield 10, 3) := by decide +kernel
theorem dX3_execute_306 : decode cX3_execute 306 = .ok (.aload_n 0, 1) := by decide +kernel
theorem dX3_execute_307 : decode cX3_execute 307 = .ok (.getfield 26, 3) := by decide +kernel
theorem dX3_execute_310 : decode cX3_execute 310 = .ok (.getfield 188, 3) := by decide +kernel
theorem dX3_execute_313 : decode cX3_execute 313 = .ok (.aload_n 0, 1) := by decide +kernel
theorem dX3_execute_314 : decode cX3_execute 314 = .ok (.getfield 26, 3) := by decide +kernel
theorem dX3_execute_317 : decode cX3_execute 317 = .ok (.getfield 191, 3) := by decide +kernel
theorem dX3_execute_320 : decode cX3_execute 320 = .ok (.invokevirtual 76, 3) := by decide +kernel
theorem dX3_execute_323 : decode cX3_execute 323 = .ok (.pop, 1) := by decide +kernel
theorem dX3_execute_324 : decode cX3_execute 324 = .ok (.goto 28, 3) := by decide +kernel
theorem dX3_execute_327 : decode cX3_execute 327 = .ok (.aload_n 0, 1) := by decide +kernel
theorem dX3_execute_328 : decode cX3_execute 328 = .ok (.getfield 10, 3) := by decide +kernel
theorem dX3_execute_331 : decode cX3_execute 331 = .ok (.aload_n 0, 1) := by decide +kernel
theorem dX3_execute_332 : decode cX3_execute 332 = .ok (.getfield 26, 3) := by decide +kernel
theorem dX3_execute_335 : decode cX3_execute 335 = .ok (.getfield 188, 3) := by decide +kernel
theorem dX3_execute_338 : decode cX3_execute 338 = .ok (.aload_n 0, 1) := by decide +kernel
theorem dX3_execute_339 : decode cX3_execute 339 = .ok (.getfield 26, 3) := by decide +kernel
theorem dX3_execute_342 : decode cX3_execute 342 = .ok (.getfield 191, 3) := by decide +kernel
theorem dX3_execute_345 : decode cX3_execute 345 = .ok (.invokevirtual 84, 3) := by decide +kernel
theorem dX3_execute_348 : decode cX3_execute 348 = .ok (.pop, 1) := by decide +kernel
theorem dX3_execute_349 : decode cX3_execute 349 = .ok (.goto 3, 3) := by decide +kernel
theorem dX3_execute_352 : decode cX3_execute 352 = .ok (.return_, 1) := by decide +kernel
