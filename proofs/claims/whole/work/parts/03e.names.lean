theorem dX4_init_0 : decode cX4_init 0 = .ok (.aload_n 0, 1) := by decide +kernel
theorem dX4_init_1 : decode cX4_init 1 = .ok (.invokespecial 1, 3) := by decide +kernel
theorem dX4_init_4 : decode cX4_init 4 = .ok (.aload_n 0, 1) := by decide +kernel
theorem dX4_init_5 : decode cX4_init 5 = .ok (.sipush 16968, 3) := by decide +kernel
theorem dX4_init_8 : decode cX4_init 8 = .ok (.newarray .int, 2) := by decide +kernel
theorem dX4_init_10 : decode cX4_init 10 = .ok (.putfield 7, 3) := by decide +kernel
theorem dX4_init_13 : decode cX4_init 13 = .ok (.aload_n 0, 1) := by decide +kernel
theorem dX4_init_14 : decode cX4_init 14 = .ok (.bipush 80, 2) := by decide +kernel
theorem dX4_init_16 : decode cX4_init 16 = .ok (.newarray .int, 2) := by decide +kernel
theorem dX4_init_18 : decode cX4_init 18 = .ok (.putfield 13, 3) := by decide +kernel
theorem dX4_init_21 : decode cX4_init 21 = .ok (.iconst 0, 1) := by decide +kernel
theorem dX4_init_22 : decode cX4_init 22 = .ok (.istore_n 1, 1) := by decide +kernel
theorem dX4_init_23 : decode cX4_init 23 = .ok (.iload_n 1, 1) := by decide +kernel
theorem dX4_init_24 : decode cX4_init 24 = .ok (.iconst 4, 1) := by decide +kernel
theorem dX4_init_25 : decode cX4_init 25 = .ok (.if_icmp .ge 19, 3) := by decide +kernel
theorem dX4_init_28 : decode cX4_init 28 = .ok (.aload_n 0, 1) := by decide +kernel
theorem dX4_init_29 : decode cX4_init 29 = .ok (.getfield 7, 3) := by decide +kernel
theorem dX4_init_32 : decode cX4_init 32 = .ok (.bipush 20, 2) := by decide +kernel
theorem dX4_init_34 : decode cX4_init 34 = .ok (.iload_n 1, 1) := by decide +kernel
theorem dX4_init_35 : decode cX4_init 35 = .ok (.iadd, 1) := by decide +kernel
theorem dX4_init_36 : decode cX4_init 36 = .ok (.iconst (-1), 1) := by decide +kernel
theorem dX4_init_37 : decode cX4_init 37 = .ok (.iastore, 1) := by decide +kernel
theorem dX4_init_38 : decode cX4_init 38 = .ok (.iinc 1 1, 3) := by decide +kernel
theorem dX4_init_41 : decode cX4_init 41 = .ok (.goto (-18), 3) := by decide +kernel
theorem dX4_init_44 : decode cX4_init 44 = .ok (.return_, 1) := by decide +kernel
theorem dX4_thrown_0 : decode cX4_thrown 0 = .ok (.aload_n 0, 1) := by decide +kernel
theorem dX4_thrown_1 : decode cX4_thrown 1 = .ok (.getfield 16, 3) := by decide +kernel
theorem dX4_thrown_4 : decode cX4_thrown 4 = .ok (.ireturn, 1) := by decide +kernel
theorem dX4_in_0 : decode cX4_in 0 = .ok (.iload_n 0, 1) := by decide +kernel
theorem dX4_in_1 : decode cX4_in 1 = .ok (.iload_n 1, 1) := by decide +kernel
theorem dX4_in_2 : decode cX4_in 2 = .ok (.if_icmp .lt 12, 3) := by decide +kernel
theorem dX4_in_5 : decode cX4_in 5 = .ok (.iload_n 0, 1) := by decide +kernel
theorem dX4_in_6 : decode cX4_in 6 = .ok (.iload_n 2, 1) := by decide +kernel
theorem dX4_in_7 : decode cX4_in 7 = .ok (.if_icmp .gt 7, 3) := by decide +kernel
theorem dX4_in_10 : decode cX4_in 10 = .ok (.iconst 1, 1) := by decide +kernel
theorem dX4_in_11 : decode cX4_in 11 = .ok (.goto 4, 3) := by decide +kernel
theorem dX4_in_14 : decode cX4_in 14 = .ok (.iconst 0, 1) := by decide +kernel
theorem dX4_in_15 : decode cX4_in 15 = .ok (.ireturn, 1) := by decide +kernel
theorem dX4_holds_0 : decode cX4_holds 0 = .ok (.aload_n 0, 1) := by decide +kernel
theorem dX4_holds_1 : decode cX4_holds 1 = .ok (.iload_n 1, 1) := by decide +kernel
theorem dX4_holds_2 : decode cX4_holds 2 = .ok (.putfield 16, 3) := by decide +kernel
theorem dX4_holds_5 : decode cX4_holds 5 = .ok (.iload_n 1, 1) := by decide +kernel
theorem dX4_holds_6 : decode cX4_holds 6 = .ok (.ifCond .ne 7, 3) := by decide +kernel
theorem dX4_holds_9 : decode cX4_holds 9 = .ok (.iconst 1, 1) := by decide +kernel
theorem dX4_holds_10 : decode cX4_holds 10 = .ok (.goto 4, 3) := by decide +kernel
theorem dX4_holds_13 : decode cX4_holds 13 = .ok (.iconst 0, 1) := by decide +kernel
theorem dX4_holds_14 : decode cX4_holds 14 = .ok (.ireturn, 1) := by decide +kernel
set_option maxRecDepth 20000 in
theorem ggX4_isReplica_X4_in : GoodIn wsX4_isReplica wsX4_in := goodIn_r _ [4] (by decide +kernel) (by decide +kernel)
set_option maxRecDepth 20000 in
theorem gX4_isReplica_X4_in : GoodIn wsX4_isReplica (va_wsS RX4 20 yX4_in wsX4_in) := goodIn_app (goodIn_of _ (by decide +kernel)) ggX4_isReplica_X4_in
theorem dX4_isReplica_0 : decode cX4_isReplica 0 = .ok (.iload_n 0, 1) := by decide +kernel
theorem dX4_isReplica_1 : decode cX4_isReplica 1 = .ok (.iconst 0, 1) := by decide +kernel
theorem dX4_isReplica_2 : decode cX4_isReplica 2 = .ok (.iconst 3, 1) := by decide +kernel
theorem dX4_isReplica_3 : decode cX4_isReplica 3 = .ok (.invokestatic 20, 3) := by decide +kernel
theorem dX4_isReplica_6 : decode cX4_isReplica 6 = .ok (.ireturn, 1) := by decide +kernel
set_option maxRecDepth 20000 in
theorem ggX4_isRow_X4_isReplica : GoodIn wsX4_isRow wsX4_isReplica := goodIn_r _ [4, 5, 6, 3, 7] (by decide +kernel) (by decide +kernel)
set_option maxRecDepth 20000 in
theorem gX4_isRow_X4_isReplica : GoodIn wsX4_isRow (va_wsS RX4 24 yX4_isReplica wsX4_isReplica) := goodIn_app (goodIn_of _ (by decide +kernel)) ggX4_isRow_X4_isReplica
set_option maxRecDepth 20000 in
theorem ggX4_isRow_X4_in : GoodIn wsX4_isRow wsX4_in := goodIn_r _ [7] (by decide +kernel) (by decide +kernel)
set_option maxRecDepth 20000 in
theorem gX4_isRow_X4_in : GoodIn wsX4_isRow (va_wsS RX4 20 yX4_in wsX4_in) := goodIn_app (goodIn_of _ (by decide +kernel)) ggX4_isRow_X4_in
theorem dX4_isRow_0 : decode cX4_isRow 0 = .ok (.iload_n 0, 1) := by decide +kernel
theorem dX4_isRow_1 : decode cX4_isRow 1 = .ok (.invokestatic 24, 3) := by decide +kernel
theorem dX4_isRow_4 : decode cX4_isRow 4 = .ok (.ifCond .eq 16, 3) := by decide +kernel
theorem dX4_isRow_7 : decode cX4_isRow 7 = .ok (.iload_n 1, 1) := by decide +kernel
theorem dX4_isRow_8 : decode cX4_isRow 8 = .ok (.iconst 0, 1) := by decide +kernel
theorem dX4_isRow_9 : decode cX4_isRow 9 = .ok (.iconst 5, 1) := by decide +kernel
theorem dX4_isRow_10 : decode cX4_isRow 10 = .ok (.invokestatic 20, 3) := by decide +kernel
theorem dX4_isRow_13 : decode cX4_isRow 13 = .ok (.ifCond .eq 7, 3) := by decide +kernel
theorem dX4_isRow_16 : decode cX4_isRow 16 = .ok (.iconst 1, 1) := by decide +kernel
theorem dX4_isRow_17 : decode cX4_isRow 17 = .ok (.goto 4, 3) := by decide +kernel
theorem dX4_isRow_20 : decode cX4_isRow 20 = .ok (.iconst 0, 1) := by decide +kernel
theorem dX4_isRow_21 : decode cX4_isRow 21 = .ok (.ireturn, 1) := by decide +kernel
theorem dX4_place_0 : decode cX4_place 0 = .ok (.iconst 4, 1) := by decide +kernel
theorem dX4_place_1 : decode cX4_place 1 = .ok (.iconst 4, 1) := by decide +kernel
theorem dX4_place_2 : decode cX4_place 2 = .ok (.bipush 6, 2) := by decide +kernel
theorem dX4_place_4 : decode cX4_place 4 = .ok (.iload_n 0, 1) := by decide +kernel
theorem dX4_place_5 : decode cX4_place 5 = .ok (.imul, 1) := by decide +kernel
theorem dX4_place_6 : decode cX4_place 6 = .ok (.iload_n 1, 1) := by decide +kernel
theorem dX4_place_7 : decode cX4_place 7 = .ok (.iadd, 1) := by decide +kernel
theorem dX4_place_8 : decode cX4_place 8 = .ok (.imul, 1) := by decide +kernel
theorem dX4_place_9 : decode cX4_place 9 = .ok (.iload_n 2, 1) := by decide +kernel
theorem dX4_place_10 : decode cX4_place 10 = .ok (.iadd, 1) := by decide +kernel
theorem dX4_place_11 : decode cX4_place 11 = .ok (.imul, 1) := by decide +kernel
theorem dX4_place_12 : decode cX4_place 12 = .ok (.iload_n 3, 1) := by decide +kernel
theorem dX4_place_13 : decode cX4_place 13 = .ok (.iadd, 1) := by decide +kernel
theorem dX4_place_14 : decode cX4_place 14 = .ok (.ireturn, 1) := by decide +kernel
theorem dX4_stampPlace_0 : decode cX4_stampPlace 0 = .ok (.sipush 792, 3) := by decide +kernel
theorem dX4_stampPlace_3 : decode cX4_stampPlace 3 = .ok (.iconst 4, 1) := by decide +kernel
theorem dX4_stampPlace_4 : decode cX4_stampPlace 4 = .ok (.bipush 6, 2) := by decide +kernel
theorem dX4_stampPlace_6 : decode cX4_stampPlace 6 = .ok (.iload_n 0, 1) := by decide +kernel
theorem dX4_stampPlace_7 : decode cX4_stampPlace 7 = .ok (.imul, 1) := by decide +kernel
theorem dX4_stampPlace_8 : decode cX4_stampPlace 8 = .ok (.iload_n 1, 1) := by decide +kernel
theorem dX4_stampPlace_9 : decode cX4_stampPlace 9 = .ok (.iadd, 1) := by decide +kernel
theorem dX4_stampPlace_10 : decode cX4_stampPlace 10 = .ok (.imul, 1) := by decide +kernel
theorem dX4_stampPlace_11 : decode cX4_stampPlace 11 = .ok (.iadd, 1) := by decide +kernel
theorem dX4_stampPlace_12 : decode cX4_stampPlace 12 = .ok (.iload_n 2, 1) := by decide +kernel
theorem dX4_stampPlace_13 : decode cX4_stampPlace 13 = .ok (.iadd, 1) := by decide +kernel
theorem dX4_stampPlace_14 : decode cX4_stampPlace 14 = .ok (.ireturn, 1) := by decide +kernel
theorem dX4_elementPlace_0 : decode cX4_elementPlace 0 = .ok (.sipush 888, 3) := by decide +kernel
theorem dX4_elementPlace_3 : decode cX4_elementPlace 3 = .ok (.iconst 4, 1) := by decide +kernel
theorem dX4_elementPlace_4 : decode cX4_elementPlace 4 = .ok (.bipush 16, 2) := by decide +kernel
theorem dX4_elementPlace_6 : decode cX4_elementPlace 6 = .ok (.bipush 6, 2) := by decide +kernel
theorem dX4_elementPlace_8 : decode cX4_elementPlace 8 = .ok (.iload_n 0, 1) := by decide +kernel
theorem dX4_elementPlace_9 : decode cX4_elementPlace 9 = .ok (.imul, 1) := by decide +kernel
theorem dX4_elementPlace_10 : decode cX4_elementPlace 10 = .ok (.iload_n 1, 1) := by decide +kernel
theorem dX4_elementPlace_11 : decode cX4_elementPlace 11 = .ok (.iadd, 1) := by decide +kernel
theorem dX4_elementPlace_12 : decode cX4_elementPlace 12 = .ok (.imul, 1) := by decide +kernel
theorem dX4_elementPlace_13 : decode cX4_elementPlace 13 = .ok (.iload_n 2, 1) := by decide +kernel
theorem dX4_elementPlace_14 : decode cX4_elementPlace 14 = .ok (.iadd, 1) := by decide +kernel
theorem dX4_elementPlace_15 : decode cX4_elementPlace 15 = .ok (.imul, 1) := by decide +kernel
theorem dX4_elementPlace_16 : decode cX4_elementPlace 16 = .ok (.iadd, 1) := by decide +kernel
theorem dX4_elementPlace_17 : decode cX4_elementPlace 17 = .ok (.iload_n 3, 1) := by decide +kernel
theorem dX4_elementPlace_18 : decode cX4_elementPlace 18 = .ok (.iadd, 1) := by decide +kernel
theorem dX4_elementPlace_19 : decode cX4_elementPlace 19 = .ok (.ireturn, 1) := by decide +kernel
set_option maxRecDepth 20000 in
theorem ggX4_mark_X4_place : GoodIn wsX4_mark wsX4_place := goodIn_r _ [5] (by decide +kernel) (by decide +kernel)
set_option maxRecDepth 20000 in
theorem gX4_mark_X4_place : GoodIn wsX4_mark (va_wsS RX4 28 yX4_place wsX4_place) := goodIn_app (goodIn_of _ (by decide +kernel)) ggX4_mark_X4_place
theorem dX4_mark_0 : decode cX4_mark 0 = .ok (.aload_n 0, 1) := by decide +kernel
theorem dX4_mark_1 : decode cX4_mark 1 = .ok (.getfield 7, 3) := by decide +kernel
theorem dX4_mark_4 : decode cX4_mark 4 = .ok (.bipush 24, 2) := by decide +kernel
theorem dX4_mark_6 : decode cX4_mark 6 = .ok (.iload_n 1, 1) := by decide +kernel
theorem dX4_mark_7 : decode cX4_mark 7 = .ok (.iload_n 2, 1) := by decide +kernel
theorem dX4_mark_8 : decode cX4_mark 8 = .ok (.iload_n 3, 1) := by decide +kernel
theorem dX4_mark_9 : decode cX4_mark 9 = .ok (.iload 4, 2) := by decide +kernel
theorem dX4_mark_11 : decode cX4_mark 11 = .ok (.invokestatic 28, 3) := by decide +kernel
theorem dX4_mark_14 : decode cX4_mark 14 = .ok (.iadd, 1) := by decide +kernel
theorem dX4_mark_15 : decode cX4_mark 15 = .ok (.iaload, 1) := by decide +kernel
theorem dX4_mark_16 : decode cX4_mark 16 = .ok (.ireturn, 1) := by decide +kernel
set_option maxRecDepth 20000 in
theorem ggX4_value_X4_place : GoodIn wsX4_value wsX4_place := goodIn_r _ [5] (by decide +kernel) (by decide +kernel)
set_option maxRecDepth 20000 in
theorem gX4_value_X4_place : GoodIn wsX4_value (va_wsS RX4 28 yX4_place wsX4_place) := goodIn_app (goodIn_of _ (by decide +kernel)) ggX4_value_X4_place
theorem dX4_value_0 : decode cX4_value 0 = .ok (.aload_n 0, 1) := by decide +kernel
theorem dX4_value_1 : decode cX4_value 1 = .ok (.getfield 7, 3) := by decide +kernel
theorem dX4_value_4 : decode cX4_value 4 = .ok (.sipush 408, 3) := by decide +kernel
theorem dX4_value_7 : decode cX4_value 7 = .ok (.iload_n 1, 1) := by decide +kernel
theorem dX4_value_8 : decode cX4_value 8 = .ok (.iload_n 2, 1) := by decide +kernel
theorem dX4_value_9 : decode cX4_value 9 = .ok (.iload_n 3, 1) := by decide +kernel
theorem dX4_value_10 : decode cX4_value 10 = .ok (.iload 4, 2) := by decide +kernel
theorem dX4_value_12 : decode cX4_value 12 = .ok (.invokestatic 28, 3) := by decide +kernel
theorem dX4_value_15 : decode cX4_value 15 = .ok (.iadd, 1) := by decide +kernel
theorem dX4_value_16 : decode cX4_value 16 = .ok (.iaload, 1) := by decide +kernel
theorem dX4_value_17 : decode cX4_value 17 = .ok (.ireturn, 1) := by decide +kernel
theorem dX4_seenBy_0 : decode cX4_seenBy 0 = .ok (.aload_n 0, 1) := by decide +kernel
theorem dX4_seenBy_1 : decode cX4_seenBy 1 = .ok (.getfield 7, 3) := by decide +kernel
theorem dX4_seenBy_4 : decode cX4_seenBy 4 = .ok (.iconst 0, 1) := by decide +kernel
theorem dX4_seenBy_5 : decode cX4_seenBy 5 = .ok (.iconst 4, 1) := by decide +kernel
theorem dX4_seenBy_6 : decode cX4_seenBy 6 = .ok (.iload_n 1, 1) := by decide +kernel
theorem dX4_seenBy_7 : decode cX4_seenBy 7 = .ok (.imul, 1) := by decide +kernel
theorem dX4_seenBy_8 : decode cX4_seenBy 8 = .ok (.iadd, 1) := by decide +kernel
theorem dX4_seenBy_9 : decode cX4_seenBy 9 = .ok (.iload_n 2, 1) := by decide +kernel
theorem dX4_seenBy_10 : decode cX4_seenBy 10 = .ok (.iadd, 1) := by decide +kernel
theorem dX4_seenBy_11 : decode cX4_seenBy 11 = .ok (.iaload, 1) := by decide +kernel
theorem dX4_seenBy_12 : decode cX4_seenBy 12 = .ok (.ireturn, 1) := by decide +kernel
theorem dX4_begins_0 : decode cX4_begins 0 = .ok (.aload_n 0, 1) := by decide +kernel
theorem dX4_begins_1 : decode cX4_begins 1 = .ok (.getfield 7, 3) := by decide +kernel
theorem dX4_begins_4 : decode cX4_begins 4 = .ok (.bipush 16, 2) := by decide +kernel
theorem dX4_begins_6 : decode cX4_begins 6 = .ok (.iload_n 1, 1) := by decide +kernel
theorem dX4_begins_7 : decode cX4_begins 7 = .ok (.iadd, 1) := by decide +kernel
theorem dX4_begins_8 : decode cX4_begins 8 = .ok (.dup2, 1) := by decide +kernel
theorem dX4_begins_9 : decode cX4_begins 9 = .ok (.iaload, 1) := by decide +kernel
theorem dX4_begins_10 : decode cX4_begins 10 = .ok (.iconst 1, 1) := by decide +kernel
theorem dX4_begins_11 : decode cX4_begins 11 = .ok (.iadd, 1) := by decide +kernel
theorem dX4_begins_12 : decode cX4_begins 12 = .ok (.iastore, 1) := by decide +kernel
theorem dX4_begins_13 : decode cX4_begins 13 = .ok (.aload_n 0, 1) := by decide +kernel
theorem dX4_begins_14 : decode cX4_begins 14 = .ok (.getfield 7, 3) := by decide +kernel
theorem dX4_begins_17 : decode cX4_begins 17 = .ok (.iconst 0, 1) := by decide +kernel
theorem dX4_begins_18 : decode cX4_begins 18 = .ok (.iconst 4, 1) := by decide +kernel
theorem dX4_begins_19 : decode cX4_begins 19 = .ok (.iload_n 1, 1) := by decide +kernel
theorem dX4_begins_20 : decode cX4_begins 20 = .ok (.imul, 1) := by decide +kernel
theorem dX4_begins_21 : decode cX4_begins 21 = .ok (.iadd, 1) := by decide +kernel
theorem dX4_begins_22 : decode cX4_begins 22 = .ok (.iload_n 1, 1) := by decide +kernel
theorem dX4_begins_23 : decode cX4_begins 23 = .ok (.iadd, 1) := by decide +kernel
theorem dX4_begins_24 : decode cX4_begins 24 = .ok (.dup2, 1) := by decide +kernel
theorem dX4_begins_25 : decode cX4_begins 25 = .ok (.iaload, 1) := by decide +kernel
theorem dX4_begins_26 : decode cX4_begins 26 = .ok (.iconst 1, 1) := by decide +kernel
theorem dX4_begins_27 : decode cX4_begins 27 = .ok (.iadd, 1) := by decide +kernel
theorem dX4_begins_28 : decode cX4_begins 28 = .ok (.iastore, 1) := by decide +kernel
theorem dX4_begins_29 : decode cX4_begins 29 = .ok (.return_, 1) := by decide +kernel
set_option maxRecDepth 20000 in
theorem ggX4_clears_X4_mark : GoodIn wsX4_clears wsX4_mark := goodIn_r _ [6, 1, 7, 8, 5, 9, 10, 11, 12, 13, 14, 15, 16, 17, 18, 19, 20, 21] (by decide +kernel) (by decide +kernel)
set_option maxRecDepth 20000 in
theorem gX4_clears_X4_mark : GoodIn wsX4_clears (wsV RX4 32 RX4 yX4_mark wsX4_mark) := goodIn_app (goodIn_of _ (by decide +kernel)) ggX4_clears_X4_mark
set_option maxRecDepth 20000 in
theorem ggX4_clears_X4_place : GoodIn wsX4_clears wsX4_place := goodIn_r _ [9] (by decide +kernel) (by decide +kernel)
set_option maxRecDepth 20000 in
theorem gX4_clears_X4_place : GoodIn wsX4_clears (va_wsS RX4 28 yX4_place wsX4_place) := goodIn_app (goodIn_of _ (by decide +kernel)) ggX4_clears_X4_place
theorem dX4_clears_0 : decode cX4_clears 0 = .ok (.iconst 0, 1) := by decide +kernel
theorem dX4_clears_1 : decode cX4_clears 1 = .ok (.istore 4, 2) := by decide +kernel
theorem dX4_clears_3 : decode cX4_clears 3 = .ok (.iconst 0, 1) := by decide +kernel
theorem dX4_clears_4 : decode cX4_clears 4 = .ok (.istore 5, 2) := by decide +kernel
theorem dX4_clears_6 : decode cX4_clears 6 = .ok (.iload 5, 2) := by decide +kernel
theorem dX4_clears_8 : decode cX4_clears 8 = .ok (.iconst 4, 1) := by decide +kernel
theorem dX4_clears_9 : decode cX4_clears 9 = .ok (.if_icmp .ge 48, 3) := by decide +kernel
theorem dX4_clears_12 : decode cX4_clears 12 = .ok (.iload 4, 2) := by decide +kernel
theorem dX4_clears_14 : decode cX4_clears 14 = .ok (.aload_n 0, 1) := by decide +kernel
theorem dX4_clears_15 : decode cX4_clears 15 = .ok (.iload_n 1, 1) := by decide +kernel
theorem dX4_clears_16 : decode cX4_clears 16 = .ok (.iload_n 2, 1) := by decide +kernel
theorem dX4_clears_17 : decode cX4_clears 17 = .ok (.iload_n 3, 1) := by decide +kernel
theorem dX4_clears_18 : decode cX4_clears 18 = .ok (.iload 5, 2) := by decide +kernel
theorem dX4_clears_20 : decode cX4_clears 20 = .ok (.invokevirtual 32, 3) := by decide +kernel
theorem dX4_clears_23 : decode cX4_clears 23 = .ok (.ifCond .le 7, 3) := by decide +kernel
theorem dX4_clears_26 : decode cX4_clears 26 = .ok (.iconst 1, 1) := by decide +kernel
theorem dX4_clears_27 : decode cX4_clears 27 = .ok (.goto 4, 3) := by decide +kernel
theorem dX4_clears_30 : decode cX4_clears 30 = .ok (.iconst 0, 1) := by decide +kernel
theorem dX4_clears_31 : decode cX4_clears 31 = .ok (.iadd, 1) := by decide +kernel
theorem dX4_clears_32 : decode cX4_clears 32 = .ok (.istore 4, 2) := by decide +kernel
theorem dX4_clears_34 : decode cX4_clears 34 = .ok (.aload_n 0, 1) := by decide +kernel
theorem dX4_clears_35 : decode cX4_clears 35 = .ok (.getfield 7, 3) := by decide +kernel
theorem dX4_clears_38 : decode cX4_clears 38 = .ok (.bipush 24, 2) := by decide +kernel
theorem dX4_clears_40 : decode cX4_clears 40 = .ok (.iload_n 1, 1) := by decide +kernel
theorem dX4_clears_41 : decode cX4_clears 41 = .ok (.iload_n 2, 1) := by decide +kernel
theorem dX4_clears_42 : decode cX4_clears 42 = .ok (.iload_n 3, 1) := by decide +kernel
theorem dX4_clears_43 : decode cX4_clears 43 = .ok (.iload 5, 2) := by decide +kernel
theorem dX4_clears_45 : decode cX4_clears 45 = .ok (.invokestatic 28, 3) := by decide +kernel
theorem dX4_clears_48 : decode cX4_clears 48 = .ok (.iadd, 1) := by decide +kernel
theorem dX4_clears_49 : decode cX4_clears 49 = .ok (.iconst 0, 1) := by decide +kernel
theorem dX4_clears_50 : decode cX4_clears 50 = .ok (.iastore, 1) := by decide +kernel
theorem dX4_clears_51 : decode cX4_clears 51 = .ok (.iinc 5 1, 3) := by decide +kernel
theorem dX4_clears_54 : decode cX4_clears 54 = .ok (.goto (-48), 3) := by decide +kernel
theorem dX4_clears_57 : decode cX4_clears 57 = .ok (.iload 4, 2) := by decide +kernel
theorem dX4_clears_59 : decode cX4_clears 59 = .ok (.ireturn, 1) := by decide +kernel
set_option maxRecDepth 20000 in
theorem ggX4_clearsElement_X4_elementPlace : GoodIn wsX4_clearsElement wsX4_elementPlace := goodIn_r _ [5] (by decide +kernel) (by decide +kernel)
set_option maxRecDepth 20000 in
theorem gX4_clearsElement_X4_elementPlace : GoodIn wsX4_clearsElement (va_wsS RX4 35 yX4_elementPlace wsX4_elementPlace) := goodIn_app (goodIn_of _ (by decide +kernel)) ggX4_clearsElement_X4_elementPlace
theorem dX4_clearsElement_0 : decode cX4_clearsElement 0 = .ok (.iconst 0, 1) := by decide +kernel
theorem dX4_clearsElement_1 : decode cX4_clearsElement 1 = .ok (.istore 4, 2) := by decide +kernel
theorem dX4_clearsElement_3 : decode cX4_clearsElement 3 = .ok (.iconst 0, 1) := by decide +kernel
theorem dX4_clearsElement_4 : decode cX4_clearsElement 4 = .ok (.istore 5, 2) := by decide +kernel
theorem dX4_clearsElement_6 : decode cX4_clearsElement 6 = .ok (.iload 5, 2) := by decide +kernel
theorem dX4_clearsElement_8 : decode cX4_clearsElement 8 = .ok (.iconst 4, 1) := by decide +kernel
theorem dX4_clearsElement_9 : decode cX4_clearsElement 9 = .ok (.if_icmp .ge 49, 3) := by decide +kernel
theorem dX4_clearsElement_12 : decode cX4_clearsElement 12 = .ok (.iload 4, 2) := by decide +kernel
theorem dX4_clearsElement_14 : decode cX4_clearsElement 14 = .ok (.aload_n 0, 1) := by decide +kernel
theorem dX4_clearsElement_15 : decode cX4_clearsElement 15 = .ok (.getfield 7, 3) := by decide +kernel
theorem dX4_clearsElement_18 : decode cX4_clearsElement 18 = .ok (.iload_n 1, 1) := by decide +kernel
theorem dX4_clearsElement_19 : decode cX4_clearsElement 19 = .ok (.iload_n 2, 1) := by decide +kernel
theorem dX4_clearsElement_20 : decode cX4_clearsElement 20 = .ok (.iload_n 3, 1) := by decide +kernel
theorem dX4_clearsElement_21 : decode cX4_clearsElement 21 = .ok (.iload 5, 2) := by decide +kernel
theorem dX4_clearsElement_23 : decode cX4_clearsElement 23 = .ok (.invokestatic 35, 3) := by decide +kernel
theorem dX4_clearsElement_26 : decode cX4_clearsElement 26 = .ok (.iaload, 1) := by decide +kernel
theorem dX4_clearsElement_27 : decode cX4_clearsElement 27 = .ok (.ifCond .le 7, 3) := by decide +kernel
theorem dX4_clearsElement_30 : decode cX4_clearsElement 30 = .ok (.iconst 1, 1) := by decide +kernel
theorem dX4_clearsElement_31 : decode cX4_clearsElement 31 = .ok (.goto 4, 3) := by decide +kernel
theorem dX4_clearsElement_34 : decode cX4_clearsElement 34 = .ok (.iconst 0, 1) := by decide +kernel
theorem dX4_clearsElement_35 : decode cX4_clearsElement 35 = .ok (.iadd, 1) := by decide +kernel
theorem dX4_clearsElement_36 : decode cX4_clearsElement 36 = .ok (.istore 4, 2) := by decide +kernel
theorem dX4_clearsElement_38 : decode cX4_clearsElement 38 = .ok (.aload_n 0, 1) := by decide +kernel
theorem dX4_clearsElement_39 : decode cX4_clearsElement 39 = .ok (.getfield 7, 3) := by decide +kernel
theorem dX4_clearsElement_42 : decode cX4_clearsElement 42 = .ok (.iload_n 1, 1) := by decide +kernel
theorem dX4_clearsElement_43 : decode cX4_clearsElement 43 = .ok (.iload_n 2, 1) := by decide +kernel
theorem dX4_clearsElement_44 : decode cX4_clearsElement 44 = .ok (.iload_n 3, 1) := by decide +kernel
theorem dX4_clearsElement_45 : decode cX4_clearsElement 45 = .ok (.iload 5, 2) := by decide +kernel
theorem dX4_clearsElement_47 : decode cX4_clearsElement 47 = .ok (.invokestatic 35, 3) := by decide +kernel
theorem dX4_clearsElement_50 : decode cX4_clearsElement 50 = .ok (.iconst 0, 1) := by decide +kernel
theorem dX4_clearsElement_51 : decode cX4_clearsElement 51 = .ok (.iastore, 1) := by decide +kernel
theorem dX4_clearsElement_52 : decode cX4_clearsElement 52 = .ok (.iinc 5 1, 3) := by decide +kernel
theorem dX4_clearsElement_55 : decode cX4_clearsElement 55 = .ok (.goto (-49), 3) := by decide +kernel
theorem dX4_clearsElement_58 : decode cX4_clearsElement 58 = .ok (.iload 4, 2) := by decide +kernel
theorem dX4_clearsElement_60 : decode cX4_clearsElement 60 = .ok (.ireturn, 1) := by decide +kernel
set_option maxRecDepth 20000 in
theorem ggX4_makes_X4_place : GoodIn wsX4_makes wsX4_place := goodIn_r _ [5] (by decide +kernel) (by decide +kernel)
set_option maxRecDepth 20000 in
theorem gX4_makes_X4_place : GoodIn wsX4_makes (va_wsS RX4 28 yX4_place wsX4_place) := goodIn_app (goodIn_of _ (by decide +kernel)) ggX4_makes_X4_place
set_option maxRecDepth 20000 in
theorem ggX4_makes_X4_seenBy : GoodIn wsX4_makes wsX4_seenBy := goodIn_r _ [9, 1, 13, 14, 15, 16, 17, 18, 19, 20, 21, 22, 23, 24] (by decide +kernel) (by decide +kernel)
set_option maxRecDepth 20000 in
theorem gX4_makes_X4_seenBy : GoodIn wsX4_makes (wsV RX4 38 RX4 yX4_seenBy wsX4_seenBy) := goodIn_app (goodIn_of _ (by decide +kernel)) ggX4_makes_X4_seenBy
set_option maxRecDepth 20000 in
theorem ggX4_makes_X4_stampPlace : GoodIn wsX4_makes wsX4_stampPlace := goodIn_r _ [12] (by decide +kernel) (by decide +kernel)
set_option maxRecDepth 20000 in
theorem gX4_makes_X4_stampPlace : GoodIn wsX4_makes (va_wsS RX4 42 yX4_stampPlace wsX4_stampPlace) := goodIn_app (goodIn_of _ (by decide +kernel)) ggX4_makes_X4_stampPlace
theorem dX4_makes_0 : decode cX4_makes 0 = .ok (.aload_n 0, 1) := by decide +kernel
theorem dX4_makes_1 : decode cX4_makes 1 = .ok (.getfield 7, 3) := by decide +kernel
theorem dX4_makes_4 : decode cX4_makes 4 = .ok (.bipush 24, 2) := by decide +kernel
theorem dX4_makes_6 : decode cX4_makes 6 = .ok (.iload_n 1, 1) := by decide +kernel
theorem dX4_makes_7 : decode cX4_makes 7 = .ok (.iload_n 2, 1) := by decide +kernel
theorem dX4_makes_8 : decode cX4_makes 8 = .ok (.iload_n 3, 1) := by decide +kernel
theorem dX4_makes_9 : decode cX4_makes 9 = .ok (.iload_n 1, 1) := by decide +kernel
theorem dX4_makes_10 : decode cX4_makes 10 = .ok (.invokestatic 28, 3) := by decide +kernel
theorem dX4_makes_13 : decode cX4_makes 13 = .ok (.iadd, 1) := by decide +kernel
theorem dX4_makes_14 : decode cX4_makes 14 = .ok (.aload_n 0, 1) := by decide +kernel
theorem dX4_makes_15 : decode cX4_makes 15 = .ok (.iload_n 1, 1) := by decide +kernel
theorem dX4_makes_16 : decode cX4_makes 16 = .ok (.iload_n 1, 1) := by decide +kernel
theorem dX4_makes_17 : decode cX4_makes 17 = .ok (.invokevirtual 38, 3) := by decide +kernel
theorem dX4_makes_20 : decode cX4_makes 20 = .ok (.iastore, 1) := by decide +kernel
theorem dX4_makes_21 : decode cX4_makes 21 = .ok (.aload_n 0, 1) := by decide +kernel
theorem dX4_makes_22 : decode cX4_makes 22 = .ok (.getfield 7, 3) := by decide +kernel
theorem dX4_makes_25 : decode cX4_makes 25 = .ok (.sipush 408, 3) := by decide +kernel
theorem dX4_makes_28 : decode cX4_makes 28 = .ok (.iload_n 1, 1) := by decide +kernel
theorem dX4_makes_29 : decode cX4_makes 29 = .ok (.iload_n 2, 1) := by decide +kernel
theorem dX4_makes_30 : decode cX4_makes 30 = .ok (.iload_n 3, 1) := by decide +kernel
theorem dX4_makes_31 : decode cX4_makes 31 = .ok (.iload_n 1, 1) := by decide +kernel
theorem dX4_makes_32 : decode cX4_makes 32 = .ok (.invokestatic 28, 3) := by decide +kernel
theorem dX4_makes_35 : decode cX4_makes 35 = .ok (.iadd, 1) := by decide +kernel
theorem dX4_makes_36 : decode cX4_makes 36 = .ok (.iload 4, 2) := by decide +kernel
theorem dX4_makes_38 : decode cX4_makes 38 = .ok (.iastore, 1) := by decide +kernel
theorem dX4_makes_39 : decode cX4_makes 39 = .ok (.iload_n 3, 1) := by decide +kernel
theorem dX4_makes_40 : decode cX4_makes 40 = .ok (.ifCond .ne 23, 3) := by decide +kernel
theorem dX4_makes_43 : decode cX4_makes 43 = .ok (.aload_n 0, 1) := by decide +kernel
theorem dX4_makes_44 : decode cX4_makes 44 = .ok (.getfield 7, 3) := by decide +kernel
theorem dX4_makes_47 : decode cX4_makes 47 = .ok (.iload_n 1, 1) := by decide +kernel
theorem dX4_makes_48 : decode cX4_makes 48 = .ok (.iload_n 2, 1) := by decide +kernel
theorem dX4_makes_49 : decode cX4_makes 49 = .ok (.iload_n 1, 1) := by decide +kernel
theorem dX4_makes_50 : decode cX4_makes 50 = .ok (.invokestatic 42, 3) := by decide +kernel
theorem dX4_makes_53 : decode cX4_makes 53 = .ok (.aload_n 0, 1) := by decide +kernel
theorem dX4_makes_54 : decode cX4_makes 54 = .ok (.getfield 7, 3) := by decide +kernel
theorem dX4_makes_57 : decode cX4_makes 57 = .ok (.bipush 16, 2) := by decide +kernel
theorem dX4_makes_59 : decode cX4_makes 59 = .ok (.iload_n 1, 1) := by decide +kernel
theorem dX4_makes_60 : decode cX4_makes 60 = .ok (.iadd, 1) := by decide +kernel
theorem dX4_makes_61 : decode cX4_makes 61 = .ok (.iaload, 1) := by decide +kernel
theorem dX4_makes_62 : decode cX4_makes 62 = .ok (.iastore, 1) := by decide +kernel
theorem dX4_makes_63 : decode cX4_makes 63 = .ok (.return_, 1) := by decide +kernel
set_option maxRecDepth 20000 in
theorem ggX4_greatestOf_X4_mark : GoodIn wsX4_greatestOf wsX4_mark := goodIn_r _ [5, 6, 7, 8, 4, 9, 14, 15, 16, 17, 18, 19, 20, 21, 22, 23, 24, 25] (by decide +kernel) (by decide +kernel)
set_option maxRecDepth 20000 in
theorem gX4_greatestOf_X4_mark : GoodIn wsX4_greatestOf (wsV RX4 32 RX4 yX4_mark wsX4_mark) := goodIn_app (goodIn_of _ (by decide +kernel)) ggX4_greatestOf_X4_mark
set_option maxRecDepth 20000 in
theorem ggX4_greatestOf_X4_value : GoodIn wsX4_greatestOf wsX4_value := goodIn_r _ [13, 6, 7, 8, 4, 9, 14, 15, 16, 17, 18, 19, 20, 21, 22, 23, 24, 25] (by decide +kernel) (by decide +kernel)
set_option maxRecDepth 20000 in
theorem gX4_greatestOf_X4_value : GoodIn wsX4_greatestOf (wsV RX4 46 RX4 yX4_value wsX4_value) := goodIn_app (goodIn_of _ (by decide +kernel)) ggX4_greatestOf_X4_value
theorem dX4_greatestOf_0 : decode cX4_greatestOf 0 = .ok (.iconst (-1), 1) := by decide +kernel
theorem dX4_greatestOf_1 : decode cX4_greatestOf 1 = .ok (.istore_n 3, 1) := by decide +kernel
theorem dX4_greatestOf_2 : decode cX4_greatestOf 2 = .ok (.iconst 0, 1) := by decide +kernel
theorem dX4_greatestOf_3 : decode cX4_greatestOf 3 = .ok (.istore 4, 2) := by decide +kernel
theorem dX4_greatestOf_5 : decode cX4_greatestOf 5 = .ok (.iload 4, 2) := by decide +kernel
theorem dX4_greatestOf_7 : decode cX4_greatestOf 7 = .ok (.iconst 4, 1) := by decide +kernel
theorem dX4_greatestOf_8 : decode cX4_greatestOf 8 = .ok (.if_icmp .ge 60, 3) := by decide +kernel
theorem dX4_greatestOf_11 : decode cX4_greatestOf 11 = .ok (.aload_n 0, 1) := by decide +kernel
theorem dX4_greatestOf_12 : decode cX4_greatestOf 12 = .ok (.iload_n 1, 1) := by decide +kernel
theorem dX4_greatestOf_13 : decode cX4_greatestOf 13 = .ok (.iload_n 2, 1) := by decide +kernel
theorem dX4_greatestOf_14 : decode cX4_greatestOf 14 = .ok (.iconst 2, 1) := by decide +kernel
theorem dX4_greatestOf_15 : decode cX4_greatestOf 15 = .ok (.iload 4, 2) := by decide +kernel
theorem dX4_greatestOf_17 : decode cX4_greatestOf 17 = .ok (.invokevirtual 32, 3) := by decide +kernel
theorem dX4_greatestOf_20 : decode cX4_greatestOf 20 = .ok (.ifCond .le 20, 3) := by decide +kernel
theorem dX4_greatestOf_23 : decode cX4_greatestOf 23 = .ok (.aload_n 0, 1) := by decide +kernel
theorem dX4_greatestOf_24 : decode cX4_greatestOf 24 = .ok (.iload_n 1, 1) := by decide +kernel
theorem dX4_greatestOf_25 : decode cX4_greatestOf 25 = .ok (.iload_n 2, 1) := by decide +kernel
theorem dX4_greatestOf_26 : decode cX4_greatestOf 26 = .ok (.iconst 2, 1) := by decide +kernel
theorem dX4_greatestOf_27 : decode cX4_greatestOf 27 = .ok (.iload 4, 2) := by decide +kernel
theorem dX4_greatestOf_29 : decode cX4_greatestOf 29 = .ok (.invokevirtual 46, 3) := by decide +kernel
theorem dX4_greatestOf_32 : decode cX4_greatestOf 32 = .ok (.iload_n 3, 1) := by decide +kernel
theorem dX4_greatestOf_33 : decode cX4_greatestOf 33 = .ok (.if_icmp .le 7, 3) := by decide +kernel
theorem dX4_greatestOf_36 : decode cX4_greatestOf 36 = .ok (.iconst 1, 1) := by decide +kernel
theorem dX4_greatestOf_37 : decode cX4_greatestOf 37 = .ok (.goto 4, 3) := by decide +kernel
theorem dX4_greatestOf_40 : decode cX4_greatestOf 40 = .ok (.iconst 0, 1) := by decide +kernel
theorem dX4_greatestOf_41 : decode cX4_greatestOf 41 = .ok (.istore 5, 2) := by decide +kernel
theorem dX4_greatestOf_43 : decode cX4_greatestOf 43 = .ok (.iload 5, 2) := by decide +kernel
theorem dX4_greatestOf_45 : decode cX4_greatestOf 45 = .ok (.ifCond .eq 15, 3) := by decide +kernel
theorem dX4_greatestOf_48 : decode cX4_greatestOf 48 = .ok (.aload_n 0, 1) := by decide +kernel
theorem dX4_greatestOf_49 : decode cX4_greatestOf 49 = .ok (.iload_n 1, 1) := by decide +kernel
theorem dX4_greatestOf_50 : decode cX4_greatestOf 50 = .ok (.iload_n 2, 1) := by decide +kernel
theorem dX4_greatestOf_51 : decode cX4_greatestOf 51 = .ok (.iconst 2, 1) := by decide +kernel
theorem dX4_greatestOf_52 : decode cX4_greatestOf 52 = .ok (.iload 4, 2) := by decide +kernel
theorem dX4_greatestOf_54 : decode cX4_greatestOf 54 = .ok (.invokevirtual 46, 3) := by decide +kernel
theorem dX4_greatestOf_57 : decode cX4_greatestOf 57 = .ok (.goto 4, 3) := by decide +kernel
theorem dX4_greatestOf_60 : decode cX4_greatestOf 60 = .ok (.iload_n 3, 1) := by decide +kernel
theorem dX4_greatestOf_61 : decode cX4_greatestOf 61 = .ok (.istore_n 3, 1) := by decide +kernel
theorem dX4_greatestOf_62 : decode cX4_greatestOf 62 = .ok (.iinc 4 1, 3) := by decide +kernel
theorem dX4_greatestOf_65 : decode cX4_greatestOf 65 = .ok (.goto (-60), 3) := by decide +kernel
theorem dX4_greatestOf_68 : decode cX4_greatestOf 68 = .ok (.iload_n 3, 1) := by decide +kernel
theorem dX4_greatestOf_69 : decode cX4_greatestOf 69 = .ok (.ireturn, 1) := by decide +kernel
set_option maxRecDepth 20000 in
theorem ggX4_puts_X4_begins : GoodIn wsX4_puts wsX4_begins := goodIn_r _ [5, 6, 37, 38, 39, 40, 41, 42, 43, 44, 45, 46, 47, 48] (by decide +kernel) (by decide +kernel)
set_option maxRecDepth 20000 in
theorem gX4_puts_X4_begins : GoodIn wsX4_puts (wsV RX4 49 RX4 yX4_begins wsX4_begins) := goodIn_app (goodIn_of _ (by decide +kernel)) ggX4_puts_X4_begins
set_option maxRecDepth 20000 in
theorem ggX4_puts_X4_greatestOf : GoodIn wsX4_puts wsX4_greatestOf := goodIn_r _ [10, 11, 12, 13, 4, 14, 6, 15, 16, 17, 18, 19, 20, 21, 37, 38, 39, 40, 41, 42, 43, 44, 45, 46, 47, 48] (by decide +kernel) (by decide +kernel)
set_option maxRecDepth 20000 in
theorem gX4_puts_X4_greatestOf : GoodIn wsX4_puts (wsV RX4 53 RX4 yX4_greatestOf wsX4_greatestOf) := goodIn_app (goodIn_of _ (by decide +kernel)) ggX4_puts_X4_greatestOf
set_option maxRecDepth 20000 in
theorem ggX4_puts_X4_clears : GoodIn wsX4_puts wsX4_clears := goodIn_r _ [25, 6, 11, 12, 13, 4, 14, 15, 16, 17, 37, 38, 39, 40, 41, 42, 43, 44, 45, 46, 47, 48] (by decide +kernel) (by decide +kernel)
set_option maxRecDepth 20000 in
theorem gX4_puts_X4_clears : GoodIn wsX4_puts (wsV RX4 56 RX4 yX4_clears wsX4_clears) := goodIn_app (goodIn_of _ (by decide +kernel)) ggX4_puts_X4_clears
set_option maxRecDepth 20000 in
theorem ggX4_puts_X4_makes : GoodIn wsX4_puts wsX4_makes := goodIn_r _ [29, 6, 15, 16, 4, 17, 30, 31, 32, 33, 34, 35, 36, 37, 38, 39, 40, 41, 42, 43, 44, 45, 46, 47, 48] (by decide +kernel) (by decide +kernel)
set_option maxRecDepth 20000 in
theorem gX4_puts_X4_makes : GoodIn wsX4_puts (wsV RX4 59 RX4 yX4_makes wsX4_makes) := goodIn_app (goodIn_of _ (by decide +kernel)) ggX4_puts_X4_makes
theorem dX4_puts_0 : decode cX4_puts 0 = .ok (.aload_n 0, 1) := by decide +kernel
theorem dX4_puts_1 : decode cX4_puts 1 = .ok (.iload_n 1, 1) := by decide +kernel
theorem dX4_puts_2 : decode cX4_puts 2 = .ok (.invokevirtual 49, 3) := by decide +kernel
theorem dX4_puts_5 : decode cX4_puts 5 = .ok (.aload_n 0, 1) := by decide +kernel
theorem dX4_puts_6 : decode cX4_puts 6 = .ok (.iload_n 1, 1) := by decide +kernel
theorem dX4_puts_7 : decode cX4_puts 7 = .ok (.iload_n 2, 1) := by decide +kernel
theorem dX4_puts_8 : decode cX4_puts 8 = .ok (.invokevirtual 53, 3) := by decide +kernel
theorem dX4_puts_11 : decode cX4_puts 11 = .ok (.istore 5, 2) := by decide +kernel
theorem dX4_puts_13 : decode cX4_puts 13 = .ok (.aload_n 0, 1) := by decide +kernel
theorem dX4_puts_14 : decode cX4_puts 14 = .ok (.iload_n 1, 1) := by decide +kernel
theorem dX4_puts_15 : decode cX4_puts 15 = .ok (.iload_n 2, 1) := by decide +kernel
theorem dX4_puts_16 : decode cX4_puts 16 = .ok (.iload_n 3, 1) := by decide +kernel
theorem dX4_puts_17 : decode cX4_puts 17 = .ok (.invokevirtual 56, 3) := by decide +kernel
theorem dX4_puts_20 : decode cX4_puts 20 = .ok (.istore 6, 2) := by decide +kernel
theorem dX4_puts_22 : decode cX4_puts 22 = .ok (.aload_n 0, 1) := by decide +kernel
theorem dX4_puts_23 : decode cX4_puts 23 = .ok (.iload_n 1, 1) := by decide +kernel
theorem dX4_puts_24 : decode cX4_puts 24 = .ok (.iload_n 2, 1) := by decide +kernel
theorem dX4_puts_25 : decode cX4_puts 25 = .ok (.iload_n 3, 1) := by decide +kernel
theorem dX4_puts_26 : decode cX4_puts 26 = .ok (.iload_n 3, 1) := by decide +kernel
theorem dX4_puts_27 : decode cX4_puts 27 = .ok (.iconst 2, 1) := by decide +kernel
theorem dX4_puts_28 : decode cX4_puts 28 = .ok (.if_icmp .ne 15, 3) := by decide +kernel
theorem dX4_puts_31 : decode cX4_puts 31 = .ok (.iload 5, 2) := by decide +kernel
theorem dX4_puts_33 : decode cX4_puts 33 = .ok (.iload 4, 2) := by decide +kernel
theorem dX4_puts_35 : decode cX4_puts 35 = .ok (.if_icmp .le 8, 3) := by decide +kernel
theorem dX4_puts_38 : decode cX4_puts 38 = .ok (.iload 5, 2) := by decide +kernel
theorem dX4_puts_40 : decode cX4_puts 40 = .ok (.goto 5, 3) := by decide +kernel
theorem dX4_puts_43 : decode cX4_puts 43 = .ok (.iload 4, 2) := by decide +kernel
theorem dX4_puts_45 : decode cX4_puts 45 = .ok (.invokevirtual 59, 3) := by decide +kernel
theorem dX4_puts_48 : decode cX4_puts 48 = .ok (.iload 6, 2) := by decide +kernel
theorem dX4_puts_50 : decode cX4_puts 50 = .ok (.ireturn, 1) := by decide +kernel
set_option maxRecDepth 20000 in
theorem ggX4_sumOf_X4_mark : GoodIn wsX4_sumOf wsX4_mark := goodIn_r _ [5, 6, 7, 8, 4, 9, 14, 15, 16, 17, 18, 19, 20, 21, 22, 23, 24, 25] (by decide +kernel) (by decide +kernel)
set_option maxRecDepth 20000 in
theorem gX4_sumOf_X4_mark : GoodIn wsX4_sumOf (wsV RX4 32 RX4 yX4_mark wsX4_mark) := goodIn_app (goodIn_of _ (by decide +kernel)) ggX4_sumOf_X4_mark
set_option maxRecDepth 20000 in
theorem ggX4_sumOf_X4_value : GoodIn wsX4_sumOf wsX4_value := goodIn_r _ [13, 6, 7, 8, 4, 9, 14, 15, 16, 17, 18, 19, 20, 21, 22, 23, 24, 25] (by decide +kernel) (by decide +kernel)
set_option maxRecDepth 20000 in
theorem gX4_sumOf_X4_value : GoodIn wsX4_sumOf (wsV RX4 46 RX4 yX4_value wsX4_value) := goodIn_app (goodIn_of _ (by decide +kernel)) ggX4_sumOf_X4_value
theorem dX4_sumOf_0 : decode cX4_sumOf 0 = .ok (.iconst 0, 1) := by decide +kernel
theorem dX4_sumOf_1 : decode cX4_sumOf 1 = .ok (.istore 4, 2) := by decide +kernel
theorem dX4_sumOf_3 : decode cX4_sumOf 3 = .ok (.iconst 0, 1) := by decide +kernel
theorem dX4_sumOf_4 : decode cX4_sumOf 4 = .ok (.istore 5, 2) := by decide +kernel
theorem dX4_sumOf_6 : decode cX4_sumOf 6 = .ok (.iload 5, 2) := by decide +kernel
theorem dX4_sumOf_8 : decode cX4_sumOf 8 = .ok (.iconst 4, 1) := by decide +kernel
theorem dX4_sumOf_9 : decode cX4_sumOf 9 = .ok (.if_icmp .ge 39, 3) := by decide +kernel
theorem dX4_sumOf_12 : decode cX4_sumOf 12 = .ok (.iload 4, 2) := by decide +kernel
theorem dX4_sumOf_14 : decode cX4_sumOf 14 = .ok (.aload_n 0, 1) := by decide +kernel
theorem dX4_sumOf_15 : decode cX4_sumOf 15 = .ok (.iload_n 1, 1) := by decide +kernel
theorem dX4_sumOf_16 : decode cX4_sumOf 16 = .ok (.iload_n 2, 1) := by decide +kernel
theorem dX4_sumOf_17 : decode cX4_sumOf 17 = .ok (.iload_n 3, 1) := by decide +kernel
theorem dX4_sumOf_18 : decode cX4_sumOf 18 = .ok (.iload 5, 2) := by decide +kernel
theorem dX4_sumOf_20 : decode cX4_sumOf 20 = .ok (.invokevirtual 32, 3) := by decide +kernel
theorem dX4_sumOf_23 : decode cX4_sumOf 23 = .ok (.ifCond .le 15, 3) := by decide +kernel
theorem dX4_sumOf_26 : decode cX4_sumOf 26 = .ok (.aload_n 0, 1) := by decide +kernel
theorem dX4_sumOf_27 : decode cX4_sumOf 27 = .ok (.iload_n 1, 1) := by decide +kernel
theorem dX4_sumOf_28 : decode cX4_sumOf 28 = .ok (.iload_n 2, 1) := by decide +kernel
theorem dX4_sumOf_29 : decode cX4_sumOf 29 = .ok (.iload_n 3, 1) := by decide +kernel
theorem dX4_sumOf_30 : decode cX4_sumOf 30 = .ok (.iload 5, 2) := by decide +kernel
theorem dX4_sumOf_32 : decode cX4_sumOf 32 = .ok (.invokevirtual 46, 3) := by decide +kernel
theorem dX4_sumOf_35 : decode cX4_sumOf 35 = .ok (.goto 4, 3) := by decide +kernel
theorem dX4_sumOf_38 : decode cX4_sumOf 38 = .ok (.iconst 0, 1) := by decide +kernel
theorem dX4_sumOf_39 : decode cX4_sumOf 39 = .ok (.iadd, 1) := by decide +kernel
theorem dX4_sumOf_40 : decode cX4_sumOf 40 = .ok (.istore 4, 2) := by decide +kernel
theorem dX4_sumOf_42 : decode cX4_sumOf 42 = .ok (.iinc 5 1, 3) := by decide +kernel
theorem dX4_sumOf_45 : decode cX4_sumOf 45 = .ok (.goto (-39), 3) := by decide +kernel
theorem dX4_sumOf_48 : decode cX4_sumOf 48 = .ok (.iload 4, 2) := by decide +kernel
theorem dX4_sumOf_50 : decode cX4_sumOf 50 = .ok (.ireturn, 1) := by decide +kernel
set_option maxRecDepth 20000 in
theorem ggX4_adds_X4_begins : GoodIn wsX4_adds wsX4_begins := goodIn_r _ [5, 6, 33, 34, 35, 36, 37, 38, 39, 40, 41, 42, 43, 44] (by decide +kernel) (by decide +kernel)
set_option maxRecDepth 20000 in
theorem gX4_adds_X4_begins : GoodIn wsX4_adds (wsV RX4 49 RX4 yX4_begins wsX4_begins) := goodIn_app (goodIn_of _ (by decide +kernel)) ggX4_adds_X4_begins
set_option maxRecDepth 20000 in
theorem ggX4_adds_X4_mark : GoodIn wsX4_adds wsX4_mark := goodIn_r _ [10, 6, 11, 12, 4, 13, 33, 34, 35, 36, 37, 38, 39, 40, 41, 42, 43, 44] (by decide +kernel) (by decide +kernel)
set_option maxRecDepth 20000 in
theorem gX4_adds_X4_mark : GoodIn wsX4_adds (wsV RX4 32 RX4 yX4_mark wsX4_mark) := goodIn_app (goodIn_of _ (by decide +kernel)) ggX4_adds_X4_mark
set_option maxRecDepth 20000 in
theorem ggX4_adds_X4_value : GoodIn wsX4_adds wsX4_value := goodIn_r _ [17, 6, 11, 12, 4, 13, 33, 34, 35, 36, 37, 38, 39, 40, 41, 42, 43, 44] (by decide +kernel) (by decide +kernel)
set_option maxRecDepth 20000 in
theorem gX4_adds_X4_value : GoodIn wsX4_adds (wsV RX4 46 RX4 yX4_value wsX4_value) := goodIn_app (goodIn_of _ (by decide +kernel)) ggX4_adds_X4_value
set_option maxRecDepth 20000 in
theorem ggX4_adds_X4_makes : GoodIn wsX4_adds wsX4_makes := goodIn_r _ [21, 6, 11, 12, 4, 13, 22, 23, 24, 25, 26, 27, 28, 33, 34, 35, 36, 37, 38, 39, 40, 41, 42, 43, 44] (by decide +kernel) (by decide +kernel)
set_option maxRecDepth 20000 in
theorem gX4_adds_X4_makes : GoodIn wsX4_adds (wsV RX4 59 RX4 yX4_makes wsX4_makes) := goodIn_app (goodIn_of _ (by decide +kernel)) ggX4_adds_X4_makes
set_option maxRecDepth 20000 in
theorem ggX4_adds_X4_sumOf : GoodIn wsX4_adds wsX4_sumOf := goodIn_r _ [32, 7, 8, 9, 4, 10, 6, 11, 12, 13, 14, 15, 16, 17, 33, 34, 35, 36, 37, 38, 39, 40, 41, 42, 43, 44] (by decide +kernel) (by decide +kernel)
set_option maxRecDepth 20000 in
theorem gX4_adds_X4_sumOf : GoodIn wsX4_adds (wsV RX4 63 RX4 yX4_sumOf wsX4_sumOf) := goodIn_app (goodIn_of _ (by decide +kernel)) ggX4_adds_X4_sumOf
theorem dX4_adds_0 : decode cX4_adds 0 = .ok (.aload_n 0, 1) := by decide +kernel
theorem dX4_adds_1 : decode cX4_adds 1 = .ok (.iload_n 1, 1) := by decide +kernel
theorem dX4_adds_2 : decode cX4_adds 2 = .ok (.invokevirtual 49, 3) := by decide +kernel
theorem dX4_adds_5 : decode cX4_adds 5 = .ok (.aload_n 0, 1) := by decide +kernel
theorem dX4_adds_6 : decode cX4_adds 6 = .ok (.iload_n 1, 1) := by decide +kernel
theorem dX4_adds_7 : decode cX4_adds 7 = .ok (.iload_n 2, 1) := by decide +kernel
theorem dX4_adds_8 : decode cX4_adds 8 = .ok (.iconst 3, 1) := by decide +kernel
theorem dX4_adds_9 : decode cX4_adds 9 = .ok (.iload_n 1, 1) := by decide +kernel
theorem dX4_adds_10 : decode cX4_adds 10 = .ok (.invokevirtual 32, 3) := by decide +kernel
theorem dX4_adds_13 : decode cX4_adds 13 = .ok (.ifCond .le 14, 3) := by decide +kernel
theorem dX4_adds_16 : decode cX4_adds 16 = .ok (.aload_n 0, 1) := by decide +kernel
theorem dX4_adds_17 : decode cX4_adds 17 = .ok (.iload_n 1, 1) := by decide +kernel
theorem dX4_adds_18 : decode cX4_adds 18 = .ok (.iload_n 2, 1) := by decide +kernel
theorem dX4_adds_19 : decode cX4_adds 19 = .ok (.iconst 3, 1) := by decide +kernel
theorem dX4_adds_20 : decode cX4_adds 20 = .ok (.iload_n 1, 1) := by decide +kernel
theorem dX4_adds_21 : decode cX4_adds 21 = .ok (.invokevirtual 46, 3) := by decide +kernel
theorem dX4_adds_24 : decode cX4_adds 24 = .ok (.goto 4, 3) := by decide +kernel
theorem dX4_adds_27 : decode cX4_adds 27 = .ok (.iconst 0, 1) := by decide +kernel
theorem dX4_adds_28 : decode cX4_adds 28 = .ok (.istore 4, 2) := by decide +kernel
theorem dX4_adds_30 : decode cX4_adds 30 = .ok (.aload_n 0, 1) := by decide +kernel
theorem dX4_adds_31 : decode cX4_adds 31 = .ok (.iload_n 1, 1) := by decide +kernel
theorem dX4_adds_32 : decode cX4_adds 32 = .ok (.iload_n 2, 1) := by decide +kernel
theorem dX4_adds_33 : decode cX4_adds 33 = .ok (.iconst 3, 1) := by decide +kernel
theorem dX4_adds_34 : decode cX4_adds 34 = .ok (.iload 4, 2) := by decide +kernel
theorem dX4_adds_36 : decode cX4_adds 36 = .ok (.iload_n 3, 1) := by decide +kernel
theorem dX4_adds_37 : decode cX4_adds 37 = .ok (.iadd, 1) := by decide +kernel
theorem dX4_adds_38 : decode cX4_adds 38 = .ok (.invokevirtual 59, 3) := by decide +kernel
theorem dX4_adds_41 : decode cX4_adds 41 = .ok (.aload_n 0, 1) := by decide +kernel
theorem dX4_adds_42 : decode cX4_adds 42 = .ok (.iload_n 1, 1) := by decide +kernel
theorem dX4_adds_43 : decode cX4_adds 43 = .ok (.iload_n 2, 1) := by decide +kernel
theorem dX4_adds_44 : decode cX4_adds 44 = .ok (.iconst 3, 1) := by decide +kernel
theorem dX4_adds_45 : decode cX4_adds 45 = .ok (.invokevirtual 63, 3) := by decide +kernel
theorem dX4_adds_48 : decode cX4_adds 48 = .ok (.ireturn, 1) := by decide +kernel
set_option maxRecDepth 20000 in
theorem ggX4_includes_X4_begins : GoodIn wsX4_includes wsX4_begins := goodIn_r _ [6, 1, 18, 19, 20, 21, 22, 23, 24, 25, 26, 27, 28, 29] (by decide +kernel) (by decide +kernel)
set_option maxRecDepth 20000 in
theorem gX4_includes_X4_begins : GoodIn wsX4_includes (wsV RX4 49 RX4 yX4_begins wsX4_begins) := goodIn_app (goodIn_of _ (by decide +kernel)) ggX4_includes_X4_begins
set_option maxRecDepth 20000 in
theorem ggX4_includes_X4_clearsElement : GoodIn wsX4_includes wsX4_clearsElement := goodIn_r _ [10, 1, 11, 12, 5, 13, 18, 19, 20, 21, 22, 23, 24, 25, 26, 27, 28, 29] (by decide +kernel) (by decide +kernel)
set_option maxRecDepth 20000 in
theorem gX4_includes_X4_clearsElement : GoodIn wsX4_includes (wsV RX4 66 RX4 yX4_clearsElement wsX4_clearsElement) := goodIn_app (goodIn_of _ (by decide +kernel)) ggX4_includes_X4_clearsElement
set_option maxRecDepth 20000 in
theorem ggX4_includes_X4_elementPlace : GoodIn wsX4_includes wsX4_elementPlace := goodIn_r _ [13] (by decide +kernel) (by decide +kernel)
set_option maxRecDepth 20000 in
theorem gX4_includes_X4_elementPlace : GoodIn wsX4_includes (va_wsS RX4 35 yX4_elementPlace wsX4_elementPlace) := goodIn_app (goodIn_of _ (by decide +kernel)) ggX4_includes_X4_elementPlace
set_option maxRecDepth 20000 in
theorem ggX4_includes_X4_seenBy : GoodIn wsX4_includes wsX4_seenBy := goodIn_r _ [17, 1, 18, 19, 20, 21, 22, 23, 24, 25, 26, 27, 28, 29] (by decide +kernel) (by decide +kernel)
set_option maxRecDepth 20000 in
theorem gX4_includes_X4_seenBy : GoodIn wsX4_includes (wsV RX4 38 RX4 yX4_seenBy wsX4_seenBy) := goodIn_app (goodIn_of _ (by decide +kernel)) ggX4_includes_X4_seenBy
theorem dX4_includes_0 : decode cX4_includes 0 = .ok (.aload_n 0, 1) := by decide +kernel
theorem dX4_includes_1 : decode cX4_includes 1 = .ok (.iload_n 1, 1) := by decide +kernel
theorem dX4_includes_2 : decode cX4_includes 2 = .ok (.invokevirtual 49, 3) := by decide +kernel
theorem dX4_includes_5 : decode cX4_includes 5 = .ok (.aload_n 0, 1) := by decide +kernel
theorem dX4_includes_6 : decode cX4_includes 6 = .ok (.iload_n 1, 1) := by decide +kernel
theorem dX4_includes_7 : decode cX4_includes 7 = .ok (.iload_n 2, 1) := by decide +kernel
theorem dX4_includes_8 : decode cX4_includes 8 = .ok (.iload_n 3, 1) := by decide +kernel
theorem dX4_includes_9 : decode cX4_includes 9 = .ok (.invokevirtual 66, 3) := by decide +kernel
theorem dX4_includes_12 : decode cX4_includes 12 = .ok (.istore 4, 2) := by decide +kernel
theorem dX4_includes_14 : decode cX4_includes 14 = .ok (.aload_n 0, 1) := by decide +kernel
theorem dX4_includes_15 : decode cX4_includes 15 = .ok (.getfield 7, 3) := by decide +kernel
theorem dX4_includes_18 : decode cX4_includes 18 = .ok (.iload_n 1, 1) := by decide +kernel
theorem dX4_includes_19 : decode cX4_includes 19 = .ok (.iload_n 2, 1) := by decide +kernel
theorem dX4_includes_20 : decode cX4_includes 20 = .ok (.iload_n 3, 1) := by decide +kernel
theorem dX4_includes_21 : decode cX4_includes 21 = .ok (.iload_n 1, 1) := by decide +kernel
theorem dX4_includes_22 : decode cX4_includes 22 = .ok (.invokestatic 35, 3) := by decide +kernel
theorem dX4_includes_25 : decode cX4_includes 25 = .ok (.aload_n 0, 1) := by decide +kernel
theorem dX4_includes_26 : decode cX4_includes 26 = .ok (.iload_n 1, 1) := by decide +kernel
theorem dX4_includes_27 : decode cX4_includes 27 = .ok (.iload_n 1, 1) := by decide +kernel
theorem dX4_includes_28 : decode cX4_includes 28 = .ok (.invokevirtual 38, 3) := by decide +kernel
theorem dX4_includes_31 : decode cX4_includes 31 = .ok (.iastore, 1) := by decide +kernel
theorem dX4_includes_32 : decode cX4_includes 32 = .ok (.iload 4, 2) := by decide +kernel
theorem dX4_includes_34 : decode cX4_includes 34 = .ok (.ireturn, 1) := by decide +kernel
set_option maxRecDepth 20000 in
theorem ggX4_excludes_X4_begins : GoodIn wsX4_excludes wsX4_begins := goodIn_r _ [5, 6, 14, 15, 16, 17, 18, 19, 20, 21, 22, 23, 24, 25] (by decide +kernel) (by decide +kernel)
set_option maxRecDepth 20000 in
theorem gX4_excludes_X4_begins : GoodIn wsX4_excludes (wsV RX4 49 RX4 yX4_begins wsX4_begins) := goodIn_app (goodIn_of _ (by decide +kernel)) ggX4_excludes_X4_begins
set_option maxRecDepth 20000 in
theorem ggX4_excludes_X4_clearsElement : GoodIn wsX4_excludes wsX4_clearsElement := goodIn_r _ [10, 6, 11, 12, 4, 13, 14, 15, 16, 17, 18, 19, 20, 21, 22, 23, 24, 25] (by decide +kernel) (by decide +kernel)
set_option maxRecDepth 20000 in
theorem gX4_excludes_X4_clearsElement : GoodIn wsX4_excludes (wsV RX4 66 RX4 yX4_clearsElement wsX4_clearsElement) := goodIn_app (goodIn_of _ (by decide +kernel)) ggX4_excludes_X4_clearsElement
theorem dX4_excludes_0 : decode cX4_excludes 0 = .ok (.aload_n 0, 1) := by decide +kernel
theorem dX4_excludes_1 : decode cX4_excludes 1 = .ok (.iload_n 1, 1) := by decide +kernel
theorem dX4_excludes_2 : decode cX4_excludes 2 = .ok (.invokevirtual 49, 3) := by decide +kernel
theorem dX4_excludes_5 : decode cX4_excludes 5 = .ok (.aload_n 0, 1) := by decide +kernel
theorem dX4_excludes_6 : decode cX4_excludes 6 = .ok (.iload_n 1, 1) := by decide +kernel
theorem dX4_excludes_7 : decode cX4_excludes 7 = .ok (.iload_n 2, 1) := by decide +kernel
theorem dX4_excludes_8 : decode cX4_excludes 8 = .ok (.iload_n 3, 1) := by decide +kernel
theorem dX4_excludes_9 : decode cX4_excludes 9 = .ok (.invokevirtual 66, 3) := by decide +kernel
theorem dX4_excludes_12 : decode cX4_excludes 12 = .ok (.ireturn, 1) := by decide +kernel
set_option maxRecDepth 20000 in
theorem ggX4_deletes_X4_begins : GoodIn wsX4_deletes wsX4_begins := goodIn_r _ [5, 6, 25, 26, 27, 28, 29, 30, 31, 32, 33, 34, 35, 36] (by decide +kernel) (by decide +kernel)
set_option maxRecDepth 20000 in
theorem gX4_deletes_X4_begins : GoodIn wsX4_deletes (wsV RX4 49 RX4 yX4_begins wsX4_begins) := goodIn_app (goodIn_of _ (by decide +kernel)) ggX4_deletes_X4_begins
set_option maxRecDepth 20000 in
theorem ggX4_deletes_X4_clears : GoodIn wsX4_deletes wsX4_clears := goodIn_r _ [10, 6, 11, 12, 13, 4, 14, 15, 16, 17, 25, 26, 27, 28, 29, 30, 31, 32, 33, 34, 35, 36] (by decide +kernel) (by decide +kernel)
set_option maxRecDepth 20000 in
theorem gX4_deletes_X4_clears : GoodIn wsX4_deletes (wsV RX4 56 RX4 yX4_clears wsX4_clears) := goodIn_app (goodIn_of _ (by decide +kernel)) ggX4_deletes_X4_clears
set_option maxRecDepth 20000 in
theorem ggX4_deletes_X4_clearsElement : GoodIn wsX4_deletes wsX4_clearsElement := goodIn_r _ [21, 6, 22, 23, 4, 24, 25, 26, 27, 28, 29, 30, 31, 32, 33, 34, 35, 36] (by decide +kernel) (by decide +kernel)
set_option maxRecDepth 20000 in
theorem gX4_deletes_X4_clearsElement : GoodIn wsX4_deletes (wsV RX4 66 RX4 yX4_clearsElement wsX4_clearsElement) := goodIn_app (goodIn_of _ (by decide +kernel)) ggX4_deletes_X4_clearsElement
theorem dX4_deletes_0 : decode cX4_deletes 0 = .ok (.aload_n 0, 1) := by decide +kernel
theorem dX4_deletes_1 : decode cX4_deletes 1 = .ok (.iload_n 1, 1) := by decide +kernel
theorem dX4_deletes_2 : decode cX4_deletes 2 = .ok (.invokevirtual 49, 3) := by decide +kernel
theorem dX4_deletes_5 : decode cX4_deletes 5 = .ok (.iconst 0, 1) := by decide +kernel
theorem dX4_deletes_6 : decode cX4_deletes 6 = .ok (.istore_n 3, 1) := by decide +kernel
theorem dX4_deletes_7 : decode cX4_deletes 7 = .ok (.iconst 0, 1) := by decide +kernel
theorem dX4_deletes_8 : decode cX4_deletes 8 = .ok (.istore 4, 2) := by decide +kernel
theorem dX4_deletes_10 : decode cX4_deletes 10 = .ok (.iload 4, 2) := by decide +kernel
theorem dX4_deletes_12 : decode cX4_deletes 12 = .ok (.iconst 4, 1) := by decide +kernel
theorem dX4_deletes_13 : decode cX4_deletes 13 = .ok (.if_icmp .ge 20, 3) := by decide +kernel
theorem dX4_deletes_16 : decode cX4_deletes 16 = .ok (.iload_n 3, 1) := by decide +kernel
theorem dX4_deletes_17 : decode cX4_deletes 17 = .ok (.aload_n 0, 1) := by decide +kernel
theorem dX4_deletes_18 : decode cX4_deletes 18 = .ok (.iload_n 1, 1) := by decide +kernel
theorem dX4_deletes_19 : decode cX4_deletes 19 = .ok (.iload_n 2, 1) := by decide +kernel
theorem dX4_deletes_20 : decode cX4_deletes 20 = .ok (.iload 4, 2) := by decide +kernel
theorem dX4_deletes_22 : decode cX4_deletes 22 = .ok (.invokevirtual 56, 3) := by decide +kernel
theorem dX4_deletes_25 : decode cX4_deletes 25 = .ok (.iadd, 1) := by decide +kernel
theorem dX4_deletes_26 : decode cX4_deletes 26 = .ok (.istore_n 3, 1) := by decide +kernel
theorem dX4_deletes_27 : decode cX4_deletes 27 = .ok (.iinc 4 1, 3) := by decide +kernel
theorem dX4_deletes_30 : decode cX4_deletes 30 = .ok (.goto (-20), 3) := by decide +kernel
theorem dX4_deletes_33 : decode cX4_deletes 33 = .ok (.iconst 0, 1) := by decide +kernel
theorem dX4_deletes_34 : decode cX4_deletes 34 = .ok (.istore 4, 2) := by decide +kernel
theorem dX4_deletes_36 : decode cX4_deletes 36 = .ok (.iload 4, 2) := by decide +kernel
theorem dX4_deletes_38 : decode cX4_deletes 38 = .ok (.bipush 16, 2) := by decide +kernel
theorem dX4_deletes_40 : decode cX4_deletes 40 = .ok (.if_icmp .ge 20, 3) := by decide +kernel
theorem dX4_deletes_43 : decode cX4_deletes 43 = .ok (.iload_n 3, 1) := by decide +kernel
theorem dX4_deletes_44 : decode cX4_deletes 44 = .ok (.aload_n 0, 1) := by decide +kernel
theorem dX4_deletes_45 : decode cX4_deletes 45 = .ok (.iload_n 1, 1) := by decide +kernel
theorem dX4_deletes_46 : decode cX4_deletes 46 = .ok (.iload_n 2, 1) := by decide +kernel
theorem dX4_deletes_47 : decode cX4_deletes 47 = .ok (.iload 4, 2) := by decide +kernel
theorem dX4_deletes_49 : decode cX4_deletes 49 = .ok (.invokevirtual 66, 3) := by decide +kernel
theorem dX4_deletes_52 : decode cX4_deletes 52 = .ok (.iadd, 1) := by decide +kernel
theorem dX4_deletes_53 : decode cX4_deletes 53 = .ok (.istore_n 3, 1) := by decide +kernel
theorem dX4_deletes_54 : decode cX4_deletes 54 = .ok (.iinc 4 1, 3) := by decide +kernel
theorem dX4_deletes_57 : decode cX4_deletes 57 = .ok (.goto (-21), 3) := by decide +kernel
theorem dX4_deletes_60 : decode cX4_deletes 60 = .ok (.iload_n 3, 1) := by decide +kernel
theorem dX4_deletes_61 : decode cX4_deletes 61 = .ok (.ireturn, 1) := by decide +kernel
set_option maxRecDepth 20000 in
theorem ggX4_way_X4_seenBy : GoodIn wsX4_way wsX4_seenBy := goodIn_r _ [7, 8, 9, 10, 11, 12, 13, 14, 15, 16, 17, 18, 19, 20] (by decide +kernel) (by decide +kernel)
set_option maxRecDepth 20000 in
theorem gX4_way_X4_seenBy : GoodIn wsX4_way (wsV RX4 38 RX4 yX4_seenBy wsX4_seenBy) := goodIn_app (goodIn_of _ (by decide +kernel)) ggX4_way_X4_seenBy
theorem dX4_way_0 : decode cX4_way 0 = .ok (.iload 4, 2) := by decide +kernel
theorem dX4_way_2 : decode cX4_way 2 = .ok (.iload 5, 2) := by decide +kernel
theorem dX4_way_4 : decode cX4_way 4 = .ok (.if_icmp .ne 5, 3) := by decide +kernel
theorem dX4_way_7 : decode cX4_way 7 = .ok (.iconst 0, 1) := by decide +kernel
theorem dX4_way_8 : decode cX4_way 8 = .ok (.ireturn, 1) := by decide +kernel
theorem dX4_way_9 : decode cX4_way 9 = .ok (.iload 5, 2) := by decide +kernel
theorem dX4_way_11 : decode cX4_way 11 = .ok (.ifCond .le 18, 3) := by decide +kernel
theorem dX4_way_14 : decode cX4_way 14 = .ok (.aload_n 0, 1) := by decide +kernel
theorem dX4_way_15 : decode cX4_way 15 = .ok (.iload_n 1, 1) := by decide +kernel
theorem dX4_way_16 : decode cX4_way 16 = .ok (.iload_n 3, 1) := by decide +kernel
theorem dX4_way_17 : decode cX4_way 17 = .ok (.invokevirtual 38, 3) := by decide +kernel
theorem dX4_way_20 : decode cX4_way 20 = .ok (.iload 5, 2) := by decide +kernel
theorem dX4_way_22 : decode cX4_way 22 = .ok (.if_icmp .lt 7, 3) := by decide +kernel
theorem dX4_way_25 : decode cX4_way 25 = .ok (.iconst 1, 1) := by decide +kernel
theorem dX4_way_26 : decode cX4_way 26 = .ok (.goto 4, 3) := by decide +kernel
theorem dX4_way_29 : decode cX4_way 29 = .ok (.iconst 0, 1) := by decide +kernel
theorem dX4_way_30 : decode cX4_way 30 = .ok (.istore 6, 2) := by decide +kernel
theorem dX4_way_32 : decode cX4_way 32 = .ok (.iload 4, 2) := by decide +kernel
theorem dX4_way_34 : decode cX4_way 34 = .ok (.ifCond .le 18, 3) := by decide +kernel
theorem dX4_way_37 : decode cX4_way 37 = .ok (.aload_n 0, 1) := by decide +kernel
theorem dX4_way_38 : decode cX4_way 38 = .ok (.iload_n 2, 1) := by decide +kernel
theorem dX4_way_39 : decode cX4_way 39 = .ok (.iload_n 3, 1) := by decide +kernel
theorem dX4_way_40 : decode cX4_way 40 = .ok (.invokevirtual 38, 3) := by decide +kernel
theorem dX4_way_43 : decode cX4_way 43 = .ok (.iload 4, 2) := by decide +kernel
theorem dX4_way_45 : decode cX4_way 45 = .ok (.if_icmp .ge 7, 3) := by decide +kernel
theorem dX4_way_48 : decode cX4_way 48 = .ok (.iconst 1, 1) := by decide +kernel
theorem dX4_way_49 : decode cX4_way 49 = .ok (.goto 4, 3) := by decide +kernel
theorem dX4_way_52 : decode cX4_way 52 = .ok (.iconst 0, 1) := by decide +kernel
theorem dX4_way_53 : decode cX4_way 53 = .ok (.istore 7, 2) := by decide +kernel
theorem dX4_way_55 : decode cX4_way 55 = .ok (.aload_n 0, 1) := by decide +kernel
theorem dX4_way_56 : decode cX4_way 56 = .ok (.dup, 1) := by decide +kernel
theorem dX4_way_57 : decode cX4_way 57 = .ok (.getfield 69, 3) := by decide +kernel
theorem dX4_way_60 : decode cX4_way 60 = .ok (.iload 6, 2) := by decide +kernel
theorem dX4_way_62 : decode cX4_way 62 = .ok (.ifCond .eq 7, 3) := by decide +kernel
theorem dX4_way_65 : decode cX4_way 65 = .ok (.iconst 1, 1) := by decide +kernel
theorem dX4_way_66 : decode cX4_way 66 = .ok (.goto 4, 3) := by decide +kernel
theorem dX4_way_69 : decode cX4_way 69 = .ok (.iconst 0, 1) := by decide +kernel
theorem dX4_way_70 : decode cX4_way 70 = .ok (.iadd, 1) := by decide +kernel
theorem dX4_way_71 : decode cX4_way 71 = .ok (.putfield 69, 3) := by decide +kernel
theorem dX4_way_74 : decode cX4_way 74 = .ok (.aload_n 0, 1) := by decide +kernel
theorem dX4_way_75 : decode cX4_way 75 = .ok (.dup, 1) := by decide +kernel
theorem dX4_way_76 : decode cX4_way 76 = .ok (.getfield 72, 3) := by decide +kernel
theorem dX4_way_79 : decode cX4_way 79 = .ok (.iload 7, 2) := by decide +kernel
theorem dX4_way_81 : decode cX4_way 81 = .ok (.ifCond .eq 7, 3) := by decide +kernel
theorem dX4_way_84 : decode cX4_way 84 = .ok (.iconst 1, 1) := by decide +kernel
theorem dX4_way_85 : decode cX4_way 85 = .ok (.goto 4, 3) := by decide +kernel
theorem dX4_way_88 : decode cX4_way 88 = .ok (.iconst 0, 1) := by decide +kernel
theorem dX4_way_89 : decode cX4_way 89 = .ok (.iadd, 1) := by decide +kernel
theorem dX4_way_90 : decode cX4_way 90 = .ok (.putfield 72, 3) := by decide +kernel
theorem dX4_way_93 : decode cX4_way 93 = .ok (.iload 7, 2) := by decide +kernel
theorem dX4_way_95 : decode cX4_way 95 = .ok (.ifCond .eq 7, 3) := by decide +kernel
theorem dX4_way_98 : decode cX4_way 98 = .ok (.iconst 1, 1) := by decide +kernel
theorem dX4_way_99 : decode cX4_way 99 = .ok (.goto 13, 3) := by decide +kernel
theorem dX4_way_102 : decode cX4_way 102 = .ok (.iload 6, 2) := by decide +kernel
theorem dX4_way_104 : decode cX4_way 104 = .ok (.ifCond .eq 7, 3) := by decide +kernel
theorem dX4_way_107 : decode cX4_way 107 = .ok (.iconst (-1), 1) := by decide +kernel
theorem dX4_way_108 : decode cX4_way 108 = .ok (.goto 4, 3) := by decide +kernel
theorem dX4_way_111 : decode cX4_way 111 = .ok (.iconst 0, 1) := by decide +kernel
theorem dX4_way_112 : decode cX4_way 112 = .ok (.ireturn, 1) := by decide +kernel
set_option maxRecDepth 20000 in
theorem ggX4_mergesElements_X4_way : GoodIn wsX4_mergesElements wsX4_way := goodIn_r _ [6, 7, 8, 9, 10, 11, 5, 12, 1, 13, 14, 15, 16, 17, 18, 19, 20, 21, 22, 23, 24] (by decide +kernel) (by decide +kernel)
set_option maxRecDepth 20000 in
theorem gX4_mergesElements_X4_way : GoodIn wsX4_mergesElements (wsV RX4 75 RX4 yX4_way wsX4_way) := goodIn_app (goodIn_of _ (by decide +kernel)) ggX4_mergesElements_X4_way
theorem dX4_mergesElements_0 : decode cX4_mergesElements 0 = .ok (.iconst 0, 1) := by decide +kernel
theorem dX4_mergesElements_1 : decode cX4_mergesElements 1 = .ok (.istore 4, 2) := by decide +kernel
theorem dX4_mergesElements_3 : decode cX4_mergesElements 3 = .ok (.iload 4, 2) := by decide +kernel
theorem dX4_mergesElements_5 : decode cX4_mergesElements 5 = .ok (.sipush 384, 3) := by decide +kernel
theorem dX4_mergesElements_8 : decode cX4_mergesElements 8 = .ok (.if_icmp .ge 100, 3) := by decide +kernel
theorem dX4_mergesElements_11 : decode cX4_mergesElements 11 = .ok (.sipush 888, 3) := by decide +kernel
theorem dX4_mergesElements_14 : decode cX4_mergesElements 14 = .ok (.sipush 384, 3) := by decide +kernel
theorem dX4_mergesElements_17 : decode cX4_mergesElements 17 = .ok (.iload_n 2, 1) := by decide +kernel
theorem dX4_mergesElements_18 : decode cX4_mergesElements 18 = .ok (.imul, 1) := by decide +kernel
theorem dX4_mergesElements_19 : decode cX4_mergesElements 19 = .ok (.iadd, 1) := by decide +kernel
theorem dX4_mergesElements_20 : decode cX4_mergesElements 20 = .ok (.iload 4, 2) := by decide +kernel
theorem dX4_mergesElements_22 : decode cX4_mergesElements 22 = .ok (.iadd, 1) := by decide +kernel
theorem dX4_mergesElements_23 : decode cX4_mergesElements 23 = .ok (.istore 5, 2) := by decide +kernel
theorem dX4_mergesElements_25 : decode cX4_mergesElements 25 = .ok (.aload_n 0, 1) := by decide +kernel
theorem dX4_mergesElements_26 : decode cX4_mergesElements 26 = .ok (.getfield 7, 3) := by decide +kernel
theorem dX4_mergesElements_29 : decode cX4_mergesElements 29 = .ok (.sipush 888, 3) := by decide +kernel
theorem dX4_mergesElements_32 : decode cX4_mergesElements 32 = .ok (.sipush 384, 3) := by decide +kernel
theorem dX4_mergesElements_35 : decode cX4_mergesElements 35 = .ok (.iload_n 1, 1) := by decide +kernel
theorem dX4_mergesElements_36 : decode cX4_mergesElements 36 = .ok (.imul, 1) := by decide +kernel
theorem dX4_mergesElements_37 : decode cX4_mergesElements 37 = .ok (.iadd, 1) := by decide +kernel
theorem dX4_mergesElements_38 : decode cX4_mergesElements 38 = .ok (.iload 4, 2) := by decide +kernel
theorem dX4_mergesElements_40 : decode cX4_mergesElements 40 = .ok (.iadd, 1) := by decide +kernel
theorem dX4_mergesElements_41 : decode cX4_mergesElements 41 = .ok (.iaload, 1) := by decide +kernel
theorem dX4_mergesElements_42 : decode cX4_mergesElements 42 = .ok (.istore 6, 2) := by decide +kernel
theorem dX4_mergesElements_44 : decode cX4_mergesElements 44 = .ok (.aload_n 0, 1) := by decide +kernel
theorem dX4_mergesElements_45 : decode cX4_mergesElements 45 = .ok (.iload_n 1, 1) := by decide +kernel
theorem dX4_mergesElements_46 : decode cX4_mergesElements 46 = .ok (.iload_n 2, 1) := by decide +kernel
theorem dX4_mergesElements_47 : decode cX4_mergesElements 47 = .ok (.iload 4, 2) := by decide +kernel
theorem dX4_mergesElements_49 : decode cX4_mergesElements 49 = .ok (.iconst 4, 1) := by decide +kernel
theorem dX4_mergesElements_50 : decode cX4_mergesElements 50 = .ok (.irem, 1) := by decide +kernel
theorem dX4_mergesElements_51 : decode cX4_mergesElements 51 = .ok (.iload 6, 2) := by decide +kernel
theorem dX4_mergesElements_53 : decode cX4_mergesElements 53 = .ok (.aload_n 0, 1) := by decide +kernel
theorem dX4_mergesElements_54 : decode cX4_mergesElements 54 = .ok (.getfield 7, 3) := by decide +kernel
theorem dX4_mergesElements_57 : decode cX4_mergesElements 57 = .ok (.iload 5, 2) := by decide +kernel
theorem dX4_mergesElements_59 : decode cX4_mergesElements 59 = .ok (.iaload, 1) := by decide +kernel
theorem dX4_mergesElements_60 : decode cX4_mergesElements 60 = .ok (.invokevirtual 75, 3) := by decide +kernel
theorem dX4_mergesElements_63 : decode cX4_mergesElements 63 = .ok (.istore 7, 2) := by decide +kernel
theorem dX4_mergesElements_65 : decode cX4_mergesElements 65 = .ok (.iload_n 3, 1) := by decide +kernel
theorem dX4_mergesElements_66 : decode cX4_mergesElements 66 = .ok (.ifCond .eq 36, 3) := by decide +kernel
theorem dX4_mergesElements_69 : decode cX4_mergesElements 69 = .ok (.aload_n 0, 1) := by decide +kernel
theorem dX4_mergesElements_70 : decode cX4_mergesElements 70 = .ok (.getfield 7, 3) := by decide +kernel
theorem dX4_mergesElements_73 : decode cX4_mergesElements 73 = .ok (.iload 5, 2) := by decide +kernel
theorem dX4_mergesElements_75 : decode cX4_mergesElements 75 = .ok (.iload 7, 2) := by decide +kernel
theorem dX4_mergesElements_77 : decode cX4_mergesElements 77 = .ok (.ifCond .le 8, 3) := by decide +kernel
theorem dX4_mergesElements_80 : decode cX4_mergesElements 80 = .ok (.iload 6, 2) := by decide +kernel
theorem dX4_mergesElements_82 : decode cX4_mergesElements 82 = .ok (.goto 19, 3) := by decide +kernel
theorem dX4_mergesElements_85 : decode cX4_mergesElements 85 = .ok (.iload 7, 2) := by decide +kernel
theorem dX4_mergesElements_87 : decode cX4_mergesElements 87 = .ok (.ifCond .ge 7, 3) := by decide +kernel
theorem dX4_mergesElements_90 : decode cX4_mergesElements 90 = .ok (.iconst 0, 1) := by decide +kernel
theorem dX4_mergesElements_91 : decode cX4_mergesElements 91 = .ok (.goto 10, 3) := by decide +kernel
theorem dX4_mergesElements_94 : decode cX4_mergesElements 94 = .ok (.aload_n 0, 1) := by decide +kernel
theorem dX4_mergesElements_95 : decode cX4_mergesElements 95 = .ok (.getfield 7, 3) := by decide +kernel
theorem dX4_mergesElements_98 : decode cX4_mergesElements 98 = .ok (.iload 5, 2) := by decide +kernel
theorem dX4_mergesElements_100 : decode cX4_mergesElements 100 = .ok (.iaload, 1) := by decide +kernel
theorem dX4_mergesElements_101 : decode cX4_mergesElements 101 = .ok (.iastore, 1) := by decide +kernel
theorem dX4_mergesElements_102 : decode cX4_mergesElements 102 = .ok (.iinc 4 1, 3) := by decide +kernel
theorem dX4_mergesElements_105 : decode cX4_mergesElements 105 = .ok (.goto (-102), 3) := by decide +kernel
theorem dX4_mergesElements_108 : decode cX4_mergesElements 108 = .ok (.return_, 1) := by decide +kernel
set_option maxRecDepth 20000 in
theorem ggX4_mergesCells_X4_way : GoodIn wsX4_mergesCells wsX4_way := goodIn_r _ [6, 7, 8, 9, 10, 11, 5, 12, 1, 16, 17, 18, 19, 20, 21, 22, 23, 24, 25, 26, 27] (by decide +kernel) (by decide +kernel)
set_option maxRecDepth 20000 in
theorem gX4_mergesCells_X4_way : GoodIn wsX4_mergesCells (wsV RX4 75 RX4 yX4_way wsX4_way) := goodIn_app (goodIn_of _ (by decide +kernel)) ggX4_mergesCells_X4_way
set_option maxRecDepth 20000 in
theorem ggX4_mergesCells_X4_stampPlace : GoodIn wsX4_mergesCells wsX4_stampPlace := goodIn_r _ [15] (by decide +kernel) (by decide +kernel)
set_option maxRecDepth 20000 in
theorem gX4_mergesCells_X4_stampPlace : GoodIn wsX4_mergesCells (va_wsS RX4 42 yX4_stampPlace wsX4_stampPlace) := goodIn_app (goodIn_of _ (by decide +kernel)) ggX4_mergesCells_X4_stampPlace
theorem dX4_mergesCells_0 : decode cX4_mergesCells 0 = .ok (.iconst 0, 1) := by decide +kernel
theorem dX4_mergesCells_1 : decode cX4_mergesCells 1 = .ok (.istore 4, 2) := by decide +kernel
theorem dX4_mergesCells_3 : decode cX4_mergesCells 3 = .ok (.iload 4, 2) := by decide +kernel
theorem dX4_mergesCells_5 : decode cX4_mergesCells 5 = .ok (.bipush 96, 2) := by decide +kernel
theorem dX4_mergesCells_7 : decode cX4_mergesCells 7 = .ok (.if_icmp .ge 165, 3) := by decide +kernel
theorem dX4_mergesCells_10 : decode cX4_mergesCells 10 = .ok (.bipush 96, 2) := by decide +kernel
theorem dX4_mergesCells_12 : decode cX4_mergesCells 12 = .ok (.iload_n 2, 1) := by decide +kernel
theorem dX4_mergesCells_13 : decode cX4_mergesCells 13 = .ok (.imul, 1) := by decide +kernel
theorem dX4_mergesCells_14 : decode cX4_mergesCells 14 = .ok (.iload 4, 2) := by decide +kernel
theorem dX4_mergesCells_16 : decode cX4_mergesCells 16 = .ok (.iadd, 1) := by decide +kernel
theorem dX4_mergesCells_17 : decode cX4_mergesCells 17 = .ok (.istore 5, 2) := by decide +kernel
theorem dX4_mergesCells_19 : decode cX4_mergesCells 19 = .ok (.bipush 96, 2) := by decide +kernel
theorem dX4_mergesCells_21 : decode cX4_mergesCells 21 = .ok (.iload_n 1, 1) := by decide +kernel
theorem dX4_mergesCells_22 : decode cX4_mergesCells 22 = .ok (.imul, 1) := by decide +kernel
theorem dX4_mergesCells_23 : decode cX4_mergesCells 23 = .ok (.iload 4, 2) := by decide +kernel
theorem dX4_mergesCells_25 : decode cX4_mergesCells 25 = .ok (.iadd, 1) := by decide +kernel
theorem dX4_mergesCells_26 : decode cX4_mergesCells 26 = .ok (.istore 6, 2) := by decide +kernel
theorem dX4_mergesCells_28 : decode cX4_mergesCells 28 = .ok (.aload_n 0, 1) := by decide +kernel
theorem dX4_mergesCells_29 : decode cX4_mergesCells 29 = .ok (.iload_n 1, 1) := by decide +kernel
theorem dX4_mergesCells_30 : decode cX4_mergesCells 30 = .ok (.iload_n 2, 1) := by decide +kernel
theorem dX4_mergesCells_31 : decode cX4_mergesCells 31 = .ok (.iload 4, 2) := by decide +kernel
theorem dX4_mergesCells_33 : decode cX4_mergesCells 33 = .ok (.iconst 4, 1) := by decide +kernel
theorem dX4_mergesCells_34 : decode cX4_mergesCells 34 = .ok (.irem, 1) := by decide +kernel
theorem dX4_mergesCells_35 : decode cX4_mergesCells 35 = .ok (.aload_n 0, 1) := by decide +kernel
theorem dX4_mergesCells_36 : decode cX4_mergesCells 36 = .ok (.getfield 7, 3) := by decide +kernel
theorem dX4_mergesCells_39 : decode cX4_mergesCells 39 = .ok (.bipush 24, 2) := by decide +kernel
theorem dX4_mergesCells_41 : decode cX4_mergesCells 41 = .ok (.iload 6, 2) := by decide +kernel
theorem dX4_mergesCells_43 : decode cX4_mergesCells 43 = .ok (.iadd, 1) := by decide +kernel
theorem dX4_mergesCells_44 : decode cX4_mergesCells 44 = .ok (.iaload, 1) := by decide +kernel
theorem dX4_mergesCells_45 : decode cX4_mergesCells 45 = .ok (.aload_n 0, 1) := by decide +kernel
theorem dX4_mergesCells_46 : decode cX4_mergesCells 46 = .ok (.getfield 7, 3) := by decide +kernel
theorem dX4_mergesCells_49 : decode cX4_mergesCells 49 = .ok (.bipush 24, 2) := by decide +kernel
theorem dX4_mergesCells_51 : decode cX4_mergesCells 51 = .ok (.iload 5, 2) := by decide +kernel
theorem dX4_mergesCells_53 : decode cX4_mergesCells 53 = .ok (.iadd, 1) := by decide +kernel
theorem dX4_mergesCells_54 : decode cX4_mergesCells 54 = .ok (.iaload, 1) := by decide +kernel
theorem dX4_mergesCells_55 : decode cX4_mergesCells 55 = .ok (.invokevirtual 75, 3) := by decide +kernel
theorem dX4_mergesCells_58 : decode cX4_mergesCells 58 = .ok (.istore 7, 2) := by decide +kernel
theorem dX4_mergesCells_60 : decode cX4_mergesCells 60 = .ok (.iload_n 3, 1) := by decide +kernel
theorem dX4_mergesCells_61 : decode cX4_mergesCells 61 = .ok (.ifCond .eq 105, 3) := by decide +kernel
theorem dX4_mergesCells_64 : decode cX4_mergesCells 64 = .ok (.iload 7, 2) := by decide +kernel
theorem dX4_mergesCells_66 : decode cX4_mergesCells 66 = .ok (.ifCond .eq 100, 3) := by decide +kernel
theorem dX4_mergesCells_69 : decode cX4_mergesCells 69 = .ok (.aload_n 0, 1) := by decide +kernel
theorem dX4_mergesCells_70 : decode cX4_mergesCells 70 = .ok (.getfield 7, 3) := by decide +kernel
theorem dX4_mergesCells_73 : decode cX4_mergesCells 73 = .ok (.bipush 24, 2) := by decide +kernel
theorem dX4_mergesCells_75 : decode cX4_mergesCells 75 = .ok (.iload 5, 2) := by decide +kernel
theorem dX4_mergesCells_77 : decode cX4_mergesCells 77 = .ok (.iadd, 1) := by decide +kernel
theorem dX4_mergesCells_78 : decode cX4_mergesCells 78 = .ok (.iload 7, 2) := by decide +kernel
theorem dX4_mergesCells_80 : decode cX4_mergesCells 80 = .ok (.ifCond .le 16, 3) := by decide +kernel
theorem dX4_mergesCells_83 : decode cX4_mergesCells 83 = .ok (.aload_n 0, 1) := by decide +kernel
theorem dX4_mergesCells_84 : decode cX4_mergesCells 84 = .ok (.getfield 7, 3) := by decide +kernel
theorem dX4_mergesCells_87 : decode cX4_mergesCells 87 = .ok (.bipush 24, 2) := by decide +kernel
theorem dX4_mergesCells_89 : decode cX4_mergesCells 89 = .ok (.iload 6, 2) := by decide +kernel
theorem dX4_mergesCells_91 : decode cX4_mergesCells 91 = .ok (.iadd, 1) := by decide +kernel
theorem dX4_mergesCells_92 : decode cX4_mergesCells 92 = .ok (.iaload, 1) := by decide +kernel
theorem dX4_mergesCells_93 : decode cX4_mergesCells 93 = .ok (.goto 4, 3) := by decide +kernel
theorem dX4_mergesCells_96 : decode cX4_mergesCells 96 = .ok (.iconst 0, 1) := by decide +kernel
theorem dX4_mergesCells_97 : decode cX4_mergesCells 97 = .ok (.iastore, 1) := by decide +kernel
theorem dX4_mergesCells_98 : decode cX4_mergesCells 98 = .ok (.aload_n 0, 1) := by decide +kernel
theorem dX4_mergesCells_99 : decode cX4_mergesCells 99 = .ok (.getfield 7, 3) := by decide +kernel
theorem dX4_mergesCells_102 : decode cX4_mergesCells 102 = .ok (.sipush 408, 3) := by decide +kernel
theorem dX4_mergesCells_105 : decode cX4_mergesCells 105 = .ok (.iload 5, 2) := by decide +kernel
theorem dX4_mergesCells_107 : decode cX4_mergesCells 107 = .ok (.iadd, 1) := by decide +kernel
theorem dX4_mergesCells_108 : decode cX4_mergesCells 108 = .ok (.aload_n 0, 1) := by decide +kernel
theorem dX4_mergesCells_109 : decode cX4_mergesCells 109 = .ok (.getfield 7, 3) := by decide +kernel
theorem dX4_mergesCells_112 : decode cX4_mergesCells 112 = .ok (.sipush 408, 3) := by decide +kernel
theorem dX4_mergesCells_115 : decode cX4_mergesCells 115 = .ok (.iload 6, 2) := by decide +kernel
theorem dX4_mergesCells_117 : decode cX4_mergesCells 117 = .ok (.iadd, 1) := by decide +kernel
theorem dX4_mergesCells_118 : decode cX4_mergesCells 118 = .ok (.iaload, 1) := by decide +kernel
theorem dX4_mergesCells_119 : decode cX4_mergesCells 119 = .ok (.iastore, 1) := by decide +kernel
theorem dX4_mergesCells_120 : decode cX4_mergesCells 120 = .ok (.iload 4, 2) := by decide +kernel
theorem dX4_mergesCells_122 : decode cX4_mergesCells 122 = .ok (.bipush 16, 2) := by decide +kernel
theorem dX4_mergesCells_124 : decode cX4_mergesCells 124 = .ok (.idiv, 1) := by decide +kernel
theorem dX4_mergesCells_125 : decode cX4_mergesCells 125 = .ok (.istore 8, 2) := by decide +kernel
theorem dX4_mergesCells_127 : decode cX4_mergesCells 127 = .ok (.iload 4, 2) := by decide +kernel
theorem dX4_mergesCells_129 : decode cX4_mergesCells 129 = .ok (.iconst 4, 1) := by decide +kernel
theorem dX4_mergesCells_130 : decode cX4_mergesCells 130 = .ok (.idiv, 1) := by decide +kernel
theorem dX4_mergesCells_131 : decode cX4_mergesCells 131 = .ok (.iconst 4, 1) := by decide +kernel
theorem dX4_mergesCells_132 : decode cX4_mergesCells 132 = .ok (.irem, 1) := by decide +kernel
theorem dX4_mergesCells_133 : decode cX4_mergesCells 133 = .ok (.ifCond .ne 33, 3) := by decide +kernel
theorem dX4_mergesCells_136 : decode cX4_mergesCells 136 = .ok (.aload_n 0, 1) := by decide +kernel
theorem dX4_mergesCells_137 : decode cX4_mergesCells 137 = .ok (.getfield 7, 3) := by decide +kernel
theorem dX4_mergesCells_140 : decode cX4_mergesCells 140 = .ok (.iload_n 2, 1) := by decide +kernel
theorem dX4_mergesCells_141 : decode cX4_mergesCells 141 = .ok (.iload 8, 2) := by decide +kernel
theorem dX4_mergesCells_143 : decode cX4_mergesCells 143 = .ok (.iload 4, 2) := by decide +kernel
theorem dX4_mergesCells_145 : decode cX4_mergesCells 145 = .ok (.iconst 4, 1) := by decide +kernel
theorem dX4_mergesCells_146 : decode cX4_mergesCells 146 = .ok (.irem, 1) := by decide +kernel
theorem dX4_mergesCells_147 : decode cX4_mergesCells 147 = .ok (.invokestatic 42, 3) := by decide +kernel
theorem dX4_mergesCells_150 : decode cX4_mergesCells 150 = .ok (.aload_n 0, 1) := by decide +kernel
theorem dX4_mergesCells_151 : decode cX4_mergesCells 151 = .ok (.getfield 7, 3) := by decide +kernel
theorem dX4_mergesCells_154 : decode cX4_mergesCells 154 = .ok (.iload_n 1, 1) := by decide +kernel
theorem dX4_mergesCells_155 : decode cX4_mergesCells 155 = .ok (.iload 8, 2) := by decide +kernel
theorem dX4_mergesCells_157 : decode cX4_mergesCells 157 = .ok (.iload 4, 2) := by decide +kernel
theorem dX4_mergesCells_159 : decode cX4_mergesCells 159 = .ok (.iconst 4, 1) := by decide +kernel
theorem dX4_mergesCells_160 : decode cX4_mergesCells 160 = .ok (.irem, 1) := by decide +kernel
theorem dX4_mergesCells_161 : decode cX4_mergesCells 161 = .ok (.invokestatic 42, 3) := by decide +kernel
theorem dX4_mergesCells_164 : decode cX4_mergesCells 164 = .ok (.iaload, 1) := by decide +kernel
theorem dX4_mergesCells_165 : decode cX4_mergesCells 165 = .ok (.iastore, 1) := by decide +kernel
theorem dX4_mergesCells_166 : decode cX4_mergesCells 166 = .ok (.iinc 4 1, 3) := by decide +kernel
theorem dX4_mergesCells_169 : decode cX4_mergesCells 169 = .ok (.goto (-166), 3) := by decide +kernel
theorem dX4_mergesCells_172 : decode cX4_mergesCells 172 = .ok (.return_, 1) := by decide +kernel
set_option maxRecDepth 20000 in
theorem ggX4_looks_X4_mergesCells : GoodIn wsX4_looks wsX4_mergesCells := goodIn_r _ [7, 8, 9, 10, 11, 6, 12, 2, 1, 13, 14, 15, 16, 17, 18, 19, 24, 25, 26, 27, 28, 29, 30, 31, 32, 33, 34, 35] (by decide +kernel) (by decide +kernel)
set_option maxRecDepth 20000 in
theorem gX4_looks_X4_mergesCells : GoodIn wsX4_looks (wsV RX4 79 RX4 yX4_mergesCells wsX4_mergesCells) := goodIn_app (goodIn_of _ (by decide +kernel)) ggX4_looks_X4_mergesCells
set_option maxRecDepth 20000 in
theorem ggX4_looks_X4_mergesElements : GoodIn wsX4_looks wsX4_mergesElements := goodIn_r _ [23, 8, 9, 10, 11, 6, 12, 2, 1, 13, 14, 15, 16, 24, 25, 26, 27, 28, 29, 30, 31, 32, 33, 34, 35] (by decide +kernel) (by decide +kernel)
set_option maxRecDepth 20000 in
theorem gX4_looks_X4_mergesElements : GoodIn wsX4_looks (wsV RX4 83 RX4 yX4_mergesElements wsX4_mergesElements) := goodIn_app (goodIn_of _ (by decide +kernel)) ggX4_looks_X4_mergesElements
theorem dX4_looks_0 : decode cX4_looks 0 = .ok (.aload_n 0, 1) := by decide +kernel
theorem dX4_looks_1 : decode cX4_looks 1 = .ok (.iconst 0, 1) := by decide +kernel
theorem dX4_looks_2 : decode cX4_looks 2 = .ok (.putfield 72, 3) := by decide +kernel
theorem dX4_looks_5 : decode cX4_looks 5 = .ok (.aload_n 0, 1) := by decide +kernel
theorem dX4_looks_6 : decode cX4_looks 6 = .ok (.iconst 0, 1) := by decide +kernel
theorem dX4_looks_7 : decode cX4_looks 7 = .ok (.putfield 69, 3) := by decide +kernel
theorem dX4_looks_10 : decode cX4_looks 10 = .ok (.aload_n 0, 1) := by decide +kernel
theorem dX4_looks_11 : decode cX4_looks 11 = .ok (.iload_n 1, 1) := by decide +kernel
theorem dX4_looks_12 : decode cX4_looks 12 = .ok (.iload_n 2, 1) := by decide +kernel
theorem dX4_looks_13 : decode cX4_looks 13 = .ok (.iload_n 3, 1) := by decide +kernel
theorem dX4_looks_14 : decode cX4_looks 14 = .ok (.invokevirtual 79, 3) := by decide +kernel
theorem dX4_looks_17 : decode cX4_looks 17 = .ok (.aload_n 0, 1) := by decide +kernel
theorem dX4_looks_18 : decode cX4_looks 18 = .ok (.iload_n 1, 1) := by decide +kernel
theorem dX4_looks_19 : decode cX4_looks 19 = .ok (.iload_n 2, 1) := by decide +kernel
theorem dX4_looks_20 : decode cX4_looks 20 = .ok (.iload_n 3, 1) := by decide +kernel
theorem dX4_looks_21 : decode cX4_looks 21 = .ok (.invokevirtual 83, 3) := by decide +kernel
theorem dX4_looks_24 : decode cX4_looks 24 = .ok (.return_, 1) := by decide +kernel
set_option maxRecDepth 20000 in
theorem ggX4_merges_X4_looks : GoodIn wsX4_merges wsX4_looks := goodIn_r _ [8, 2, 3, 9, 10, 11, 7, 12, 1, 13, 14, 15, 16, 17, 18, 19, 20, 21, 22, 23, 24, 25, 26, 27, 28, 29, 30, 31, 32, 33, 34, 35, 36, 37, 38, 39] (by decide +kernel) (by decide +kernel)
set_option maxRecDepth 20000 in
theorem gX4_merges_X4_looks : GoodIn wsX4_merges (wsV RX4 86 RX4 yX4_looks wsX4_looks) := goodIn_app (goodIn_of _ (by decide +kernel)) ggX4_merges_X4_looks
set_option maxRecDepth 20000 in
theorem ggX4_merges_X4_seenBy : GoodIn wsX4_merges wsX4_seenBy := goodIn_r _ [20, 1, 28, 29, 30, 31, 32, 33, 34, 35, 36, 37, 38, 39] (by decide +kernel) (by decide +kernel)
set_option maxRecDepth 20000 in
theorem gX4_merges_X4_seenBy : GoodIn wsX4_merges (wsV RX4 38 RX4 yX4_seenBy wsX4_seenBy) := goodIn_app (goodIn_of _ (by decide +kernel)) ggX4_merges_X4_seenBy
theorem dX4_merges_0 : decode cX4_merges 0 = .ok (.aload_n 0, 1) := by decide +kernel
theorem dX4_merges_1 : decode cX4_merges 1 = .ok (.iload_n 1, 1) := by decide +kernel
theorem dX4_merges_2 : decode cX4_merges 2 = .ok (.iload_n 2, 1) := by decide +kernel
theorem dX4_merges_3 : decode cX4_merges 3 = .ok (.iconst 1, 1) := by decide +kernel
theorem dX4_merges_4 : decode cX4_merges 4 = .ok (.invokevirtual 86, 3) := by decide +kernel
theorem dX4_merges_7 : decode cX4_merges 7 = .ok (.iconst 0, 1) := by decide +kernel
theorem dX4_merges_8 : decode cX4_merges 8 = .ok (.istore_n 3, 1) := by decide +kernel
theorem dX4_merges_9 : decode cX4_merges 9 = .ok (.iload_n 3, 1) := by decide +kernel
theorem dX4_merges_10 : decode cX4_merges 10 = .ok (.iconst 4, 1) := by decide +kernel
theorem dX4_merges_11 : decode cX4_merges 11 = .ok (.if_icmp .ge 51, 3) := by decide +kernel
theorem dX4_merges_14 : decode cX4_merges 14 = .ok (.aload_n 0, 1) := by decide +kernel
theorem dX4_merges_15 : decode cX4_merges 15 = .ok (.iload_n 1, 1) := by decide +kernel
theorem dX4_merges_16 : decode cX4_merges 16 = .ok (.iload_n 3, 1) := by decide +kernel
theorem dX4_merges_17 : decode cX4_merges 17 = .ok (.invokevirtual 38, 3) := by decide +kernel
theorem dX4_merges_20 : decode cX4_merges 20 = .ok (.istore 4, 2) := by decide +kernel
theorem dX4_merges_22 : decode cX4_merges 22 = .ok (.aload_n 0, 1) := by decide +kernel
theorem dX4_merges_23 : decode cX4_merges 23 = .ok (.getfield 7, 3) := by decide +kernel
theorem dX4_merges_26 : decode cX4_merges 26 = .ok (.iconst 0, 1) := by decide +kernel
theorem dX4_merges_27 : decode cX4_merges 27 = .ok (.iconst 4, 1) := by decide +kernel
theorem dX4_merges_28 : decode cX4_merges 28 = .ok (.iload_n 2, 1) := by decide +kernel
theorem dX4_merges_29 : decode cX4_merges 29 = .ok (.imul, 1) := by decide +kernel
theorem dX4_merges_30 : decode cX4_merges 30 = .ok (.iadd, 1) := by decide +kernel
theorem dX4_merges_31 : decode cX4_merges 31 = .ok (.iload_n 3, 1) := by decide +kernel
theorem dX4_merges_32 : decode cX4_merges 32 = .ok (.iadd, 1) := by decide +kernel
theorem dX4_merges_33 : decode cX4_merges 33 = .ok (.iload 4, 2) := by decide +kernel
theorem dX4_merges_35 : decode cX4_merges 35 = .ok (.aload_n 0, 1) := by decide +kernel
theorem dX4_merges_36 : decode cX4_merges 36 = .ok (.iload_n 2, 1) := by decide +kernel
theorem dX4_merges_37 : decode cX4_merges 37 = .ok (.iload_n 3, 1) := by decide +kernel
theorem dX4_merges_38 : decode cX4_merges 38 = .ok (.invokevirtual 38, 3) := by decide +kernel
theorem dX4_merges_41 : decode cX4_merges 41 = .ok (.if_icmp .le 8, 3) := by decide +kernel
theorem dX4_merges_44 : decode cX4_merges 44 = .ok (.iload 4, 2) := by decide +kernel
theorem dX4_merges_46 : decode cX4_merges 46 = .ok (.goto 9, 3) := by decide +kernel
theorem dX4_merges_49 : decode cX4_merges 49 = .ok (.aload_n 0, 1) := by decide +kernel
theorem dX4_merges_50 : decode cX4_merges 50 = .ok (.iload_n 2, 1) := by decide +kernel
theorem dX4_merges_51 : decode cX4_merges 51 = .ok (.iload_n 3, 1) := by decide +kernel
theorem dX4_merges_52 : decode cX4_merges 52 = .ok (.invokevirtual 38, 3) := by decide +kernel
theorem dX4_merges_55 : decode cX4_merges 55 = .ok (.iastore, 1) := by decide +kernel
theorem dX4_merges_56 : decode cX4_merges 56 = .ok (.iinc 3 1, 3) := by decide +kernel
theorem dX4_merges_59 : decode cX4_merges 59 = .ok (.goto (-50), 3) := by decide +kernel
theorem dX4_merges_62 : decode cX4_merges 62 = .ok (.aload_n 0, 1) := by decide +kernel
theorem dX4_merges_63 : decode cX4_merges 63 = .ok (.getfield 7, 3) := by decide +kernel
theorem dX4_merges_66 : decode cX4_merges 66 = .ok (.bipush 16, 2) := by decide +kernel
theorem dX4_merges_68 : decode cX4_merges 68 = .ok (.iload_n 2, 1) := by decide +kernel
theorem dX4_merges_69 : decode cX4_merges 69 = .ok (.iadd, 1) := by decide +kernel
theorem dX4_merges_70 : decode cX4_merges 70 = .ok (.aload_n 0, 1) := by decide +kernel
theorem dX4_merges_71 : decode cX4_merges 71 = .ok (.getfield 7, 3) := by decide +kernel
theorem dX4_merges_74 : decode cX4_merges 74 = .ok (.bipush 16, 2) := by decide +kernel
theorem dX4_merges_76 : decode cX4_merges 76 = .ok (.iload_n 1, 1) := by decide +kernel
theorem dX4_merges_77 : decode cX4_merges 77 = .ok (.iadd, 1) := by decide +kernel
theorem dX4_merges_78 : decode cX4_merges 78 = .ok (.iaload, 1) := by decide +kernel
theorem dX4_merges_79 : decode cX4_merges 79 = .ok (.aload_n 0, 1) := by decide +kernel
theorem dX4_merges_80 : decode cX4_merges 80 = .ok (.getfield 7, 3) := by decide +kernel
theorem dX4_merges_83 : decode cX4_merges 83 = .ok (.bipush 16, 2) := by decide +kernel
theorem dX4_merges_85 : decode cX4_merges 85 = .ok (.iload_n 2, 1) := by decide +kernel
theorem dX4_merges_86 : decode cX4_merges 86 = .ok (.iadd, 1) := by decide +kernel
theorem dX4_merges_87 : decode cX4_merges 87 = .ok (.iaload, 1) := by decide +kernel
theorem dX4_merges_88 : decode cX4_merges 88 = .ok (.if_icmp .le 15, 3) := by decide +kernel
theorem dX4_merges_91 : decode cX4_merges 91 = .ok (.aload_n 0, 1) := by decide +kernel
theorem dX4_merges_92 : decode cX4_merges 92 = .ok (.getfield 7, 3) := by decide +kernel
theorem dX4_merges_95 : decode cX4_merges 95 = .ok (.bipush 16, 2) := by decide +kernel
theorem dX4_merges_97 : decode cX4_merges 97 = .ok (.iload_n 1, 1) := by decide +kernel
theorem dX4_merges_98 : decode cX4_merges 98 = .ok (.iadd, 1) := by decide +kernel
theorem dX4_merges_99 : decode cX4_merges 99 = .ok (.iaload, 1) := by decide +kernel
theorem dX4_merges_100 : decode cX4_merges 100 = .ok (.goto 12, 3) := by decide +kernel
theorem dX4_merges_103 : decode cX4_merges 103 = .ok (.aload_n 0, 1) := by decide +kernel
theorem dX4_merges_104 : decode cX4_merges 104 = .ok (.getfield 7, 3) := by decide +kernel
theorem dX4_merges_107 : decode cX4_merges 107 = .ok (.bipush 16, 2) := by decide +kernel
theorem dX4_merges_109 : decode cX4_merges 109 = .ok (.iload_n 2, 1) := by decide +kernel
theorem dX4_merges_110 : decode cX4_merges 110 = .ok (.iadd, 1) := by decide +kernel
theorem dX4_merges_111 : decode cX4_merges 111 = .ok (.iaload, 1) := by decide +kernel
theorem dX4_merges_112 : decode cX4_merges 112 = .ok (.iastore, 1) := by decide +kernel
theorem dX4_merges_113 : decode cX4_merges 113 = .ok (.aload_n 0, 1) := by decide +kernel
theorem dX4_merges_114 : decode cX4_merges 114 = .ok (.getfield 7, 3) := by decide +kernel
theorem dX4_merges_117 : decode cX4_merges 117 = .ok (.bipush 20, 2) := by decide +kernel
theorem dX4_merges_119 : decode cX4_merges 119 = .ok (.iload_n 1, 1) := by decide +kernel
theorem dX4_merges_120 : decode cX4_merges 120 = .ok (.iastore, 1) := by decide +kernel
theorem dX4_merges_121 : decode cX4_merges 121 = .ok (.aload_n 0, 1) := by decide +kernel
theorem dX4_merges_122 : decode cX4_merges 122 = .ok (.getfield 7, 3) := by decide +kernel
theorem dX4_merges_125 : decode cX4_merges 125 = .ok (.bipush 21, 2) := by decide +kernel
theorem dX4_merges_127 : decode cX4_merges 127 = .ok (.iload_n 2, 1) := by decide +kernel
theorem dX4_merges_128 : decode cX4_merges 128 = .ok (.iastore, 1) := by decide +kernel
theorem dX4_merges_129 : decode cX4_merges 129 = .ok (.aload_n 0, 1) := by decide +kernel
theorem dX4_merges_130 : decode cX4_merges 130 = .ok (.getfield 7, 3) := by decide +kernel
theorem dX4_merges_133 : decode cX4_merges 133 = .ok (.bipush 22, 2) := by decide +kernel
theorem dX4_merges_135 : decode cX4_merges 135 = .ok (.aload_n 0, 1) := by decide +kernel
theorem dX4_merges_136 : decode cX4_merges 136 = .ok (.getfield 72, 3) := by decide +kernel
theorem dX4_merges_139 : decode cX4_merges 139 = .ok (.iastore, 1) := by decide +kernel
theorem dX4_merges_140 : decode cX4_merges 140 = .ok (.aload_n 0, 1) := by decide +kernel
theorem dX4_merges_141 : decode cX4_merges 141 = .ok (.getfield 7, 3) := by decide +kernel
theorem dX4_merges_144 : decode cX4_merges 144 = .ok (.bipush 23, 2) := by decide +kernel
theorem dX4_merges_146 : decode cX4_merges 146 = .ok (.aload_n 0, 1) := by decide +kernel
theorem dX4_merges_147 : decode cX4_merges 147 = .ok (.getfield 69, 3) := by decide +kernel
theorem dX4_merges_150 : decode cX4_merges 150 = .ok (.iastore, 1) := by decide +kernel
theorem dX4_merges_151 : decode cX4_merges 151 = .ok (.aload_n 0, 1) := by decide +kernel
theorem dX4_merges_152 : decode cX4_merges 152 = .ok (.getfield 72, 3) := by decide +kernel
theorem dX4_merges_155 : decode cX4_merges 155 = .ok (.aload_n 0, 1) := by decide +kernel
theorem dX4_merges_156 : decode cX4_merges 156 = .ok (.getfield 69, 3) := by decide +kernel
theorem dX4_merges_159 : decode cX4_merges 159 = .ok (.iadd, 1) := by decide +kernel
theorem dX4_merges_160 : decode cX4_merges 160 = .ok (.ireturn, 1) := by decide +kernel
theorem dX4_copies_0 : decode cX4_copies 0 = .ok (.iconst 0, 1) := by decide +kernel
theorem dX4_copies_1 : decode cX4_copies 1 = .ok (.istore_n 3, 1) := by decide +kernel
theorem dX4_copies_2 : decode cX4_copies 2 = .ok (.iload_n 3, 1) := by decide +kernel
theorem dX4_copies_3 : decode cX4_copies 3 = .ok (.sipush 2424, 3) := by decide +kernel
theorem dX4_copies_6 : decode cX4_copies 6 = .ok (.if_icmp .ge 33, 3) := by decide +kernel
theorem dX4_copies_9 : decode cX4_copies 9 = .ok (.aload_n 0, 1) := by decide +kernel
theorem dX4_copies_10 : decode cX4_copies 10 = .ok (.getfield 7, 3) := by decide +kernel
theorem dX4_copies_13 : decode cX4_copies 13 = .ok (.sipush 2424, 3) := by decide +kernel
theorem dX4_copies_16 : decode cX4_copies 16 = .ok (.iload_n 2, 1) := by decide +kernel
theorem dX4_copies_17 : decode cX4_copies 17 = .ok (.imul, 1) := by decide +kernel
theorem dX4_copies_18 : decode cX4_copies 18 = .ok (.iload_n 3, 1) := by decide +kernel
theorem dX4_copies_19 : decode cX4_copies 19 = .ok (.iadd, 1) := by decide +kernel
theorem dX4_copies_20 : decode cX4_copies 20 = .ok (.aload_n 0, 1) := by decide +kernel
theorem dX4_copies_21 : decode cX4_copies 21 = .ok (.getfield 7, 3) := by decide +kernel
theorem dX4_copies_24 : decode cX4_copies 24 = .ok (.sipush 2424, 3) := by decide +kernel
theorem dX4_copies_27 : decode cX4_copies 27 = .ok (.iload_n 1, 1) := by decide +kernel
theorem dX4_copies_28 : decode cX4_copies 28 = .ok (.imul, 1) := by decide +kernel
theorem dX4_copies_29 : decode cX4_copies 29 = .ok (.iload_n 3, 1) := by decide +kernel
theorem dX4_copies_30 : decode cX4_copies 30 = .ok (.iadd, 1) := by decide +kernel
theorem dX4_copies_31 : decode cX4_copies 31 = .ok (.iaload, 1) := by decide +kernel
theorem dX4_copies_32 : decode cX4_copies 32 = .ok (.iastore, 1) := by decide +kernel
theorem dX4_copies_33 : decode cX4_copies 33 = .ok (.iinc 3 1, 3) := by decide +kernel
theorem dX4_copies_36 : decode cX4_copies 36 = .ok (.goto (-34), 3) := by decide +kernel
theorem dX4_copies_39 : decode cX4_copies 39 = .ok (.return_, 1) := by decide +kernel
set_option maxRecDepth 20000 in
theorem ggX4_keeps_X4_copies : GoodIn wsX4_keeps wsX4_copies := goodIn_r _ [6, 7, 8, 9, 10, 11, 12, 13, 14, 15, 16, 17, 18, 19] (by decide +kernel) (by decide +kernel)
set_option maxRecDepth 20000 in
theorem gX4_keeps_X4_copies : GoodIn wsX4_keeps (wsV RX4 92 RX4 yX4_copies wsX4_copies) := goodIn_app (goodIn_of _ (by decide +kernel)) ggX4_keeps_X4_copies
theorem dX4_keeps_0 : decode cX4_keeps 0 = .ok (.iconst 1, 1) := by decide +kernel
theorem dX4_keeps_1 : decode cX4_keeps 1 = .ok (.istore_n 1, 1) := by decide +kernel
theorem dX4_keeps_2 : decode cX4_keeps 2 = .ok (.iload_n 1, 1) := by decide +kernel
theorem dX4_keeps_3 : decode cX4_keeps 3 = .ok (.bipush 6, 2) := by decide +kernel
theorem dX4_keeps_5 : decode cX4_keeps 5 = .ok (.if_icmp .ge 26, 3) := by decide +kernel
theorem dX4_keeps_8 : decode cX4_keeps 8 = .ok (.aload_n 0, 1) := by decide +kernel
theorem dX4_keeps_9 : decode cX4_keeps 9 = .ok (.getfield 89, 3) := by decide +kernel
theorem dX4_keeps_12 : decode cX4_keeps 12 = .ok (.bipush 6, 2) := by decide +kernel
theorem dX4_keeps_14 : decode cX4_keeps 14 = .ok (.if_icmp .ne 17, 3) := by decide +kernel
theorem dX4_keeps_17 : decode cX4_keeps 17 = .ok (.aload_n 0, 1) := by decide +kernel
theorem dX4_keeps_18 : decode cX4_keeps 18 = .ok (.iload_n 1, 1) := by decide +kernel
theorem dX4_keeps_19 : decode cX4_keeps 19 = .ok (.iconst 1, 1) := by decide +kernel
theorem dX4_keeps_20 : decode cX4_keeps 20 = .ok (.iadd, 1) := by decide +kernel
theorem dX4_keeps_21 : decode cX4_keeps 21 = .ok (.iload_n 1, 1) := by decide +kernel
theorem dX4_keeps_22 : decode cX4_keeps 22 = .ok (.invokevirtual 92, 3) := by decide +kernel
theorem dX4_keeps_25 : decode cX4_keeps 25 = .ok (.iinc 1 1, 3) := by decide +kernel
theorem dX4_keeps_28 : decode cX4_keeps 28 = .ok (.goto (-26), 3) := by decide +kernel
theorem dX4_keeps_31 : decode cX4_keeps 31 = .ok (.aload_n 0, 1) := by decide +kernel
theorem dX4_keeps_32 : decode cX4_keeps 32 = .ok (.dup, 1) := by decide +kernel
theorem dX4_keeps_33 : decode cX4_keeps 33 = .ok (.getfield 89, 3) := by decide +kernel
theorem dX4_keeps_36 : decode cX4_keeps 36 = .ok (.aload_n 0, 1) := by decide +kernel
theorem dX4_keeps_37 : decode cX4_keeps 37 = .ok (.getfield 89, 3) := by decide +kernel
theorem dX4_keeps_40 : decode cX4_keeps 40 = .ok (.bipush 6, 2) := by decide +kernel
theorem dX4_keeps_42 : decode cX4_keeps 42 = .ok (.if_icmp .ge 7, 3) := by decide +kernel
theorem dX4_keeps_45 : decode cX4_keeps 45 = .ok (.iconst 1, 1) := by decide +kernel
theorem dX4_keeps_46 : decode cX4_keeps 46 = .ok (.goto 4, 3) := by decide +kernel
theorem dX4_keeps_49 : decode cX4_keeps 49 = .ok (.iconst 0, 1) := by decide +kernel
theorem dX4_keeps_50 : decode cX4_keeps 50 = .ok (.iadd, 1) := by decide +kernel
theorem dX4_keeps_51 : decode cX4_keeps 51 = .ok (.putfield 89, 3) := by decide +kernel
theorem dX4_keeps_54 : decode cX4_keeps 54 = .ok (.aload_n 0, 1) := by decide +kernel
theorem dX4_keeps_55 : decode cX4_keeps 55 = .ok (.iconst 0, 1) := by decide +kernel
theorem dX4_keeps_56 : decode cX4_keeps 56 = .ok (.aload_n 0, 1) := by decide +kernel
theorem dX4_keeps_57 : decode cX4_keeps 57 = .ok (.getfield 89, 3) := by decide +kernel
theorem dX4_keeps_60 : decode cX4_keeps 60 = .ok (.invokevirtual 92, 3) := by decide +kernel
theorem dX4_keeps_63 : decode cX4_keeps 63 = .ok (.return_, 1) := by decide +kernel
set_option maxRecDepth 20000 in
theorem ggX4_put_X4_isRow : GoodIn wsX4_put wsX4_isRow := goodIn_r _ [4, 5, 6, 3, 7, 8, 9, 10] (by decide +kernel) (by decide +kernel)
set_option maxRecDepth 20000 in
theorem gX4_put_X4_isRow : GoodIn wsX4_put (va_wsS RX4 96 yX4_isRow wsX4_isRow) := goodIn_app (goodIn_of _ (by decide +kernel)) ggX4_put_X4_isRow
set_option maxRecDepth 20000 in
theorem ggX4_put_X4_in : GoodIn wsX4_put wsX4_in := goodIn_r _ [10] (by decide +kernel) (by decide +kernel)
set_option maxRecDepth 20000 in
theorem gX4_put_X4_in : GoodIn wsX4_put (va_wsS RX4 20 yX4_in wsX4_in) := goodIn_app (goodIn_of _ (by decide +kernel)) ggX4_put_X4_in
set_option maxRecDepth 20000 in
theorem ggX4_put_X4_holds : GoodIn wsX4_put wsX4_holds := goodIn_r _ [14, 15, 64, 65, 66, 67, 68, 69, 70, 71, 72, 73, 74, 75] (by decide +kernel) (by decide +kernel)
set_option maxRecDepth 20000 in
theorem gX4_put_X4_holds : GoodIn wsX4_put (wsV RX4 100 RX4 yX4_holds wsX4_holds) := goodIn_app (goodIn_of _ (by decide +kernel)) ggX4_put_X4_holds
set_option maxRecDepth 20000 in
theorem ggX4_put_X4_keeps : GoodIn wsX4_put wsX4_keeps := goodIn_r _ [19, 20, 21, 22, 23, 3, 24, 25, 64, 65, 66, 67, 68, 69, 70, 71, 72, 73, 74, 75] (by decide +kernel) (by decide +kernel)
set_option maxRecDepth 20000 in
theorem gX4_put_X4_keeps : GoodIn wsX4_put (wsV RX4 103 RX4 yX4_keeps wsX4_keeps) := goodIn_app (goodIn_of _ (by decide +kernel)) ggX4_put_X4_keeps
set_option maxRecDepth 20000 in
theorem ggX4_put_X4_puts : GoodIn wsX4_put wsX4_puts := goodIn_r _ [29, 30, 31, 32, 3, 33, 25, 34, 35, 36, 37, 38, 39, 40, 41, 42, 43, 44, 45, 46, 47, 48, 49, 50, 51, 52, 53, 54, 55, 56, 57, 58, 59, 60, 61, 62, 63, 64, 65, 66, 67, 68, 69, 70, 71, 72, 73, 74, 75] (by decide +kernel) (by decide +kernel)
set_option maxRecDepth 20000 in
theorem gX4_put_X4_puts : GoodIn wsX4_put (wsV RX4 106 RX4 yX4_puts wsX4_puts) := goodIn_app (goodIn_of _ (by decide +kernel)) ggX4_put_X4_puts
theorem dX4_put_0 : decode cX4_put 0 = .ok (.iload_n 1, 1) := by decide +kernel
theorem dX4_put_1 : decode cX4_put 1 = .ok (.iload_n 2, 1) := by decide +kernel
theorem dX4_put_2 : decode cX4_put 2 = .ok (.invokestatic 96, 3) := by decide +kernel
theorem dX4_put_5 : decode cX4_put 5 = .ok (.ifCond .eq 16, 3) := by decide +kernel
theorem dX4_put_8 : decode cX4_put 8 = .ok (.iload_n 3, 1) := by decide +kernel
theorem dX4_put_9 : decode cX4_put 9 = .ok (.iconst 0, 1) := by decide +kernel
theorem dX4_put_10 : decode cX4_put 10 = .ok (.iconst 2, 1) := by decide +kernel
theorem dX4_put_11 : decode cX4_put 11 = .ok (.invokestatic 20, 3) := by decide +kernel
theorem dX4_put_14 : decode cX4_put 14 = .ok (.ifCond .eq 7, 3) := by decide +kernel
theorem dX4_put_17 : decode cX4_put 17 = .ok (.iconst 1, 1) := by decide +kernel
theorem dX4_put_18 : decode cX4_put 18 = .ok (.goto 4, 3) := by decide +kernel
theorem dX4_put_21 : decode cX4_put 21 = .ok (.iconst 0, 1) := by decide +kernel
theorem dX4_put_22 : decode cX4_put 22 = .ok (.istore 5, 2) := by decide +kernel
theorem dX4_put_24 : decode cX4_put 24 = .ok (.aload_n 0, 1) := by decide +kernel
theorem dX4_put_25 : decode cX4_put 25 = .ok (.iload 5, 2) := by decide +kernel
theorem dX4_put_27 : decode cX4_put 27 = .ok (.ifCond .ne 7, 3) := by decide +kernel
theorem dX4_put_30 : decode cX4_put 30 = .ok (.iconst 1, 1) := by decide +kernel
theorem dX4_put_31 : decode cX4_put 31 = .ok (.goto 20, 3) := by decide +kernel
theorem dX4_put_34 : decode cX4_put 34 = .ok (.iload 4, 2) := by decide +kernel
theorem dX4_put_36 : decode cX4_put 36 = .ok (.iconst 0, 1) := by decide +kernel
theorem dX4_put_37 : decode cX4_put 37 = .ok (.sipush 999, 3) := by decide +kernel
theorem dX4_put_40 : decode cX4_put 40 = .ok (.invokestatic 20, 3) := by decide +kernel
theorem dX4_put_43 : decode cX4_put 43 = .ok (.ifCond .ne 7, 3) := by decide +kernel
theorem dX4_put_46 : decode cX4_put 46 = .ok (.iconst 2, 1) := by decide +kernel
theorem dX4_put_47 : decode cX4_put 47 = .ok (.goto 4, 3) := by decide +kernel
theorem dX4_put_50 : decode cX4_put 50 = .ok (.iconst 0, 1) := by decide +kernel
theorem dX4_put_51 : decode cX4_put 51 = .ok (.invokevirtual 100, 3) := by decide +kernel
theorem dX4_put_54 : decode cX4_put 54 = .ok (.ifCond .ne 5, 3) := by decide +kernel
theorem dX4_put_57 : decode cX4_put 57 = .ok (.iconst 0, 1) := by decide +kernel
theorem dX4_put_58 : decode cX4_put 58 = .ok (.ireturn, 1) := by decide +kernel
theorem dX4_put_59 : decode cX4_put 59 = .ok (.aload_n 0, 1) := by decide +kernel
theorem dX4_put_60 : decode cX4_put 60 = .ok (.invokevirtual 103, 3) := by decide +kernel
theorem dX4_put_63 : decode cX4_put 63 = .ok (.aload_n 0, 1) := by decide +kernel
theorem dX4_put_64 : decode cX4_put 64 = .ok (.iload_n 1, 1) := by decide +kernel
theorem dX4_put_65 : decode cX4_put 65 = .ok (.iload_n 2, 1) := by decide +kernel
theorem dX4_put_66 : decode cX4_put 66 = .ok (.iload_n 3, 1) := by decide +kernel
theorem dX4_put_67 : decode cX4_put 67 = .ok (.iload 4, 2) := by decide +kernel
theorem dX4_put_69 : decode cX4_put 69 = .ok (.invokevirtual 106, 3) := by decide +kernel
theorem dX4_put_72 : decode cX4_put 72 = .ok (.ireturn, 1) := by decide +kernel
set_option maxRecDepth 20000 in
theorem ggX4_add_X4_isRow : GoodIn wsX4_add wsX4_isRow := goodIn_r _ [4, 5, 6, 3, 7, 8, 9, 10] (by decide +kernel) (by decide +kernel)
set_option maxRecDepth 20000 in
theorem gX4_add_X4_isRow : GoodIn wsX4_add (va_wsS RX4 96 yX4_isRow wsX4_isRow) := goodIn_app (goodIn_of _ (by decide +kernel)) ggX4_add_X4_isRow
set_option maxRecDepth 20000 in
theorem ggX4_add_X4_in : GoodIn wsX4_add wsX4_in := goodIn_r _ [10] (by decide +kernel) (by decide +kernel)
set_option maxRecDepth 20000 in
theorem gX4_add_X4_in : GoodIn wsX4_add (va_wsS RX4 20 yX4_in wsX4_in) := goodIn_app (goodIn_of _ (by decide +kernel)) ggX4_add_X4_in
set_option maxRecDepth 20000 in
theorem ggX4_add_X4_holds : GoodIn wsX4_add wsX4_holds := goodIn_r _ [14, 15, 60, 61, 62, 63, 64, 65, 66, 67, 68, 69, 70, 71] (by decide +kernel) (by decide +kernel)
set_option maxRecDepth 20000 in
theorem gX4_add_X4_holds : GoodIn wsX4_add (wsV RX4 100 RX4 yX4_holds wsX4_holds) := goodIn_app (goodIn_of _ (by decide +kernel)) ggX4_add_X4_holds
set_option maxRecDepth 20000 in
theorem ggX4_add_X4_keeps : GoodIn wsX4_add wsX4_keeps := goodIn_r _ [19, 20, 21, 22, 23, 3, 24, 25, 60, 61, 62, 63, 64, 65, 66, 67, 68, 69, 70, 71] (by decide +kernel) (by decide +kernel)
set_option maxRecDepth 20000 in
theorem gX4_add_X4_keeps : GoodIn wsX4_add (wsV RX4 103 RX4 yX4_keeps wsX4_keeps) := goodIn_app (goodIn_of _ (by decide +kernel)) ggX4_add_X4_keeps
set_option maxRecDepth 20000 in
theorem ggX4_add_X4_adds : GoodIn wsX4_add wsX4_adds := goodIn_r _ [29, 30, 31, 32, 3, 33, 25, 34, 35, 36, 37, 38, 39, 40, 41, 42, 43, 44, 45, 46, 47, 48, 49, 50, 51, 52, 53, 54, 55, 56, 57, 58, 59, 60, 61, 62, 63, 64, 65, 66, 67, 68, 69, 70, 71] (by decide +kernel) (by decide +kernel)
set_option maxRecDepth 20000 in
theorem gX4_add_X4_adds : GoodIn wsX4_add (wsV RX4 109 RX4 yX4_adds wsX4_adds) := goodIn_app (goodIn_of _ (by decide +kernel)) ggX4_add_X4_adds
theorem dX4_add_0 : decode cX4_add 0 = .ok (.aload_n 0, 1) := by decide +kernel
theorem dX4_add_1 : decode cX4_add 1 = .ok (.iload_n 1, 1) := by decide +kernel
theorem dX4_add_2 : decode cX4_add 2 = .ok (.iload_n 2, 1) := by decide +kernel
theorem dX4_add_3 : decode cX4_add 3 = .ok (.invokestatic 96, 3) := by decide +kernel
theorem dX4_add_6 : decode cX4_add 6 = .ok (.ifCond .ne 7, 3) := by decide +kernel
theorem dX4_add_9 : decode cX4_add 9 = .ok (.iconst 1, 1) := by decide +kernel
theorem dX4_add_10 : decode cX4_add 10 = .ok (.goto 23, 3) := by decide +kernel
theorem dX4_add_13 : decode cX4_add 13 = .ok (.iload_n 3, 1) := by decide +kernel
theorem dX4_add_14 : decode cX4_add 14 = .ok (.ifCond .eq 14, 3) := by decide +kernel
theorem dX4_add_17 : decode cX4_add 17 = .ok (.iload_n 3, 1) := by decide +kernel
theorem dX4_add_18 : decode cX4_add 18 = .ok (.bipush (-99), 2) := by decide +kernel
theorem dX4_add_20 : decode cX4_add 20 = .ok (.bipush 99, 2) := by decide +kernel
theorem dX4_add_22 : decode cX4_add 22 = .ok (.invokestatic 20, 3) := by decide +kernel
theorem dX4_add_25 : decode cX4_add 25 = .ok (.ifCond .ne 7, 3) := by decide +kernel
theorem dX4_add_28 : decode cX4_add 28 = .ok (.iconst 2, 1) := by decide +kernel
theorem dX4_add_29 : decode cX4_add 29 = .ok (.goto 4, 3) := by decide +kernel
theorem dX4_add_32 : decode cX4_add 32 = .ok (.iconst 0, 1) := by decide +kernel
theorem dX4_add_33 : decode cX4_add 33 = .ok (.invokevirtual 100, 3) := by decide +kernel
theorem dX4_add_36 : decode cX4_add 36 = .ok (.ifCond .ne 5, 3) := by decide +kernel
theorem dX4_add_39 : decode cX4_add 39 = .ok (.iconst 0, 1) := by decide +kernel
theorem dX4_add_40 : decode cX4_add 40 = .ok (.ireturn, 1) := by decide +kernel
theorem dX4_add_41 : decode cX4_add 41 = .ok (.aload_n 0, 1) := by decide +kernel
theorem dX4_add_42 : decode cX4_add 42 = .ok (.invokevirtual 103, 3) := by decide +kernel
theorem dX4_add_45 : decode cX4_add 45 = .ok (.aload_n 0, 1) := by decide +kernel
theorem dX4_add_46 : decode cX4_add 46 = .ok (.iload_n 1, 1) := by decide +kernel
theorem dX4_add_47 : decode cX4_add 47 = .ok (.iload_n 2, 1) := by decide +kernel
theorem dX4_add_48 : decode cX4_add 48 = .ok (.iload_n 3, 1) := by decide +kernel
theorem dX4_add_49 : decode cX4_add 49 = .ok (.invokevirtual 109, 3) := by decide +kernel
theorem dX4_add_52 : decode cX4_add 52 = .ok (.ireturn, 1) := by decide +kernel
set_option maxRecDepth 20000 in
theorem ggX4_include_X4_isRow : GoodIn wsX4_include wsX4_isRow := goodIn_r _ [4, 5, 6, 3, 7, 8, 9, 10] (by decide +kernel) (by decide +kernel)
set_option maxRecDepth 20000 in
theorem gX4_include_X4_isRow : GoodIn wsX4_include (va_wsS RX4 96 yX4_isRow wsX4_isRow) := goodIn_app (goodIn_of _ (by decide +kernel)) ggX4_include_X4_isRow
set_option maxRecDepth 20000 in
theorem ggX4_include_X4_in : GoodIn wsX4_include wsX4_in := goodIn_r _ [10] (by decide +kernel) (by decide +kernel)
set_option maxRecDepth 20000 in
theorem gX4_include_X4_in : GoodIn wsX4_include (va_wsS RX4 20 yX4_in wsX4_in) := goodIn_app (goodIn_of _ (by decide +kernel)) ggX4_include_X4_in
set_option maxRecDepth 20000 in
theorem ggX4_include_X4_holds : GoodIn wsX4_include wsX4_holds := goodIn_r _ [14, 15, 45, 46, 47, 48, 49, 50, 51, 52, 53, 54, 55, 56] (by decide +kernel) (by decide +kernel)
set_option maxRecDepth 20000 in
theorem gX4_include_X4_holds : GoodIn wsX4_include (wsV RX4 100 RX4 yX4_holds wsX4_holds) := goodIn_app (goodIn_of _ (by decide +kernel)) ggX4_include_X4_holds
set_option maxRecDepth 20000 in
theorem ggX4_include_X4_keeps : GoodIn wsX4_include wsX4_keeps := goodIn_r _ [19, 20, 21, 22, 23, 3, 24, 25, 45, 46, 47, 48, 49, 50, 51, 52, 53, 54, 55, 56] (by decide +kernel) (by decide +kernel)
set_option maxRecDepth 20000 in
theorem gX4_include_X4_keeps : GoodIn wsX4_include (wsV RX4 103 RX4 yX4_keeps wsX4_keeps) := goodIn_app (goodIn_of _ (by decide +kernel)) ggX4_include_X4_keeps
set_option maxRecDepth 20000 in
theorem ggX4_include_X4_includes : GoodIn wsX4_include wsX4_includes := goodIn_r _ [29, 25, 30, 31, 32, 3, 33, 34, 35, 36, 37, 38, 39, 40, 41, 42, 43, 44, 45, 46, 47, 48, 49, 50, 51, 52, 53, 54, 55, 56] (by decide +kernel) (by decide +kernel)
set_option maxRecDepth 20000 in
theorem gX4_include_X4_includes : GoodIn wsX4_include (wsV RX4 112 RX4 yX4_includes wsX4_includes) := goodIn_app (goodIn_of _ (by decide +kernel)) ggX4_include_X4_includes
theorem dX4_include_0 : decode cX4_include 0 = .ok (.aload_n 0, 1) := by decide +kernel
theorem dX4_include_1 : decode cX4_include 1 = .ok (.iload_n 1, 1) := by decide +kernel
theorem dX4_include_2 : decode cX4_include 2 = .ok (.iload_n 2, 1) := by decide +kernel
theorem dX4_include_3 : decode cX4_include 3 = .ok (.invokestatic 96, 3) := by decide +kernel
theorem dX4_include_6 : decode cX4_include 6 = .ok (.ifCond .ne 7, 3) := by decide +kernel
theorem dX4_include_9 : decode cX4_include 9 = .ok (.iconst 1, 1) := by decide +kernel
theorem dX4_include_10 : decode cX4_include 10 = .ok (.goto 18, 3) := by decide +kernel
theorem dX4_include_13 : decode cX4_include 13 = .ok (.iload_n 3, 1) := by decide +kernel
theorem dX4_include_14 : decode cX4_include 14 = .ok (.iconst 0, 1) := by decide +kernel
theorem dX4_include_15 : decode cX4_include 15 = .ok (.bipush 15, 2) := by decide +kernel
theorem dX4_include_17 : decode cX4_include 17 = .ok (.invokestatic 20, 3) := by decide +kernel
theorem dX4_include_20 : decode cX4_include 20 = .ok (.ifCond .ne 7, 3) := by decide +kernel
theorem dX4_include_23 : decode cX4_include 23 = .ok (.iconst 2, 1) := by decide +kernel
theorem dX4_include_24 : decode cX4_include 24 = .ok (.goto 4, 3) := by decide +kernel
theorem dX4_include_27 : decode cX4_include 27 = .ok (.iconst 0, 1) := by decide +kernel
theorem dX4_include_28 : decode cX4_include 28 = .ok (.invokevirtual 100, 3) := by decide +kernel
theorem dX4_include_31 : decode cX4_include 31 = .ok (.ifCond .ne 5, 3) := by decide +kernel
theorem dX4_include_34 : decode cX4_include 34 = .ok (.iconst 0, 1) := by decide +kernel
theorem dX4_include_35 : decode cX4_include 35 = .ok (.ireturn, 1) := by decide +kernel
theorem dX4_include_36 : decode cX4_include 36 = .ok (.aload_n 0, 1) := by decide +kernel
theorem dX4_include_37 : decode cX4_include 37 = .ok (.invokevirtual 103, 3) := by decide +kernel
theorem dX4_include_40 : decode cX4_include 40 = .ok (.aload_n 0, 1) := by decide +kernel
theorem dX4_include_41 : decode cX4_include 41 = .ok (.iload_n 1, 1) := by decide +kernel
theorem dX4_include_42 : decode cX4_include 42 = .ok (.iload_n 2, 1) := by decide +kernel
theorem dX4_include_43 : decode cX4_include 43 = .ok (.iload_n 3, 1) := by decide +kernel
theorem dX4_include_44 : decode cX4_include 44 = .ok (.invokevirtual 112, 3) := by decide +kernel
theorem dX4_include_47 : decode cX4_include 47 = .ok (.ireturn, 1) := by decide +kernel
set_option maxRecDepth 20000 in
theorem ggX4_exclude_X4_isRow : GoodIn wsX4_exclude wsX4_isRow := goodIn_r _ [4, 5, 6, 3, 7, 8, 9, 10] (by decide +kernel) (by decide +kernel)
set_option maxRecDepth 20000 in
theorem gX4_exclude_X4_isRow : GoodIn wsX4_exclude (va_wsS RX4 96 yX4_isRow wsX4_isRow) := goodIn_app (goodIn_of _ (by decide +kernel)) ggX4_exclude_X4_isRow
set_option maxRecDepth 20000 in
theorem ggX4_exclude_X4_in : GoodIn wsX4_exclude wsX4_in := goodIn_r _ [10] (by decide +kernel) (by decide +kernel)
set_option maxRecDepth 20000 in
theorem gX4_exclude_X4_in : GoodIn wsX4_exclude (va_wsS RX4 20 yX4_in wsX4_in) := goodIn_app (goodIn_of _ (by decide +kernel)) ggX4_exclude_X4_in
set_option maxRecDepth 20000 in
theorem ggX4_exclude_X4_holds : GoodIn wsX4_exclude wsX4_holds := goodIn_r _ [14, 15, 41, 42, 43, 44, 45, 46, 47, 48, 49, 50, 51, 52] (by decide +kernel) (by decide +kernel)
set_option maxRecDepth 20000 in
theorem gX4_exclude_X4_holds : GoodIn wsX4_exclude (wsV RX4 100 RX4 yX4_holds wsX4_holds) := goodIn_app (goodIn_of _ (by decide +kernel)) ggX4_exclude_X4_holds
set_option maxRecDepth 20000 in
theorem ggX4_exclude_X4_keeps : GoodIn wsX4_exclude wsX4_keeps := goodIn_r _ [19, 20, 21, 22, 23, 3, 24, 25, 41, 42, 43, 44, 45, 46, 47, 48, 49, 50, 51, 52] (by decide +kernel) (by decide +kernel)
set_option maxRecDepth 20000 in
theorem gX4_exclude_X4_keeps : GoodIn wsX4_exclude (wsV RX4 103 RX4 yX4_keeps wsX4_keeps) := goodIn_app (goodIn_of _ (by decide +kernel)) ggX4_exclude_X4_keeps
set_option maxRecDepth 20000 in
theorem ggX4_exclude_X4_excludes : GoodIn wsX4_exclude wsX4_excludes := goodIn_r _ [29, 30, 31, 32, 3, 33, 25, 34, 35, 36, 37, 38, 39, 40, 41, 42, 43, 44, 45, 46, 47, 48, 49, 50, 51, 52] (by decide +kernel) (by decide +kernel)
set_option maxRecDepth 20000 in
theorem gX4_exclude_X4_excludes : GoodIn wsX4_exclude (wsV RX4 115 RX4 yX4_excludes wsX4_excludes) := goodIn_app (goodIn_of _ (by decide +kernel)) ggX4_exclude_X4_excludes
theorem dX4_exclude_0 : decode cX4_exclude 0 = .ok (.aload_n 0, 1) := by decide +kernel
theorem dX4_exclude_1 : decode cX4_exclude 1 = .ok (.iload_n 1, 1) := by decide +kernel
theorem dX4_exclude_2 : decode cX4_exclude 2 = .ok (.iload_n 2, 1) := by decide +kernel
theorem dX4_exclude_3 : decode cX4_exclude 3 = .ok (.invokestatic 96, 3) := by decide +kernel
theorem dX4_exclude_6 : decode cX4_exclude 6 = .ok (.ifCond .ne 7, 3) := by decide +kernel
theorem dX4_exclude_9 : decode cX4_exclude 9 = .ok (.iconst 1, 1) := by decide +kernel
theorem dX4_exclude_10 : decode cX4_exclude 10 = .ok (.goto 18, 3) := by decide +kernel
theorem dX4_exclude_13 : decode cX4_exclude 13 = .ok (.iload_n 3, 1) := by decide +kernel
theorem dX4_exclude_14 : decode cX4_exclude 14 = .ok (.iconst 0, 1) := by decide +kernel
theorem dX4_exclude_15 : decode cX4_exclude 15 = .ok (.bipush 15, 2) := by decide +kernel
theorem dX4_exclude_17 : decode cX4_exclude 17 = .ok (.invokestatic 20, 3) := by decide +kernel
theorem dX4_exclude_20 : decode cX4_exclude 20 = .ok (.ifCond .ne 7, 3) := by decide +kernel
theorem dX4_exclude_23 : decode cX4_exclude 23 = .ok (.iconst 2, 1) := by decide +kernel
theorem dX4_exclude_24 : decode cX4_exclude 24 = .ok (.goto 4, 3) := by decide +kernel
theorem dX4_exclude_27 : decode cX4_exclude 27 = .ok (.iconst 0, 1) := by decide +kernel
theorem dX4_exclude_28 : decode cX4_exclude 28 = .ok (.invokevirtual 100, 3) := by decide +kernel
theorem dX4_exclude_31 : decode cX4_exclude 31 = .ok (.ifCond .ne 5, 3) := by decide +kernel
theorem dX4_exclude_34 : decode cX4_exclude 34 = .ok (.iconst 0, 1) := by decide +kernel
theorem dX4_exclude_35 : decode cX4_exclude 35 = .ok (.ireturn, 1) := by decide +kernel
theorem dX4_exclude_36 : decode cX4_exclude 36 = .ok (.aload_n 0, 1) := by decide +kernel
theorem dX4_exclude_37 : decode cX4_exclude 37 = .ok (.invokevirtual 103, 3) := by decide +kernel
theorem dX4_exclude_40 : decode cX4_exclude 40 = .ok (.aload_n 0, 1) := by decide +kernel
theorem dX4_exclude_41 : decode cX4_exclude 41 = .ok (.iload_n 1, 1) := by decide +kernel
theorem dX4_exclude_42 : decode cX4_exclude 42 = .ok (.iload_n 2, 1) := by decide +kernel
theorem dX4_exclude_43 : decode cX4_exclude 43 = .ok (.iload_n 3, 1) := by decide +kernel
theorem dX4_exclude_44 : decode cX4_exclude 44 = .ok (.invokevirtual 115, 3) := by decide +kernel
theorem dX4_exclude_47 : decode cX4_exclude 47 = .ok (.ireturn, 1) := by decide +kernel
set_option maxRecDepth 20000 in
theorem ggX4_delete_X4_isRow : GoodIn wsX4_delete wsX4_isRow := goodIn_r _ [4, 5, 6, 3, 7, 8, 9, 10] (by decide +kernel) (by decide +kernel)
set_option maxRecDepth 20000 in
theorem gX4_delete_X4_isRow : GoodIn wsX4_delete (va_wsS RX4 96 yX4_isRow wsX4_isRow) := goodIn_app (goodIn_of _ (by decide +kernel)) ggX4_delete_X4_isRow
set_option maxRecDepth 20000 in
theorem ggX4_delete_X4_holds : GoodIn wsX4_delete wsX4_holds := goodIn_r _ [14, 15, 52, 53, 54, 55, 56, 57, 58, 59, 60, 61, 62, 63] (by decide +kernel) (by decide +kernel)
set_option maxRecDepth 20000 in
theorem gX4_delete_X4_holds : GoodIn wsX4_delete (wsV RX4 100 RX4 yX4_holds wsX4_holds) := goodIn_app (goodIn_of _ (by decide +kernel)) ggX4_delete_X4_holds
set_option maxRecDepth 20000 in
theorem ggX4_delete_X4_keeps : GoodIn wsX4_delete wsX4_keeps := goodIn_r _ [19, 20, 21, 22, 23, 3, 24, 25, 52, 53, 54, 55, 56, 57, 58, 59, 60, 61, 62, 63] (by decide +kernel) (by decide +kernel)
set_option maxRecDepth 20000 in
theorem gX4_delete_X4_keeps : GoodIn wsX4_delete (wsV RX4 103 RX4 yX4_keeps wsX4_keeps) := goodIn_app (goodIn_of _ (by decide +kernel)) ggX4_delete_X4_keeps
set_option maxRecDepth 20000 in
theorem ggX4_delete_X4_deletes : GoodIn wsX4_delete wsX4_deletes := goodIn_r _ [29, 30, 31, 32, 3, 33, 25, 34, 35, 36, 37, 38, 39, 40, 41, 42, 43, 44, 45, 46, 47, 48, 49, 50, 51, 52, 53, 54, 55, 56, 57, 58, 59, 60, 61, 62, 63] (by decide +kernel) (by decide +kernel)
set_option maxRecDepth 20000 in
theorem gX4_delete_X4_deletes : GoodIn wsX4_delete (wsV RX4 118 RX4 yX4_deletes wsX4_deletes) := goodIn_app (goodIn_of _ (by decide +kernel)) ggX4_delete_X4_deletes
theorem dX4_delete_0 : decode cX4_delete 0 = .ok (.aload_n 0, 1) := by decide +kernel
theorem dX4_delete_1 : decode cX4_delete 1 = .ok (.iload_n 1, 1) := by decide +kernel
theorem dX4_delete_2 : decode cX4_delete 2 = .ok (.iload_n 2, 1) := by decide +kernel
theorem dX4_delete_3 : decode cX4_delete 3 = .ok (.invokestatic 96, 3) := by decide +kernel
theorem dX4_delete_6 : decode cX4_delete 6 = .ok (.ifCond .eq 7, 3) := by decide +kernel
theorem dX4_delete_9 : decode cX4_delete 9 = .ok (.iconst 0, 1) := by decide +kernel
theorem dX4_delete_10 : decode cX4_delete 10 = .ok (.goto 4, 3) := by decide +kernel
theorem dX4_delete_13 : decode cX4_delete 13 = .ok (.iconst 1, 1) := by decide +kernel
theorem dX4_delete_14 : decode cX4_delete 14 = .ok (.invokevirtual 100, 3) := by decide +kernel
theorem dX4_delete_17 : decode cX4_delete 17 = .ok (.ifCond .ne 5, 3) := by decide +kernel
theorem dX4_delete_20 : decode cX4_delete 20 = .ok (.iconst 0, 1) := by decide +kernel
theorem dX4_delete_21 : decode cX4_delete 21 = .ok (.ireturn, 1) := by decide +kernel
theorem dX4_delete_22 : decode cX4_delete 22 = .ok (.aload_n 0, 1) := by decide +kernel
theorem dX4_delete_23 : decode cX4_delete 23 = .ok (.invokevirtual 103, 3) := by decide +kernel
theorem dX4_delete_26 : decode cX4_delete 26 = .ok (.aload_n 0, 1) := by decide +kernel
theorem dX4_delete_27 : decode cX4_delete 27 = .ok (.iload_n 1, 1) := by decide +kernel
theorem dX4_delete_28 : decode cX4_delete 28 = .ok (.iload_n 2, 1) := by decide +kernel
theorem dX4_delete_29 : decode cX4_delete 29 = .ok (.invokevirtual 118, 3) := by decide +kernel
theorem dX4_delete_32 : decode cX4_delete 32 = .ok (.ireturn, 1) := by decide +kernel
set_option maxRecDepth 20000 in
theorem ggX4_merge_X4_isReplica : GoodIn wsX4_merge wsX4_isReplica := goodIn_r _ [4, 5, 6, 3, 7] (by decide +kernel) (by decide +kernel)
set_option maxRecDepth 20000 in
theorem gX4_merge_X4_isReplica : GoodIn wsX4_merge (va_wsS RX4 24 yX4_isReplica wsX4_isReplica) := goodIn_app (goodIn_of _ (by decide +kernel)) ggX4_merge_X4_isReplica
set_option maxRecDepth 20000 in
theorem ggX4_merge_X4_holds : GoodIn wsX4_merge wsX4_holds := goodIn_r _ [11, 12, 52, 53, 54, 55, 56, 57, 58, 59, 60, 61, 62, 63] (by decide +kernel) (by decide +kernel)
set_option maxRecDepth 20000 in
theorem gX4_merge_X4_holds : GoodIn wsX4_merge (wsV RX4 100 RX4 yX4_holds wsX4_holds) := goodIn_app (goodIn_of _ (by decide +kernel)) ggX4_merge_X4_holds
set_option maxRecDepth 20000 in
theorem ggX4_merge_X4_keeps : GoodIn wsX4_merge wsX4_keeps := goodIn_r _ [16, 17, 18, 19, 20, 3, 21, 22, 52, 53, 54, 55, 56, 57, 58, 59, 60, 61, 62, 63] (by decide +kernel) (by decide +kernel)
set_option maxRecDepth 20000 in
theorem gX4_merge_X4_keeps : GoodIn wsX4_merge (wsV RX4 103 RX4 yX4_keeps wsX4_keeps) := goodIn_app (goodIn_of _ (by decide +kernel)) ggX4_merge_X4_keeps
set_option maxRecDepth 20000 in
theorem ggX4_merge_X4_merges : GoodIn wsX4_merge wsX4_merges := goodIn_r _ [26, 22, 27, 28, 29, 30, 31, 3, 32, 33, 34, 35, 36, 37, 38, 39, 40, 41, 42, 43, 44, 45, 46, 47, 48, 49, 50, 51, 52, 53, 54, 55, 56, 57, 58, 59, 60, 61, 62, 63] (by decide +kernel) (by decide +kernel)
set_option maxRecDepth 20000 in
theorem gX4_merge_X4_merges : GoodIn wsX4_merge (wsV RX4 121 RX4 yX4_merges wsX4_merges) := goodIn_app (goodIn_of _ (by decide +kernel)) ggX4_merge_X4_merges
theorem dX4_merge_0 : decode cX4_merge 0 = .ok (.aload_n 0, 1) := by decide +kernel
theorem dX4_merge_1 : decode cX4_merge 1 = .ok (.iload_n 1, 1) := by decide +kernel
theorem dX4_merge_2 : decode cX4_merge 2 = .ok (.invokestatic 24, 3) := by decide +kernel
theorem dX4_merge_5 : decode cX4_merge 5 = .ok (.ifCond .eq 10, 3) := by decide +kernel
theorem dX4_merge_8 : decode cX4_merge 8 = .ok (.iload_n 2, 1) := by decide +kernel
theorem dX4_merge_9 : decode cX4_merge 9 = .ok (.invokestatic 24, 3) := by decide +kernel
theorem dX4_merge_12 : decode cX4_merge 12 = .ok (.ifCond .ne 7, 3) := by decide +kernel
theorem dX4_merge_15 : decode cX4_merge 15 = .ok (.iconst 1, 1) := by decide +kernel
theorem dX4_merge_16 : decode cX4_merge 16 = .ok (.goto 13, 3) := by decide +kernel
theorem dX4_merge_19 : decode cX4_merge 19 = .ok (.iload_n 1, 1) := by decide +kernel
theorem dX4_merge_20 : decode cX4_merge 20 = .ok (.iload_n 2, 1) := by decide +kernel
theorem dX4_merge_21 : decode cX4_merge 21 = .ok (.if_icmp .ne 7, 3) := by decide +kernel
theorem dX4_merge_24 : decode cX4_merge 24 = .ok (.iconst 2, 1) := by decide +kernel
theorem dX4_merge_25 : decode cX4_merge 25 = .ok (.goto 4, 3) := by decide +kernel
theorem dX4_merge_28 : decode cX4_merge 28 = .ok (.iconst 0, 1) := by decide +kernel
theorem dX4_merge_29 : decode cX4_merge 29 = .ok (.invokevirtual 100, 3) := by decide +kernel
theorem dX4_merge_32 : decode cX4_merge 32 = .ok (.ifCond .ne 5, 3) := by decide +kernel
theorem dX4_merge_35 : decode cX4_merge 35 = .ok (.iconst 0, 1) := by decide +kernel
theorem dX4_merge_36 : decode cX4_merge 36 = .ok (.ireturn, 1) := by decide +kernel
theorem dX4_merge_37 : decode cX4_merge 37 = .ok (.aload_n 0, 1) := by decide +kernel
theorem dX4_merge_38 : decode cX4_merge 38 = .ok (.invokevirtual 103, 3) := by decide +kernel
theorem dX4_merge_41 : decode cX4_merge 41 = .ok (.aload_n 0, 1) := by decide +kernel
theorem dX4_merge_42 : decode cX4_merge 42 = .ok (.iload_n 1, 1) := by decide +kernel
theorem dX4_merge_43 : decode cX4_merge 43 = .ok (.iload_n 2, 1) := by decide +kernel
theorem dX4_merge_44 : decode cX4_merge 44 = .ok (.invokevirtual 121, 3) := by decide +kernel
theorem dX4_merge_47 : decode cX4_merge 47 = .ok (.ireturn, 1) := by decide +kernel
set_option maxRecDepth 20000 in
theorem ggX4_mergeAll_X4_keeps : GoodIn wsX4_mergeAll wsX4_keeps := goodIn_r _ [6, 7, 8, 9, 10, 5, 11, 12, 42, 43, 44, 45, 46, 47, 48, 49, 50, 51, 52, 53] (by decide +kernel) (by decide +kernel)
set_option maxRecDepth 20000 in
theorem gX4_mergeAll_X4_keeps : GoodIn wsX4_mergeAll (wsV RX4 103 RX4 yX4_keeps wsX4_keeps) := goodIn_app (goodIn_of _ (by decide +kernel)) ggX4_mergeAll_X4_keeps
set_option maxRecDepth 20000 in
theorem ggX4_mergeAll_X4_merges : GoodIn wsX4_mergeAll wsX4_merges := goodIn_r _ [16, 12, 17, 18, 19, 20, 21, 5, 22, 23, 24, 25, 26, 27, 28, 29, 30, 31, 32, 33, 34, 35, 36, 37, 38, 39, 40, 41, 42, 43, 44, 45, 46, 47, 48, 49, 50, 51, 52, 53] (by decide +kernel) (by decide +kernel)
set_option maxRecDepth 20000 in
theorem gX4_mergeAll_X4_merges : GoodIn wsX4_mergeAll (wsV RX4 121 RX4 yX4_merges wsX4_merges) := goodIn_app (goodIn_of _ (by decide +kernel)) ggX4_mergeAll_X4_merges
theorem dX4_mergeAll_0 : decode cX4_mergeAll 0 = .ok (.aload_n 0, 1) := by decide +kernel
theorem dX4_mergeAll_1 : decode cX4_mergeAll 1 = .ok (.iconst 0, 1) := by decide +kernel
theorem dX4_mergeAll_2 : decode cX4_mergeAll 2 = .ok (.putfield 16, 3) := by decide +kernel
theorem dX4_mergeAll_5 : decode cX4_mergeAll 5 = .ok (.aload_n 0, 1) := by decide +kernel
theorem dX4_mergeAll_6 : decode cX4_mergeAll 6 = .ok (.invokevirtual 103, 3) := by decide +kernel
theorem dX4_mergeAll_9 : decode cX4_mergeAll 9 = .ok (.iconst 0, 1) := by decide +kernel
theorem dX4_mergeAll_10 : decode cX4_mergeAll 10 = .ok (.istore_n 1, 1) := by decide +kernel
theorem dX4_mergeAll_11 : decode cX4_mergeAll 11 = .ok (.iconst 0, 1) := by decide +kernel
theorem dX4_mergeAll_12 : decode cX4_mergeAll 12 = .ok (.istore_n 2, 1) := by decide +kernel
theorem dX4_mergeAll_13 : decode cX4_mergeAll 13 = .ok (.iload_n 2, 1) := by decide +kernel
theorem dX4_mergeAll_14 : decode cX4_mergeAll 14 = .ok (.bipush 6, 2) := by decide +kernel
theorem dX4_mergeAll_16 : decode cX4_mergeAll 16 = .ok (.if_icmp .ge 54, 3) := by decide +kernel
theorem dX4_mergeAll_19 : decode cX4_mergeAll 19 = .ok (.iload_n 2, 1) := by decide +kernel
theorem dX4_mergeAll_20 : decode cX4_mergeAll 20 = .ok (.iconst 3, 1) := by decide +kernel
theorem dX4_mergeAll_21 : decode cX4_mergeAll 21 = .ok (.if_icmp .ge 7, 3) := by decide +kernel
theorem dX4_mergeAll_24 : decode cX4_mergeAll 24 = .ok (.iload_n 2, 1) := by decide +kernel
theorem dX4_mergeAll_25 : decode cX4_mergeAll 25 = .ok (.goto 4, 3) := by decide +kernel
theorem dX4_mergeAll_28 : decode cX4_mergeAll 28 = .ok (.iconst 3, 1) := by decide +kernel
theorem dX4_mergeAll_29 : decode cX4_mergeAll 29 = .ok (.istore_n 3, 1) := by decide +kernel
theorem dX4_mergeAll_30 : decode cX4_mergeAll 30 = .ok (.iload_n 2, 1) := by decide +kernel
theorem dX4_mergeAll_31 : decode cX4_mergeAll 31 = .ok (.iconst 3, 1) := by decide +kernel
theorem dX4_mergeAll_32 : decode cX4_mergeAll 32 = .ok (.if_icmp .ge 9, 3) := by decide +kernel
theorem dX4_mergeAll_35 : decode cX4_mergeAll 35 = .ok (.iload_n 2, 1) := by decide +kernel
theorem dX4_mergeAll_36 : decode cX4_mergeAll 36 = .ok (.iconst 1, 1) := by decide +kernel
theorem dX4_mergeAll_37 : decode cX4_mergeAll 37 = .ok (.iadd, 1) := by decide +kernel
theorem dX4_mergeAll_38 : decode cX4_mergeAll 38 = .ok (.goto 6, 3) := by decide +kernel
theorem dX4_mergeAll_41 : decode cX4_mergeAll 41 = .ok (.iconst 5, 1) := by decide +kernel
theorem dX4_mergeAll_42 : decode cX4_mergeAll 42 = .ok (.iload_n 2, 1) := by decide +kernel
theorem dX4_mergeAll_43 : decode cX4_mergeAll 43 = .ok (.isub, 1) := by decide +kernel
theorem dX4_mergeAll_44 : decode cX4_mergeAll 44 = .ok (.istore 4, 2) := by decide +kernel
theorem dX4_mergeAll_46 : decode cX4_mergeAll 46 = .ok (.iload_n 1, 1) := by decide +kernel
theorem dX4_mergeAll_47 : decode cX4_mergeAll 47 = .ok (.aload_n 0, 1) := by decide +kernel
theorem dX4_mergeAll_48 : decode cX4_mergeAll 48 = .ok (.iload_n 3, 1) := by decide +kernel
theorem dX4_mergeAll_49 : decode cX4_mergeAll 49 = .ok (.iload 4, 2) := by decide +kernel
theorem dX4_mergeAll_51 : decode cX4_mergeAll 51 = .ok (.invokevirtual 121, 3) := by decide +kernel
theorem dX4_mergeAll_54 : decode cX4_mergeAll 54 = .ok (.ifCond .le 7, 3) := by decide +kernel
theorem dX4_mergeAll_57 : decode cX4_mergeAll 57 = .ok (.iconst 1, 1) := by decide +kernel
theorem dX4_mergeAll_58 : decode cX4_mergeAll 58 = .ok (.goto 4, 3) := by decide +kernel
theorem dX4_mergeAll_61 : decode cX4_mergeAll 61 = .ok (.iconst 0, 1) := by decide +kernel
theorem dX4_mergeAll_62 : decode cX4_mergeAll 62 = .ok (.iadd, 1) := by decide +kernel
theorem dX4_mergeAll_63 : decode cX4_mergeAll 63 = .ok (.istore_n 1, 1) := by decide +kernel
theorem dX4_mergeAll_64 : decode cX4_mergeAll 64 = .ok (.iinc 2 1, 3) := by decide +kernel
theorem dX4_mergeAll_67 : decode cX4_mergeAll 67 = .ok (.goto (-54), 3) := by decide +kernel
theorem dX4_mergeAll_70 : decode cX4_mergeAll 70 = .ok (.iload_n 1, 1) := by decide +kernel
theorem dX4_mergeAll_71 : decode cX4_mergeAll 71 = .ok (.ireturn, 1) := by decide +kernel
set_option maxRecDepth 20000 in
theorem ggX4_appendText_X4_in : GoodIn wsX4_appendText wsX4_in := goodIn_r _ [6] (by decide +kernel) (by decide +kernel)
set_option maxRecDepth 20000 in
theorem gX4_appendText_X4_in : GoodIn wsX4_appendText (va_wsS RX4 20 yX4_in wsX4_in) := goodIn_app (goodIn_of _ (by decide +kernel)) ggX4_appendText_X4_in
set_option maxRecDepth 20000 in
theorem ggX4_appendText_X4_holds : GoodIn wsX4_appendText wsX4_holds := goodIn_r _ [10, 11, 12, 13, 14, 15, 16, 17, 18, 19, 20, 21, 22, 23] (by decide +kernel) (by decide +kernel)
set_option maxRecDepth 20000 in
theorem gX4_appendText_X4_holds : GoodIn wsX4_appendText (wsV RX4 100 RX4 yX4_holds wsX4_holds) := goodIn_app (goodIn_of _ (by decide +kernel)) ggX4_appendText_X4_holds
theorem dX4_appendText_0 : decode cX4_appendText 0 = .ok (.aload_n 0, 1) := by decide +kernel
theorem dX4_appendText_1 : decode cX4_appendText 1 = .ok (.iload_n 1, 1) := by decide +kernel
theorem dX4_appendText_2 : decode cX4_appendText 2 = .ok (.bipush 32, 2) := by decide +kernel
theorem dX4_appendText_4 : decode cX4_appendText 4 = .ok (.bipush 126, 2) := by decide +kernel
theorem dX4_appendText_6 : decode cX4_appendText 6 = .ok (.invokestatic 20, 3) := by decide +kernel
theorem dX4_appendText_9 : decode cX4_appendText 9 = .ok (.ifCond .ne 7, 3) := by decide +kernel
theorem dX4_appendText_12 : decode cX4_appendText 12 = .ok (.iconst 1, 1) := by decide +kernel
theorem dX4_appendText_13 : decode cX4_appendText 13 = .ok (.goto 17, 3) := by decide +kernel
theorem dX4_appendText_16 : decode cX4_appendText 16 = .ok (.aload_n 0, 1) := by decide +kernel
theorem dX4_appendText_17 : decode cX4_appendText 17 = .ok (.getfield 124, 3) := by decide +kernel
theorem dX4_appendText_20 : decode cX4_appendText 20 = .ok (.bipush 80, 2) := by decide +kernel
theorem dX4_appendText_22 : decode cX4_appendText 22 = .ok (.if_icmp .ne 7, 3) := by decide +kernel
theorem dX4_appendText_25 : decode cX4_appendText 25 = .ok (.iconst 2, 1) := by decide +kernel
theorem dX4_appendText_26 : decode cX4_appendText 26 = .ok (.goto 4, 3) := by decide +kernel
theorem dX4_appendText_29 : decode cX4_appendText 29 = .ok (.iconst 0, 1) := by decide +kernel
theorem dX4_appendText_30 : decode cX4_appendText 30 = .ok (.invokevirtual 100, 3) := by decide +kernel
theorem dX4_appendText_33 : decode cX4_appendText 33 = .ok (.ifCond .ne 5, 3) := by decide +kernel
theorem dX4_appendText_36 : decode cX4_appendText 36 = .ok (.iconst 0, 1) := by decide +kernel
