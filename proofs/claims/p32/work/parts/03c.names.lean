theorem dX1_latestValue_9 : decode cX1_latestValue 9 = .ok (.iconst 0, 1) := by decide +kernel
theorem dX1_latestValue_10 : decode cX1_latestValue 10 = .ok (.invokestatic 97, 3) := by decide +kernel
theorem dX1_latestValue_13 : decode cX1_latestValue 13 = .ok (.istore 4, 2) := by decide +kernel
theorem dX1_latestValue_15 : decode cX1_latestValue 15 = .ok (.iconst 0, 1) := by decide +kernel
theorem dX1_latestValue_16 : decode cX1_latestValue 16 = .ok (.istore 5, 2) := by decide +kernel
theorem dX1_latestValue_18 : decode cX1_latestValue 18 = .ok (.iconst (-1), 1) := by decide +kernel
theorem dX1_latestValue_19 : decode cX1_latestValue 19 = .ok (.istore 6, 2) := by decide +kernel
theorem dX1_latestValue_21 : decode cX1_latestValue 21 = .ok (.iload_n 3, 1) := by decide +kernel
theorem dX1_latestValue_22 : decode cX1_latestValue 22 = .ok (.istore 7, 2) := by decide +kernel
theorem dX1_latestValue_24 : decode cX1_latestValue 24 = .ok (.iload 7, 2) := by decide +kernel
theorem dX1_latestValue_26 : decode cX1_latestValue 26 = .ok (.iload 4, 2) := by decide +kernel
theorem dX1_latestValue_28 : decode cX1_latestValue 28 = .ok (.if_icmp .ge 49, 3) := by decide +kernel
theorem dX1_latestValue_31 : decode cX1_latestValue 31 = .ok (.aload_n 0, 1) := by decide +kernel
theorem dX1_latestValue_32 : decode cX1_latestValue 32 = .ok (.getfield 11, 3) := by decide +kernel
theorem dX1_latestValue_35 : decode cX1_latestValue 35 = .ok (.iload 7, 2) := by decide +kernel
theorem dX1_latestValue_37 : decode cX1_latestValue 37 = .ok (.iaload, 1) := by decide +kernel
theorem dX1_latestValue_38 : decode cX1_latestValue 38 = .ok (.ifCond .eq 33, 3) := by decide +kernel
theorem dX1_latestValue_41 : decode cX1_latestValue 41 = .ok (.aload_n 0, 1) := by decide +kernel
theorem dX1_latestValue_42 : decode cX1_latestValue 42 = .ok (.getfield 15, 3) := by decide +kernel
theorem dX1_latestValue_45 : decode cX1_latestValue 45 = .ok (.iload 7, 2) := by decide +kernel
theorem dX1_latestValue_47 : decode cX1_latestValue 47 = .ok (.iaload, 1) := by decide +kernel
theorem dX1_latestValue_48 : decode cX1_latestValue 48 = .ok (.iload 5, 2) := by decide +kernel
theorem dX1_latestValue_50 : decode cX1_latestValue 50 = .ok (.if_icmp .lt 21, 3) := by decide +kernel
theorem dX1_latestValue_53 : decode cX1_latestValue 53 = .ok (.aload_n 0, 1) := by decide +kernel
theorem dX1_latestValue_54 : decode cX1_latestValue 54 = .ok (.getfield 15, 3) := by decide +kernel
theorem dX1_latestValue_57 : decode cX1_latestValue 57 = .ok (.iload 7, 2) := by decide +kernel
theorem dX1_latestValue_59 : decode cX1_latestValue 59 = .ok (.iaload, 1) := by decide +kernel
theorem dX1_latestValue_60 : decode cX1_latestValue 60 = .ok (.istore 5, 2) := by decide +kernel
theorem dX1_latestValue_62 : decode cX1_latestValue 62 = .ok (.aload_n 0, 1) := by decide +kernel
theorem dX1_latestValue_63 : decode cX1_latestValue 63 = .ok (.getfield 18, 3) := by decide +kernel
theorem dX1_latestValue_66 : decode cX1_latestValue 66 = .ok (.iload 7, 2) := by decide +kernel
theorem dX1_latestValue_68 : decode cX1_latestValue 68 = .ok (.iaload, 1) := by decide +kernel
theorem dX1_latestValue_69 : decode cX1_latestValue 69 = .ok (.istore 6, 2) := by decide +kernel
theorem dX1_latestValue_71 : decode cX1_latestValue 71 = .ok (.iinc 7 1, 3) := by decide +kernel
theorem dX1_latestValue_74 : decode cX1_latestValue 74 = .ok (.goto (-50), 3) := by decide +kernel
theorem dX1_latestValue_77 : decode cX1_latestValue 77 = .ok (.iload 6, 2) := by decide +kernel
theorem dX1_latestValue_79 : decode cX1_latestValue 79 = .ok (.ireturn, 1) := by decide +kernel
set_option maxRecDepth 20000 in
theorem ggX1_siblingAt_X1_cellStart : GoodIn wsX1_siblingAt wsX1_cellStart := goodIn_r _ [6, 7, 8, 5, 9] (by decide +kernel) (by decide +kernel)
set_option maxRecDepth 20000 in
theorem gX1_siblingAt_X1_cellStart : GoodIn wsX1_siblingAt (va_wsS RX1 94 yX1_cellStart wsX1_cellStart) := goodIn_app (goodIn_of _ (by decide +kernel)) ggX1_siblingAt_X1_cellStart
set_option maxRecDepth 20000 in
theorem ggX1_siblingAt_X1_cellEnd : GoodIn wsX1_siblingAt wsX1_cellEnd := goodIn_r _ [12, 7, 8, 5, 9] (by decide +kernel) (by decide +kernel)
set_option maxRecDepth 20000 in
theorem gX1_siblingAt_X1_cellEnd : GoodIn wsX1_siblingAt (va_wsS RX1 97 yX1_cellEnd wsX1_cellEnd) := goodIn_app (goodIn_of _ (by decide +kernel)) ggX1_siblingAt_X1_cellEnd
set_option maxRecDepth 20000 in
theorem ggX1_siblingAt_X1_rankInCell : GoodIn wsX1_siblingAt wsX1_rankInCell := goodIn_r _ [16, 2, 1, 17, 18, 19, 20, 21, 22] (by decide +kernel) (by decide +kernel)
set_option maxRecDepth 20000 in
theorem gX1_siblingAt_X1_rankInCell : GoodIn wsX1_siblingAt (wsV RX1 100 RX1 yX1_rankInCell wsX1_rankInCell) := goodIn_app (goodIn_of _ (by decide +kernel)) ggX1_siblingAt_X1_rankInCell
theorem dX1_siblingAt_0 : decode cX1_siblingAt 0 = .ok (.iload_n 1, 1) := by decide +kernel
theorem dX1_siblingAt_1 : decode cX1_siblingAt 1 = .ok (.iload_n 2, 1) := by decide +kernel
theorem dX1_siblingAt_2 : decode cX1_siblingAt 2 = .ok (.iconst 1, 1) := by decide +kernel
theorem dX1_siblingAt_3 : decode cX1_siblingAt 3 = .ok (.invokestatic 94, 3) := by decide +kernel
theorem dX1_siblingAt_6 : decode cX1_siblingAt 6 = .ok (.istore 4, 2) := by decide +kernel
theorem dX1_siblingAt_8 : decode cX1_siblingAt 8 = .ok (.iload_n 1, 1) := by decide +kernel
theorem dX1_siblingAt_9 : decode cX1_siblingAt 9 = .ok (.iload_n 2, 1) := by decide +kernel
theorem dX1_siblingAt_10 : decode cX1_siblingAt 10 = .ok (.iconst 1, 1) := by decide +kernel
theorem dX1_siblingAt_11 : decode cX1_siblingAt 11 = .ok (.invokestatic 97, 3) := by decide +kernel
theorem dX1_siblingAt_14 : decode cX1_siblingAt 14 = .ok (.istore 5, 2) := by decide +kernel
theorem dX1_siblingAt_16 : decode cX1_siblingAt 16 = .ok (.iload 4, 2) := by decide +kernel
theorem dX1_siblingAt_18 : decode cX1_siblingAt 18 = .ok (.istore 6, 2) := by decide +kernel
theorem dX1_siblingAt_20 : decode cX1_siblingAt 20 = .ok (.iload 6, 2) := by decide +kernel
theorem dX1_siblingAt_22 : decode cX1_siblingAt 22 = .ok (.iload 5, 2) := by decide +kernel
theorem dX1_siblingAt_24 : decode cX1_siblingAt 24 = .ok (.if_icmp .ge 41, 3) := by decide +kernel
theorem dX1_siblingAt_27 : decode cX1_siblingAt 27 = .ok (.aload_n 0, 1) := by decide +kernel
theorem dX1_siblingAt_28 : decode cX1_siblingAt 28 = .ok (.getfield 11, 3) := by decide +kernel
theorem dX1_siblingAt_31 : decode cX1_siblingAt 31 = .ok (.iload 6, 2) := by decide +kernel
theorem dX1_siblingAt_33 : decode cX1_siblingAt 33 = .ok (.iaload, 1) := by decide +kernel
theorem dX1_siblingAt_34 : decode cX1_siblingAt 34 = .ok (.ifCond .eq 25, 3) := by decide +kernel
theorem dX1_siblingAt_37 : decode cX1_siblingAt 37 = .ok (.aload_n 0, 1) := by decide +kernel
theorem dX1_siblingAt_38 : decode cX1_siblingAt 38 = .ok (.iload 4, 2) := by decide +kernel
theorem dX1_siblingAt_40 : decode cX1_siblingAt 40 = .ok (.iload 5, 2) := by decide +kernel
theorem dX1_siblingAt_42 : decode cX1_siblingAt 42 = .ok (.iload 6, 2) := by decide +kernel
theorem dX1_siblingAt_44 : decode cX1_siblingAt 44 = .ok (.invokevirtual 100, 3) := by decide +kernel
theorem dX1_siblingAt_47 : decode cX1_siblingAt 47 = .ok (.iload_n 3, 1) := by decide +kernel
theorem dX1_siblingAt_48 : decode cX1_siblingAt 48 = .ok (.if_icmp .ne 11, 3) := by decide +kernel
theorem dX1_siblingAt_51 : decode cX1_siblingAt 51 = .ok (.aload_n 0, 1) := by decide +kernel
theorem dX1_siblingAt_52 : decode cX1_siblingAt 52 = .ok (.getfield 18, 3) := by decide +kernel
theorem dX1_siblingAt_55 : decode cX1_siblingAt 55 = .ok (.iload 6, 2) := by decide +kernel
theorem dX1_siblingAt_57 : decode cX1_siblingAt 57 = .ok (.iaload, 1) := by decide +kernel
theorem dX1_siblingAt_58 : decode cX1_siblingAt 58 = .ok (.ireturn, 1) := by decide +kernel
theorem dX1_siblingAt_59 : decode cX1_siblingAt 59 = .ok (.iinc 6 1, 3) := by decide +kernel
theorem dX1_siblingAt_62 : decode cX1_siblingAt 62 = .ok (.goto (-42), 3) := by decide +kernel
theorem dX1_siblingAt_65 : decode cX1_siblingAt 65 = .ok (.iconst (-1), 1) := by decide +kernel
theorem dX1_siblingAt_66 : decode cX1_siblingAt 66 = .ok (.ireturn, 1) := by decide +kernel
theorem dX1_rankInCell_0 : decode cX1_rankInCell 0 = .ok (.iconst 0, 1) := by decide +kernel
theorem dX1_rankInCell_1 : decode cX1_rankInCell 1 = .ok (.istore 4, 2) := by decide +kernel
theorem dX1_rankInCell_3 : decode cX1_rankInCell 3 = .ok (.iload_n 1, 1) := by decide +kernel
theorem dX1_rankInCell_4 : decode cX1_rankInCell 4 = .ok (.istore 5, 2) := by decide +kernel
theorem dX1_rankInCell_6 : decode cX1_rankInCell 6 = .ok (.iload 5, 2) := by decide +kernel
theorem dX1_rankInCell_8 : decode cX1_rankInCell 8 = .ok (.iload_n 2, 1) := by decide +kernel
theorem dX1_rankInCell_9 : decode cX1_rankInCell 9 = .ok (.if_icmp .ge 72, 3) := by decide +kernel
theorem dX1_rankInCell_12 : decode cX1_rankInCell 12 = .ok (.aload_n 0, 1) := by decide +kernel
theorem dX1_rankInCell_13 : decode cX1_rankInCell 13 = .ok (.getfield 18, 3) := by decide +kernel
theorem dX1_rankInCell_16 : decode cX1_rankInCell 16 = .ok (.iload 5, 2) := by decide +kernel
theorem dX1_rankInCell_18 : decode cX1_rankInCell 18 = .ok (.iaload, 1) := by decide +kernel
theorem dX1_rankInCell_19 : decode cX1_rankInCell 19 = .ok (.aload_n 0, 1) := by decide +kernel
theorem dX1_rankInCell_20 : decode cX1_rankInCell 20 = .ok (.getfield 18, 3) := by decide +kernel
theorem dX1_rankInCell_23 : decode cX1_rankInCell 23 = .ok (.iload_n 3, 1) := by decide +kernel
theorem dX1_rankInCell_24 : decode cX1_rankInCell 24 = .ok (.iaload, 1) := by decide +kernel
theorem dX1_rankInCell_25 : decode cX1_rankInCell 25 = .ok (.if_icmp .lt 25, 3) := by decide +kernel
theorem dX1_rankInCell_28 : decode cX1_rankInCell 28 = .ok (.aload_n 0, 1) := by decide +kernel
theorem dX1_rankInCell_29 : decode cX1_rankInCell 29 = .ok (.getfield 18, 3) := by decide +kernel
theorem dX1_rankInCell_32 : decode cX1_rankInCell 32 = .ok (.iload 5, 2) := by decide +kernel
theorem dX1_rankInCell_34 : decode cX1_rankInCell 34 = .ok (.iaload, 1) := by decide +kernel
theorem dX1_rankInCell_35 : decode cX1_rankInCell 35 = .ok (.aload_n 0, 1) := by decide +kernel
theorem dX1_rankInCell_36 : decode cX1_rankInCell 36 = .ok (.getfield 18, 3) := by decide +kernel
theorem dX1_rankInCell_39 : decode cX1_rankInCell 39 = .ok (.iload_n 3, 1) := by decide +kernel
theorem dX1_rankInCell_40 : decode cX1_rankInCell 40 = .ok (.iaload, 1) := by decide +kernel
theorem dX1_rankInCell_41 : decode cX1_rankInCell 41 = .ok (.if_icmp .ne 13, 3) := by decide +kernel
theorem dX1_rankInCell_44 : decode cX1_rankInCell 44 = .ok (.iload 5, 2) := by decide +kernel
theorem dX1_rankInCell_46 : decode cX1_rankInCell 46 = .ok (.iload_n 3, 1) := by decide +kernel
theorem dX1_rankInCell_47 : decode cX1_rankInCell 47 = .ok (.if_icmp .ge 7, 3) := by decide +kernel
theorem dX1_rankInCell_50 : decode cX1_rankInCell 50 = .ok (.iconst 1, 1) := by decide +kernel
theorem dX1_rankInCell_51 : decode cX1_rankInCell 51 = .ok (.goto 4, 3) := by decide +kernel
theorem dX1_rankInCell_54 : decode cX1_rankInCell 54 = .ok (.iconst 0, 1) := by decide +kernel
theorem dX1_rankInCell_55 : decode cX1_rankInCell 55 = .ok (.istore 6, 2) := by decide +kernel
theorem dX1_rankInCell_57 : decode cX1_rankInCell 57 = .ok (.aload_n 0, 1) := by decide +kernel
theorem dX1_rankInCell_58 : decode cX1_rankInCell 58 = .ok (.getfield 11, 3) := by decide +kernel
theorem dX1_rankInCell_61 : decode cX1_rankInCell 61 = .ok (.iload 5, 2) := by decide +kernel
theorem dX1_rankInCell_63 : decode cX1_rankInCell 63 = .ok (.iaload, 1) := by decide +kernel
theorem dX1_rankInCell_64 : decode cX1_rankInCell 64 = .ok (.ifCond .eq 11, 3) := by decide +kernel
theorem dX1_rankInCell_67 : decode cX1_rankInCell 67 = .ok (.iload 6, 2) := by decide +kernel
theorem dX1_rankInCell_69 : decode cX1_rankInCell 69 = .ok (.ifCond .eq 6, 3) := by decide +kernel
theorem dX1_rankInCell_72 : decode cX1_rankInCell 72 = .ok (.iinc 4 1, 3) := by decide +kernel
theorem dX1_rankInCell_75 : decode cX1_rankInCell 75 = .ok (.iinc 5 1, 3) := by decide +kernel
theorem dX1_rankInCell_78 : decode cX1_rankInCell 78 = .ok (.goto (-72), 3) := by decide +kernel
theorem dX1_rankInCell_81 : decode cX1_rankInCell 81 = .ok (.iload 4, 2) := by decide +kernel
theorem dX1_rankInCell_83 : decode cX1_rankInCell 83 = .ok (.ireturn, 1) := by decide +kernel
set_option maxRecDepth 20000 in
theorem ggX1_greatestValue_X1_cellEnd : GoodIn wsX1_greatestValue wsX1_cellEnd := goodIn_r _ [10, 11, 12, 9, 13] (by decide +kernel) (by decide +kernel)
set_option maxRecDepth 20000 in
theorem gX1_greatestValue_X1_cellEnd : GoodIn wsX1_greatestValue (va_wsS RX1 97 yX1_cellEnd wsX1_cellEnd) := goodIn_app (goodIn_of _ (by decide +kernel)) ggX1_greatestValue_X1_cellEnd
set_option maxRecDepth 20000 in
theorem ggX1_greatestValue_X1_cellStart : GoodIn wsX1_greatestValue wsX1_cellStart := goodIn_r _ [16, 11, 12, 9, 13] (by decide +kernel) (by decide +kernel)
set_option maxRecDepth 20000 in
theorem gX1_greatestValue_X1_cellStart : GoodIn wsX1_greatestValue (va_wsS RX1 94 yX1_cellStart wsX1_cellStart) := goodIn_app (goodIn_of _ (by decide +kernel)) ggX1_greatestValue_X1_cellStart
theorem dX1_greatestValue_0 : decode cX1_greatestValue 0 = .ok (.iload_n 1, 1) := by decide +kernel
theorem dX1_greatestValue_1 : decode cX1_greatestValue 1 = .ok (.iload_n 2, 1) := by decide +kernel
theorem dX1_greatestValue_2 : decode cX1_greatestValue 2 = .ok (.iconst 2, 1) := by decide +kernel
theorem dX1_greatestValue_3 : decode cX1_greatestValue 3 = .ok (.invokestatic 97, 3) := by decide +kernel
theorem dX1_greatestValue_6 : decode cX1_greatestValue 6 = .ok (.istore_n 3, 1) := by decide +kernel
theorem dX1_greatestValue_7 : decode cX1_greatestValue 7 = .ok (.iconst (-1), 1) := by decide +kernel
theorem dX1_greatestValue_8 : decode cX1_greatestValue 8 = .ok (.istore 4, 2) := by decide +kernel
theorem dX1_greatestValue_10 : decode cX1_greatestValue 10 = .ok (.iload_n 1, 1) := by decide +kernel
theorem dX1_greatestValue_11 : decode cX1_greatestValue 11 = .ok (.iload_n 2, 1) := by decide +kernel
theorem dX1_greatestValue_12 : decode cX1_greatestValue 12 = .ok (.iconst 2, 1) := by decide +kernel
theorem dX1_greatestValue_13 : decode cX1_greatestValue 13 = .ok (.invokestatic 94, 3) := by decide +kernel
theorem dX1_greatestValue_16 : decode cX1_greatestValue 16 = .ok (.istore 5, 2) := by decide +kernel
theorem dX1_greatestValue_18 : decode cX1_greatestValue 18 = .ok (.iload 5, 2) := by decide +kernel
theorem dX1_greatestValue_20 : decode cX1_greatestValue 20 = .ok (.iload_n 3, 1) := by decide +kernel
theorem dX1_greatestValue_21 : decode cX1_greatestValue 21 = .ok (.if_icmp .ge 33, 3) := by decide +kernel
theorem dX1_greatestValue_24 : decode cX1_greatestValue 24 = .ok (.aload_n 0, 1) := by decide +kernel
theorem dX1_greatestValue_25 : decode cX1_greatestValue 25 = .ok (.getfield 11, 3) := by decide +kernel
theorem dX1_greatestValue_28 : decode cX1_greatestValue 28 = .ok (.iload 5, 2) := by decide +kernel
theorem dX1_greatestValue_30 : decode cX1_greatestValue 30 = .ok (.iaload, 1) := by decide +kernel
theorem dX1_greatestValue_31 : decode cX1_greatestValue 31 = .ok (.ifCond .eq 17, 3) := by decide +kernel
theorem dX1_greatestValue_34 : decode cX1_greatestValue 34 = .ok (.iload 4, 2) := by decide +kernel
theorem dX1_greatestValue_36 : decode cX1_greatestValue 36 = .ok (.aload_n 0, 1) := by decide +kernel
theorem dX1_greatestValue_37 : decode cX1_greatestValue 37 = .ok (.getfield 18, 3) := by decide +kernel
theorem dX1_greatestValue_40 : decode cX1_greatestValue 40 = .ok (.iload 5, 2) := by decide +kernel
theorem dX1_greatestValue_42 : decode cX1_greatestValue 42 = .ok (.iaload, 1) := by decide +kernel
theorem dX1_greatestValue_43 : decode cX1_greatestValue 43 = .ok (.invokestatic 57, 3) := by decide +kernel
theorem dX1_greatestValue_46 : decode cX1_greatestValue 46 = .ok (.istore 4, 2) := by decide +kernel
theorem dX1_greatestValue_48 : decode cX1_greatestValue 48 = .ok (.iinc 5 1, 3) := by decide +kernel
theorem dX1_greatestValue_51 : decode cX1_greatestValue 51 = .ok (.goto (-33), 3) := by decide +kernel
theorem dX1_greatestValue_54 : decode cX1_greatestValue 54 = .ok (.iload 4, 2) := by decide +kernel
theorem dX1_greatestValue_56 : decode cX1_greatestValue 56 = .ok (.ireturn, 1) := by decide +kernel
set_option maxRecDepth 20000 in
theorem ggX1_sumOfCell_X1_cellEnd : GoodIn wsX1_sumOfCell wsX1_cellEnd := goodIn_r _ [6, 7, 8, 5, 9] (by decide +kernel) (by decide +kernel)
set_option maxRecDepth 20000 in
theorem gX1_sumOfCell_X1_cellEnd : GoodIn wsX1_sumOfCell (va_wsS RX1 97 yX1_cellEnd wsX1_cellEnd) := goodIn_app (goodIn_of _ (by decide +kernel)) ggX1_sumOfCell_X1_cellEnd
set_option maxRecDepth 20000 in
theorem ggX1_sumOfCell_X1_cellStart : GoodIn wsX1_sumOfCell wsX1_cellStart := goodIn_r _ [12, 7, 8, 5, 9] (by decide +kernel) (by decide +kernel)
set_option maxRecDepth 20000 in
theorem gX1_sumOfCell_X1_cellStart : GoodIn wsX1_sumOfCell (va_wsS RX1 94 yX1_cellStart wsX1_cellStart) := goodIn_app (goodIn_of _ (by decide +kernel)) ggX1_sumOfCell_X1_cellStart
theorem dX1_sumOfCell_0 : decode cX1_sumOfCell 0 = .ok (.iload_n 1, 1) := by decide +kernel
theorem dX1_sumOfCell_1 : decode cX1_sumOfCell 1 = .ok (.iload_n 2, 1) := by decide +kernel
theorem dX1_sumOfCell_2 : decode cX1_sumOfCell 2 = .ok (.iload_n 3, 1) := by decide +kernel
theorem dX1_sumOfCell_3 : decode cX1_sumOfCell 3 = .ok (.invokestatic 97, 3) := by decide +kernel
theorem dX1_sumOfCell_6 : decode cX1_sumOfCell 6 = .ok (.istore 4, 2) := by decide +kernel
theorem dX1_sumOfCell_8 : decode cX1_sumOfCell 8 = .ok (.iconst 0, 1) := by decide +kernel
theorem dX1_sumOfCell_9 : decode cX1_sumOfCell 9 = .ok (.istore 5, 2) := by decide +kernel
theorem dX1_sumOfCell_11 : decode cX1_sumOfCell 11 = .ok (.iload_n 1, 1) := by decide +kernel
theorem dX1_sumOfCell_12 : decode cX1_sumOfCell 12 = .ok (.iload_n 2, 1) := by decide +kernel
theorem dX1_sumOfCell_13 : decode cX1_sumOfCell 13 = .ok (.iload_n 3, 1) := by decide +kernel
theorem dX1_sumOfCell_14 : decode cX1_sumOfCell 14 = .ok (.invokestatic 94, 3) := by decide +kernel
theorem dX1_sumOfCell_17 : decode cX1_sumOfCell 17 = .ok (.istore 6, 2) := by decide +kernel
theorem dX1_sumOfCell_19 : decode cX1_sumOfCell 19 = .ok (.iload 6, 2) := by decide +kernel
theorem dX1_sumOfCell_21 : decode cX1_sumOfCell 21 = .ok (.iload 4, 2) := by decide +kernel
theorem dX1_sumOfCell_23 : decode cX1_sumOfCell 23 = .ok (.if_icmp .ge 31, 3) := by decide +kernel
theorem dX1_sumOfCell_26 : decode cX1_sumOfCell 26 = .ok (.aload_n 0, 1) := by decide +kernel
theorem dX1_sumOfCell_27 : decode cX1_sumOfCell 27 = .ok (.getfield 11, 3) := by decide +kernel
theorem dX1_sumOfCell_30 : decode cX1_sumOfCell 30 = .ok (.iload 6, 2) := by decide +kernel
theorem dX1_sumOfCell_32 : decode cX1_sumOfCell 32 = .ok (.iaload, 1) := by decide +kernel
theorem dX1_sumOfCell_33 : decode cX1_sumOfCell 33 = .ok (.ifCond .eq 15, 3) := by decide +kernel
theorem dX1_sumOfCell_36 : decode cX1_sumOfCell 36 = .ok (.iload 5, 2) := by decide +kernel
theorem dX1_sumOfCell_38 : decode cX1_sumOfCell 38 = .ok (.aload_n 0, 1) := by decide +kernel
theorem dX1_sumOfCell_39 : decode cX1_sumOfCell 39 = .ok (.getfield 18, 3) := by decide +kernel
theorem dX1_sumOfCell_42 : decode cX1_sumOfCell 42 = .ok (.iload 6, 2) := by decide +kernel
theorem dX1_sumOfCell_44 : decode cX1_sumOfCell 44 = .ok (.iaload, 1) := by decide +kernel
theorem dX1_sumOfCell_45 : decode cX1_sumOfCell 45 = .ok (.iadd, 1) := by decide +kernel
theorem dX1_sumOfCell_46 : decode cX1_sumOfCell 46 = .ok (.istore 5, 2) := by decide +kernel
theorem dX1_sumOfCell_48 : decode cX1_sumOfCell 48 = .ok (.iinc 6 1, 3) := by decide +kernel
theorem dX1_sumOfCell_51 : decode cX1_sumOfCell 51 = .ok (.goto (-32), 3) := by decide +kernel
theorem dX1_sumOfCell_54 : decode cX1_sumOfCell 54 = .ok (.iload 5, 2) := by decide +kernel
theorem dX1_sumOfCell_56 : decode cX1_sumOfCell 56 = .ok (.ireturn, 1) := by decide +kernel
set_option maxRecDepth 20000 in
theorem ggX1_elementBits_X1_cellEnd : GoodIn wsX1_elementBits wsX1_cellEnd := goodIn_r _ [6, 7, 8, 5, 9] (by decide +kernel) (by decide +kernel)
set_option maxRecDepth 20000 in
theorem gX1_elementBits_X1_cellEnd : GoodIn wsX1_elementBits (va_wsS RX1 97 yX1_cellEnd wsX1_cellEnd) := goodIn_app (goodIn_of _ (by decide +kernel)) ggX1_elementBits_X1_cellEnd
set_option maxRecDepth 20000 in
theorem ggX1_elementBits_X1_cellStart : GoodIn wsX1_elementBits wsX1_cellStart := goodIn_r _ [12, 7, 8, 5, 9] (by decide +kernel) (by decide +kernel)
set_option maxRecDepth 20000 in
theorem gX1_elementBits_X1_cellStart : GoodIn wsX1_elementBits (va_wsS RX1 94 yX1_cellStart wsX1_cellStart) := goodIn_app (goodIn_of _ (by decide +kernel)) ggX1_elementBits_X1_cellStart
theorem dX1_elementBits_0 : decode cX1_elementBits 0 = .ok (.iload_n 1, 1) := by decide +kernel
theorem dX1_elementBits_1 : decode cX1_elementBits 1 = .ok (.iload_n 2, 1) := by decide +kernel
theorem dX1_elementBits_2 : decode cX1_elementBits 2 = .ok (.iconst 4, 1) := by decide +kernel
theorem dX1_elementBits_3 : decode cX1_elementBits 3 = .ok (.invokestatic 97, 3) := by decide +kernel
theorem dX1_elementBits_6 : decode cX1_elementBits 6 = .ok (.istore_n 3, 1) := by decide +kernel
theorem dX1_elementBits_7 : decode cX1_elementBits 7 = .ok (.iconst 0, 1) := by decide +kernel
theorem dX1_elementBits_8 : decode cX1_elementBits 8 = .ok (.istore 4, 2) := by decide +kernel
theorem dX1_elementBits_10 : decode cX1_elementBits 10 = .ok (.iload_n 1, 1) := by decide +kernel
theorem dX1_elementBits_11 : decode cX1_elementBits 11 = .ok (.iload_n 2, 1) := by decide +kernel
theorem dX1_elementBits_12 : decode cX1_elementBits 12 = .ok (.iconst 4, 1) := by decide +kernel
theorem dX1_elementBits_13 : decode cX1_elementBits 13 = .ok (.invokestatic 94, 3) := by decide +kernel
theorem dX1_elementBits_16 : decode cX1_elementBits 16 = .ok (.istore 5, 2) := by decide +kernel
theorem dX1_elementBits_18 : decode cX1_elementBits 18 = .ok (.iload 5, 2) := by decide +kernel
theorem dX1_elementBits_20 : decode cX1_elementBits 20 = .ok (.iload_n 3, 1) := by decide +kernel
theorem dX1_elementBits_21 : decode cX1_elementBits 21 = .ok (.if_icmp .ge 33, 3) := by decide +kernel
theorem dX1_elementBits_24 : decode cX1_elementBits 24 = .ok (.aload_n 0, 1) := by decide +kernel
theorem dX1_elementBits_25 : decode cX1_elementBits 25 = .ok (.getfield 11, 3) := by decide +kernel
theorem dX1_elementBits_28 : decode cX1_elementBits 28 = .ok (.iload 5, 2) := by decide +kernel
theorem dX1_elementBits_30 : decode cX1_elementBits 30 = .ok (.iaload, 1) := by decide +kernel
theorem dX1_elementBits_31 : decode cX1_elementBits 31 = .ok (.ifCond .eq 17, 3) := by decide +kernel
theorem dX1_elementBits_34 : decode cX1_elementBits 34 = .ok (.iload 4, 2) := by decide +kernel
theorem dX1_elementBits_36 : decode cX1_elementBits 36 = .ok (.iconst 1, 1) := by decide +kernel
theorem dX1_elementBits_37 : decode cX1_elementBits 37 = .ok (.aload_n 0, 1) := by decide +kernel
theorem dX1_elementBits_38 : decode cX1_elementBits 38 = .ok (.getfield 18, 3) := by decide +kernel
theorem dX1_elementBits_41 : decode cX1_elementBits 41 = .ok (.iload 5, 2) := by decide +kernel
theorem dX1_elementBits_43 : decode cX1_elementBits 43 = .ok (.iaload, 1) := by decide +kernel
theorem dX1_elementBits_44 : decode cX1_elementBits 44 = .ok (.ishl, 1) := by decide +kernel
theorem dX1_elementBits_45 : decode cX1_elementBits 45 = .ok (.ior, 1) := by decide +kernel
theorem dX1_elementBits_46 : decode cX1_elementBits 46 = .ok (.istore 4, 2) := by decide +kernel
theorem dX1_elementBits_48 : decode cX1_elementBits 48 = .ok (.iinc 5 1, 3) := by decide +kernel
theorem dX1_elementBits_51 : decode cX1_elementBits 51 = .ok (.goto (-33), 3) := by decide +kernel
theorem dX1_elementBits_54 : decode cX1_elementBits 54 = .ok (.iload 4, 2) := by decide +kernel
theorem dX1_elementBits_56 : decode cX1_elementBits 56 = .ok (.ireturn, 1) := by decide +kernel
set_option maxRecDepth 20000 in
theorem ggX1_countInCell_X1_cellStart : GoodIn wsX1_countInCell wsX1_cellStart := goodIn_r _ [4, 5, 6, 3, 7] (by decide +kernel) (by decide +kernel)
set_option maxRecDepth 20000 in
theorem gX1_countInCell_X1_cellStart : GoodIn wsX1_countInCell (va_wsS RX1 94 yX1_cellStart wsX1_cellStart) := goodIn_app (goodIn_of _ (by decide +kernel)) ggX1_countInCell_X1_cellStart
set_option maxRecDepth 20000 in
theorem ggX1_countInCell_X1_cellEnd : GoodIn wsX1_countInCell wsX1_cellEnd := goodIn_r _ [10, 5, 6, 3, 7] (by decide +kernel) (by decide +kernel)
set_option maxRecDepth 20000 in
theorem gX1_countInCell_X1_cellEnd : GoodIn wsX1_countInCell (va_wsS RX1 97 yX1_cellEnd wsX1_cellEnd) := goodIn_app (goodIn_of _ (by decide +kernel)) ggX1_countInCell_X1_cellEnd
set_option maxRecDepth 20000 in
theorem ggX1_countInCell_X1_countEntries : GoodIn wsX1_countInCell wsX1_countEntries := goodIn_r _ [14, 15, 16, 17, 18, 19, 20, 21] (by decide +kernel) (by decide +kernel)
set_option maxRecDepth 20000 in
theorem gX1_countInCell_X1_countEntries : GoodIn wsX1_countInCell (wsV RX1 40 RX1 yX1_countEntries wsX1_countEntries) := goodIn_app (goodIn_of _ (by decide +kernel)) ggX1_countInCell_X1_countEntries
theorem dX1_countInCell_0 : decode cX1_countInCell 0 = .ok (.aload_n 0, 1) := by decide +kernel
theorem dX1_countInCell_1 : decode cX1_countInCell 1 = .ok (.iload_n 1, 1) := by decide +kernel
theorem dX1_countInCell_2 : decode cX1_countInCell 2 = .ok (.iload_n 2, 1) := by decide +kernel
theorem dX1_countInCell_3 : decode cX1_countInCell 3 = .ok (.iload_n 3, 1) := by decide +kernel
theorem dX1_countInCell_4 : decode cX1_countInCell 4 = .ok (.invokestatic 94, 3) := by decide +kernel
theorem dX1_countInCell_7 : decode cX1_countInCell 7 = .ok (.iload_n 1, 1) := by decide +kernel
theorem dX1_countInCell_8 : decode cX1_countInCell 8 = .ok (.iload_n 2, 1) := by decide +kernel
theorem dX1_countInCell_9 : decode cX1_countInCell 9 = .ok (.iload_n 3, 1) := by decide +kernel
theorem dX1_countInCell_10 : decode cX1_countInCell 10 = .ok (.invokestatic 97, 3) := by decide +kernel
theorem dX1_countInCell_13 : decode cX1_countInCell 13 = .ok (.invokevirtual 40, 3) := by decide +kernel
theorem dX1_countInCell_16 : decode cX1_countInCell 16 = .ok (.ireturn, 1) := by decide +kernel
set_option maxRecDepth 20000 in
theorem ggX1_holdsRow_X1_slotOf : GoodIn wsX1_holdsRow wsX1_slotOf := goodIn_r _ [4] (by decide +kernel) (by decide +kernel)
set_option maxRecDepth 20000 in
theorem gX1_holdsRow_X1_slotOf : GoodIn wsX1_holdsRow (va_wsS RX1 36 yX1_slotOf wsX1_slotOf) := goodIn_app (goodIn_of _ (by decide +kernel)) ggX1_holdsRow_X1_slotOf
set_option maxRecDepth 20000 in
theorem ggX1_holdsRow_X1_countEntries : GoodIn wsX1_holdsRow wsX1_countEntries := goodIn_r _ [8, 9, 10, 11, 12, 13, 14, 15] (by decide +kernel) (by decide +kernel)
set_option maxRecDepth 20000 in
theorem gX1_holdsRow_X1_countEntries : GoodIn wsX1_holdsRow (wsV RX1 40 RX1 yX1_countEntries wsX1_countEntries) := goodIn_app (goodIn_of _ (by decide +kernel)) ggX1_holdsRow_X1_countEntries
theorem dX1_holdsRow_0 : decode cX1_holdsRow 0 = .ok (.aload_n 0, 1) := by decide +kernel
theorem dX1_holdsRow_1 : decode cX1_holdsRow 1 = .ok (.iload_n 1, 1) := by decide +kernel
theorem dX1_holdsRow_2 : decode cX1_holdsRow 2 = .ok (.iload_n 2, 1) := by decide +kernel
theorem dX1_holdsRow_3 : decode cX1_holdsRow 3 = .ok (.iconst 0, 1) := by decide +kernel
theorem dX1_holdsRow_4 : decode cX1_holdsRow 4 = .ok (.invokestatic 36, 3) := by decide +kernel
theorem dX1_holdsRow_7 : decode cX1_holdsRow 7 = .ok (.iload_n 1, 1) := by decide +kernel
theorem dX1_holdsRow_8 : decode cX1_holdsRow 8 = .ok (.iload_n 2, 1) := by decide +kernel
theorem dX1_holdsRow_9 : decode cX1_holdsRow 9 = .ok (.bipush 20, 2) := by decide +kernel
theorem dX1_holdsRow_11 : decode cX1_holdsRow 11 = .ok (.invokestatic 36, 3) := by decide +kernel
theorem dX1_holdsRow_14 : decode cX1_holdsRow 14 = .ok (.invokevirtual 40, 3) := by decide +kernel
theorem dX1_holdsRow_17 : decode cX1_holdsRow 17 = .ok (.ifCond .le 7, 3) := by decide +kernel
theorem dX1_holdsRow_20 : decode cX1_holdsRow 20 = .ok (.iconst 1, 1) := by decide +kernel
theorem dX1_holdsRow_21 : decode cX1_holdsRow 21 = .ok (.goto 4, 3) := by decide +kernel
theorem dX1_holdsRow_24 : decode cX1_holdsRow 24 = .ok (.iconst 0, 1) := by decide +kernel
theorem dX1_holdsRow_25 : decode cX1_holdsRow 25 = .ok (.ireturn, 1) := by decide +kernel
set_option maxRecDepth 20000 in
theorem ggX1_knows_X1_seenNumber : GoodIn wsX1_knows wsX1_seenNumber := goodIn_r _ [5, 6, 7, 8, 9, 10, 11, 12] (by decide +kernel) (by decide +kernel)
set_option maxRecDepth 20000 in
theorem gX1_knows_X1_seenNumber : GoodIn wsX1_knows (wsV RX1 47 RX1 yX1_seenNumber wsX1_seenNumber) := goodIn_app (goodIn_of _ (by decide +kernel)) ggX1_knows_X1_seenNumber
theorem dX1_knows_0 : decode cX1_knows 0 = .ok (.iconst 0, 1) := by decide +kernel
theorem dX1_knows_1 : decode cX1_knows 1 = .ok (.istore_n 3, 1) := by decide +kernel
theorem dX1_knows_2 : decode cX1_knows 2 = .ok (.iload_n 3, 1) := by decide +kernel
theorem dX1_knows_3 : decode cX1_knows 3 = .ok (.iconst 4, 1) := by decide +kernel
theorem dX1_knows_4 : decode cX1_knows 4 = .ok (.if_icmp .ge 26, 3) := by decide +kernel
theorem dX1_knows_7 : decode cX1_knows 7 = .ok (.aload_n 0, 1) := by decide +kernel
theorem dX1_knows_8 : decode cX1_knows 8 = .ok (.iload_n 1, 1) := by decide +kernel
theorem dX1_knows_9 : decode cX1_knows 9 = .ok (.iload_n 3, 1) := by decide +kernel
theorem dX1_knows_10 : decode cX1_knows 10 = .ok (.invokevirtual 47, 3) := by decide +kernel
theorem dX1_knows_13 : decode cX1_knows 13 = .ok (.aload_n 0, 1) := by decide +kernel
theorem dX1_knows_14 : decode cX1_knows 14 = .ok (.iload_n 2, 1) := by decide +kernel
theorem dX1_knows_15 : decode cX1_knows 15 = .ok (.iload_n 3, 1) := by decide +kernel
theorem dX1_knows_16 : decode cX1_knows 16 = .ok (.invokevirtual 47, 3) := by decide +kernel
theorem dX1_knows_19 : decode cX1_knows 19 = .ok (.if_icmp .ge 5, 3) := by decide +kernel
theorem dX1_knows_22 : decode cX1_knows 22 = .ok (.iconst 0, 1) := by decide +kernel
theorem dX1_knows_23 : decode cX1_knows 23 = .ok (.ireturn, 1) := by decide +kernel
theorem dX1_knows_24 : decode cX1_knows 24 = .ok (.iinc 3 1, 3) := by decide +kernel
theorem dX1_knows_27 : decode cX1_knows 27 = .ok (.goto (-25), 3) := by decide +kernel
theorem dX1_knows_30 : decode cX1_knows 30 = .ok (.iconst 1, 1) := by decide +kernel
theorem dX1_knows_31 : decode cX1_knows 31 = .ok (.ireturn, 1) := by decide +kernel
set_option maxRecDepth 20000 in
theorem ggX1_isAgreed_X1_cellEnd : GoodIn wsX1_isAgreed wsX1_cellEnd := goodIn_r _ [5, 6, 7, 4, 8] (by decide +kernel) (by decide +kernel)
set_option maxRecDepth 20000 in
theorem gX1_isAgreed_X1_cellEnd : GoodIn wsX1_isAgreed (va_wsS RX1 97 yX1_cellEnd wsX1_cellEnd) := goodIn_app (goodIn_of _ (by decide +kernel)) ggX1_isAgreed_X1_cellEnd
set_option maxRecDepth 20000 in
theorem ggX1_isAgreed_X1_cellStart : GoodIn wsX1_isAgreed wsX1_cellStart := goodIn_r _ [11, 6, 7, 4, 8] (by decide +kernel) (by decide +kernel)
set_option maxRecDepth 20000 in
theorem gX1_isAgreed_X1_cellStart : GoodIn wsX1_isAgreed (va_wsS RX1 94 yX1_cellStart wsX1_cellStart) := goodIn_app (goodIn_of _ (by decide +kernel)) ggX1_isAgreed_X1_cellStart
theorem dX1_isAgreed_0 : decode cX1_isAgreed 0 = .ok (.iconst 0, 1) := by decide +kernel
theorem dX1_isAgreed_1 : decode cX1_isAgreed 1 = .ok (.iload_n 1, 1) := by decide +kernel
theorem dX1_isAgreed_2 : decode cX1_isAgreed 2 = .ok (.iload_n 2, 1) := by decide +kernel
theorem dX1_isAgreed_3 : decode cX1_isAgreed 3 = .ok (.invokestatic 97, 3) := by decide +kernel
theorem dX1_isAgreed_6 : decode cX1_isAgreed 6 = .ok (.istore_n 3, 1) := by decide +kernel
theorem dX1_isAgreed_7 : decode cX1_isAgreed 7 = .ok (.iconst 0, 1) := by decide +kernel
theorem dX1_isAgreed_8 : decode cX1_isAgreed 8 = .ok (.iload_n 1, 1) := by decide +kernel
theorem dX1_isAgreed_9 : decode cX1_isAgreed 9 = .ok (.iload_n 2, 1) := by decide +kernel
theorem dX1_isAgreed_10 : decode cX1_isAgreed 10 = .ok (.invokestatic 94, 3) := by decide +kernel
theorem dX1_isAgreed_13 : decode cX1_isAgreed 13 = .ok (.istore 4, 2) := by decide +kernel
theorem dX1_isAgreed_15 : decode cX1_isAgreed 15 = .ok (.iload 4, 2) := by decide +kernel
theorem dX1_isAgreed_17 : decode cX1_isAgreed 17 = .ok (.iload_n 3, 1) := by decide +kernel
theorem dX1_isAgreed_18 : decode cX1_isAgreed 18 = .ok (.if_icmp .ge 50, 3) := by decide +kernel
theorem dX1_isAgreed_21 : decode cX1_isAgreed 21 = .ok (.iconst 1, 1) := by decide +kernel
theorem dX1_isAgreed_22 : decode cX1_isAgreed 22 = .ok (.istore 5, 2) := by decide +kernel
theorem dX1_isAgreed_24 : decode cX1_isAgreed 24 = .ok (.iload 5, 2) := by decide +kernel
theorem dX1_isAgreed_26 : decode cX1_isAgreed 26 = .ok (.iconst 4, 1) := by decide +kernel
theorem dX1_isAgreed_27 : decode cX1_isAgreed 27 = .ok (.if_icmp .ge 35, 3) := by decide +kernel
theorem dX1_isAgreed_30 : decode cX1_isAgreed 30 = .ok (.aload_n 0, 1) := by decide +kernel
theorem dX1_isAgreed_31 : decode cX1_isAgreed 31 = .ok (.getfield 11, 3) := by decide +kernel
theorem dX1_isAgreed_34 : decode cX1_isAgreed 34 = .ok (.iload 4, 2) := by decide +kernel
theorem dX1_isAgreed_36 : decode cX1_isAgreed 36 = .ok (.iaload, 1) := by decide +kernel
theorem dX1_isAgreed_37 : decode cX1_isAgreed 37 = .ok (.aload_n 0, 1) := by decide +kernel
theorem dX1_isAgreed_38 : decode cX1_isAgreed 38 = .ok (.getfield 11, 3) := by decide +kernel
theorem dX1_isAgreed_41 : decode cX1_isAgreed 41 = .ok (.iload 5, 2) := by decide +kernel
theorem dX1_isAgreed_43 : decode cX1_isAgreed 43 = .ok (.sipush 480, 3) := by decide +kernel
theorem dX1_isAgreed_46 : decode cX1_isAgreed 46 = .ok (.imul, 1) := by decide +kernel
theorem dX1_isAgreed_47 : decode cX1_isAgreed 47 = .ok (.iload 4, 2) := by decide +kernel
theorem dX1_isAgreed_49 : decode cX1_isAgreed 49 = .ok (.iadd, 1) := by decide +kernel
theorem dX1_isAgreed_50 : decode cX1_isAgreed 50 = .ok (.iaload, 1) := by decide +kernel
theorem dX1_isAgreed_51 : decode cX1_isAgreed 51 = .ok (.if_icmp .eq 5, 3) := by decide +kernel
theorem dX1_isAgreed_54 : decode cX1_isAgreed 54 = .ok (.iconst 0, 1) := by decide +kernel
theorem dX1_isAgreed_55 : decode cX1_isAgreed 55 = .ok (.ireturn, 1) := by decide +kernel
theorem dX1_isAgreed_56 : decode cX1_isAgreed 56 = .ok (.iinc 5 1, 3) := by decide +kernel
theorem dX1_isAgreed_59 : decode cX1_isAgreed 59 = .ok (.goto (-35), 3) := by decide +kernel
theorem dX1_isAgreed_62 : decode cX1_isAgreed 62 = .ok (.iinc 4 1, 3) := by decide +kernel
theorem dX1_isAgreed_65 : decode cX1_isAgreed 65 = .ok (.goto (-50), 3) := by decide +kernel
theorem dX1_isAgreed_68 : decode cX1_isAgreed 68 = .ok (.iconst 1, 1) := by decide +kernel
theorem dX1_isAgreed_69 : decode cX1_isAgreed 69 = .ok (.ireturn, 1) := by decide +kernel
theorem dX2_init_0 : decode cX2_init 0 = .ok (.aload_n 0, 1) := by decide +kernel
theorem dX2_init_1 : decode cX2_init 1 = .ok (.invokespecial 3, 3) := by decide +kernel
theorem dX2_init_4 : decode cX2_init 4 = .ok (.aload_n 0, 1) := by decide +kernel
theorem dX2_init_5 : decode cX2_init 5 = .ok (.bipush 80, 2) := by decide +kernel
theorem dX2_init_7 : decode cX2_init 7 = .ok (.newarray .char, 2) := by decide +kernel
theorem dX2_init_9 : decode cX2_init 9 = .ok (.putfield 9, 3) := by decide +kernel
theorem dX2_init_12 : decode cX2_init 12 = .ok (.aload_n 0, 1) := by decide +kernel
theorem dX2_init_13 : decode cX2_init 13 = .ok (.iconst 0, 1) := by decide +kernel
theorem dX2_init_14 : decode cX2_init 14 = .ok (.putfield 15, 3) := by decide +kernel
theorem dX2_init_17 : decode cX2_init 17 = .ok (.aload_n 0, 1) := by decide +kernel
theorem dX2_init_18 : decode cX2_init 18 = .ok (.iconst 0, 1) := by decide +kernel
theorem dX2_init_19 : decode cX2_init 19 = .ok (.putfield 19, 3) := by decide +kernel
theorem dX2_init_22 : decode cX2_init 22 = .ok (.aload_n 0, 1) := by decide +kernel
theorem dX2_init_23 : decode cX2_init 23 = .ok (.iconst 0, 1) := by decide +kernel
theorem dX2_init_24 : decode cX2_init 24 = .ok (.putfield 22, 3) := by decide +kernel
theorem dX2_init_27 : decode cX2_init 27 = .ok (.aload_n 0, 1) := by decide +kernel
theorem dX2_init_28 : decode cX2_init 28 = .ok (.iconst 0, 1) := by decide +kernel
theorem dX2_init_29 : decode cX2_init 29 = .ok (.putfield 25, 3) := by decide +kernel
theorem dX2_init_32 : decode cX2_init 32 = .ok (.aload_n 0, 1) := by decide +kernel
theorem dX2_init_33 : decode cX2_init 33 = .ok (.iconst 0, 1) := by decide +kernel
theorem dX2_init_34 : decode cX2_init 34 = .ok (.putfield 28, 3) := by decide +kernel
theorem dX2_init_37 : decode cX2_init 37 = .ok (.aload_n 0, 1) := by decide +kernel
theorem dX2_init_38 : decode cX2_init 38 = .ok (.iconst 0, 1) := by decide +kernel
theorem dX2_init_39 : decode cX2_init 39 = .ok (.putfield 31, 3) := by decide +kernel
theorem dX2_init_42 : decode cX2_init 42 = .ok (.return_, 1) := by decide +kernel
set_option maxRecDepth 20000 in
theorem ggX3_init_X1_init : GoodIn wsX3_init wsX1_init := goodIn_r _ [17, 18, 2, 3, 19, 20, 21, 22, 23, 24, 25, 44, 45, 46, 47, 48, 49] (by decide +kernel) (by decide +kernel)
set_option maxRecDepth 20000 in
theorem gX3_init_X1_init_n9 : GoodIn wsX3_init (wsX1_init) := ggX3_init_X1_init
set_option maxRecDepth 20000 in
theorem ggX3_init_X0_init : GoodIn wsX3_init wsX0_init := goodIn_r _ [27, 28, 2, 3, 29, 30, 31, 32, 53, 54, 55] (by decide +kernel) (by decide +kernel)
set_option maxRecDepth 20000 in
theorem gX3_init_X0_init_n18 : GoodIn wsX3_init (wsX0_init) := ggX3_init_X0_init
set_option maxRecDepth 20000 in
theorem ggX3_init_X2_init : GoodIn wsX3_init wsX2_init := goodIn_r _ [34, 35, 2, 3, 36, 37, 38, 39, 40, 41, 42, 43, 56, 57, 58, 59, 60, 61, 62] (by decide +kernel) (by decide +kernel)
set_option maxRecDepth 20000 in
theorem gX3_init_X2_init_n25 : GoodIn wsX3_init (wsX2_init) := ggX3_init_X2_init
theorem dX3_init_0 : decode cX3_init 0 = .ok (.aload_n 0, 1) := by decide +kernel
theorem dX3_init_1 : decode cX3_init 1 = .ok (.invokespecial 1, 3) := by decide +kernel
theorem dX3_init_4 : decode cX3_init 4 = .ok (.aload_n 0, 1) := by decide +kernel
theorem dX3_init_5 : decode cX3_init 5 = .ok (.new 7, 3) := by decide +kernel
theorem dX3_init_8 : decode cX3_init 8 = .ok (.dup, 1) := by decide +kernel
theorem dX3_init_9 : decode cX3_init 9 = .ok (.invokespecial 9, 3) := by decide +kernel
theorem dX3_init_12 : decode cX3_init 12 = .ok (.putfield 10, 3) := by decide +kernel
theorem dX3_init_15 : decode cX3_init 15 = .ok (.aload_n 0, 1) := by decide +kernel
theorem dX3_init_16 : decode cX3_init 16 = .ok (.new 16, 3) := by decide +kernel
theorem dX3_init_19 : decode cX3_init 19 = .ok (.dup, 1) := by decide +kernel
theorem dX3_init_20 : decode cX3_init 20 = .ok (.invokespecial 18, 3) := by decide +kernel
theorem dX3_init_23 : decode cX3_init 23 = .ok (.putfield 19, 3) := by decide +kernel
theorem dX3_init_26 : decode cX3_init 26 = .ok (.aload_n 0, 1) := by decide +kernel
theorem dX3_init_27 : decode cX3_init 27 = .ok (.new 23, 3) := by decide +kernel
theorem dX3_init_30 : decode cX3_init 30 = .ok (.dup, 1) := by decide +kernel
theorem dX3_init_31 : decode cX3_init 31 = .ok (.invokespecial 25, 3) := by decide +kernel
theorem dX3_init_34 : decode cX3_init 34 = .ok (.putfield 26, 3) := by decide +kernel
theorem dX3_init_37 : decode cX3_init 37 = .ok (.return_, 1) := by decide +kernel
set_option maxRecDepth 20000 in
theorem ggX3_put_X3_checkReplica : GoodIn wsX3_put wsX3_checkReplica := goodIn_ca (goodIn_r _ [10, 1, 2] (by decide +kernel) (by decide +kernel)) (goodIn_sub (fun _ h => List.mem_cons_of_mem _ (List.mem_append_left _ (List.mem_append_right _ h))) (by decide +kernel))
set_option maxRecDepth 20000 in
theorem gX3_put_X3_checkReplica : GoodIn wsX3_put (va_wsS RX3 30 yX3_checkReplica wsX3_checkReplica) := goodIn_app (goodIn_of _ (by decide +kernel)) ggX3_put_X3_checkReplica
set_option maxRecDepth 20000 in
theorem ggX3_put_X3_checkRow : GoodIn wsX3_put wsX3_checkRow := goodIn_ca (goodIn_r _ [13, 1, 2] (by decide +kernel) (by decide +kernel)) (goodIn_sub (fun _ h => List.mem_cons_of_mem _ (List.mem_append_left _ (List.mem_append_right _ h))) (by decide +kernel))
set_option maxRecDepth 20000 in
theorem gX3_put_X3_checkRow : GoodIn wsX3_put (va_wsS RX3 34 yX3_checkRow wsX3_checkRow) := goodIn_app (goodIn_of _ (by decide +kernel)) ggX3_put_X3_checkRow
set_option maxRecDepth 20000 in
theorem ggX3_put_X0_save : GoodIn wsX3_put wsX0_save := goodIn_r _ [18, 19, 20, 21, 22, 23, 24, 25, 26, 27, 28, 29, 30, 31, 32, 33, 34, 35, 36, 37, 38, 39, 40, 41, 42, 43, 44, 93, 94, 95, 96, 97, 98, 99, 100, 101] (by decide +kernel) (by decide +kernel)
set_option maxRecDepth 20000 in
theorem gX3_put_X0_save : GoodIn wsX3_put (wsV RX3 49 RX0 yX0_save wsX0_save) := goodIn_app (goodIn_of _ (by decide +kernel)) ggX3_put_X0_save
set_option maxRecDepth 20000 in
theorem ggX3_put_X1_putValue : GoodIn wsX3_put wsX1_putValue := goodIn_r _ [48, 49, 50, 51, 52, 53, 54, 55, 24, 56, 35, 34, 57, 58, 59, 60, 31, 33, 61, 62, 63, 64, 65, 66, 67, 68, 69, 70, 71, 72, 73, 74, 75, 76, 77, 78, 79, 80, 81, 82, 83, 84, 85, 32, 86, 87, 88, 89, 96, 97, 98, 99, 100, 101] (by decide +kernel) (by decide +kernel)
set_option maxRecDepth 20000 in
theorem gX3_put_X1_putValue : GoodIn wsX3_put (wsV RX3 53 RX1 yX1_putValue wsX1_putValue) := goodIn_app (goodIn_of _ (by decide +kernel)) ggX3_put_X1_putValue
theorem dX3_put_0 : decode cX3_put 0 = .ok (.iload_n 1, 1) := by decide +kernel
theorem dX3_put_1 : decode cX3_put 1 = .ok (.invokestatic 30, 3) := by decide +kernel
theorem dX3_put_4 : decode cX3_put 4 = .ok (.iload_n 2, 1) := by decide +kernel
theorem dX3_put_5 : decode cX3_put 5 = .ok (.invokestatic 34, 3) := by decide +kernel
theorem dX3_put_8 : decode cX3_put 8 = .ok (.iload_n 3, 1) := by decide +kernel
theorem dX3_put_9 : decode cX3_put 9 = .ok (.ifCond .eq 23, 3) := by decide +kernel
theorem dX3_put_12 : decode cX3_put 12 = .ok (.iload_n 3, 1) := by decide +kernel
theorem dX3_put_13 : decode cX3_put 13 = .ok (.iconst 1, 1) := by decide +kernel
theorem dX3_put_14 : decode cX3_put 14 = .ok (.if_icmp .eq 18, 3) := by decide +kernel
theorem dX3_put_17 : decode cX3_put 17 = .ok (.iload_n 3, 1) := by decide +kernel
theorem dX3_put_18 : decode cX3_put 18 = .ok (.iconst 2, 1) := by decide +kernel
theorem dX3_put_19 : decode cX3_put 19 = .ok (.if_icmp .eq 13, 3) := by decide +kernel
theorem dX3_put_22 : decode cX3_put 22 = .ok (.new 37, 3) := by decide +kernel
theorem dX3_put_25 : decode cX3_put 25 = .ok (.dup, 1) := by decide +kernel
theorem dX3_put_26 : decode cX3_put 26 = .ok (.ldc 39, 2) := by decide +kernel
theorem dX3_put_28 : decode cX3_put 28 = .ok (.invokespecial 41, 3) := by decide +kernel
theorem dX3_put_31 : decode cX3_put 31 = .ok (.athrow, 1) := by decide +kernel
theorem dX3_put_32 : decode cX3_put 32 = .ok (.iload 4, 2) := by decide +kernel
theorem dX3_put_34 : decode cX3_put 34 = .ok (.ifCond .lt 11, 3) := by decide +kernel
theorem dX3_put_37 : decode cX3_put 37 = .ok (.iload 4, 2) := by decide +kernel
theorem dX3_put_39 : decode cX3_put 39 = .ok (.sipush 999, 3) := by decide +kernel
theorem dX3_put_42 : decode cX3_put 42 = .ok (.if_icmp .le 13, 3) := by decide +kernel
theorem dX3_put_45 : decode cX3_put 45 = .ok (.new 44, 3) := by decide +kernel
theorem dX3_put_48 : decode cX3_put 48 = .ok (.dup, 1) := by decide +kernel
theorem dX3_put_49 : decode cX3_put 49 = .ok (.ldc 46, 2) := by decide +kernel
theorem dX3_put_51 : decode cX3_put 51 = .ok (.invokespecial 48, 3) := by decide +kernel
theorem dX3_put_54 : decode cX3_put 54 = .ok (.athrow, 1) := by decide +kernel
theorem dX3_put_55 : decode cX3_put 55 = .ok (.aload_n 0, 1) := by decide +kernel
theorem dX3_put_56 : decode cX3_put 56 = .ok (.getfield 19, 3) := by decide +kernel
theorem dX3_put_59 : decode cX3_put 59 = .ok (.aload_n 0, 1) := by decide +kernel
theorem dX3_put_60 : decode cX3_put 60 = .ok (.getfield 10, 3) := by decide +kernel
theorem dX3_put_63 : decode cX3_put 63 = .ok (.invokevirtual 49, 3) := by decide +kernel
theorem dX3_put_66 : decode cX3_put 66 = .ok (.aload_n 0, 1) := by decide +kernel
theorem dX3_put_67 : decode cX3_put 67 = .ok (.getfield 10, 3) := by decide +kernel
theorem dX3_put_70 : decode cX3_put 70 = .ok (.iload_n 1, 1) := by decide +kernel
theorem dX3_put_71 : decode cX3_put 71 = .ok (.iload_n 2, 1) := by decide +kernel
theorem dX3_put_72 : decode cX3_put 72 = .ok (.iload_n 3, 1) := by decide +kernel
theorem dX3_put_73 : decode cX3_put 73 = .ok (.iload 4, 2) := by decide +kernel
theorem dX3_put_75 : decode cX3_put 75 = .ok (.invokevirtual 53, 3) := by decide +kernel
theorem dX3_put_78 : decode cX3_put 78 = .ok (.ireturn, 1) := by decide +kernel
set_option maxRecDepth 20000 in
theorem ggX3_add_X3_checkReplica : GoodIn wsX3_add wsX3_checkReplica := goodIn_ca (goodIn_r _ [8, 9, 10] (by decide +kernel) (by decide +kernel)) (goodIn_sub (fun _ h => List.mem_cons_of_mem _ (List.mem_append_right _ h)) (by decide +kernel))
set_option maxRecDepth 20000 in
theorem gX3_add_X3_checkReplica : GoodIn wsX3_add (va_wsS RX3 30 yX3_checkReplica wsX3_checkReplica) := goodIn_app (goodIn_of _ (by decide +kernel)) ggX3_add_X3_checkReplica
set_option maxRecDepth 20000 in
theorem ggX3_add_X3_checkRow : GoodIn wsX3_add wsX3_checkRow := goodIn_ca (goodIn_r _ [13, 9, 10] (by decide +kernel) (by decide +kernel)) (goodIn_sub (fun _ h => List.mem_cons_of_mem _ (List.mem_append_right _ h)) (by decide +kernel))
set_option maxRecDepth 20000 in
theorem gX3_add_X3_checkRow : GoodIn wsX3_add (va_wsS RX3 34 yX3_checkRow wsX3_checkRow) := goodIn_app (goodIn_of _ (by decide +kernel)) ggX3_add_X3_checkRow
set_option maxRecDepth 20000 in
theorem ggX3_add_X0_save : GoodIn wsX3_add wsX0_save := goodIn_r _ [18, 19, 20, 21, 22, 23, 24, 25, 26, 27, 28, 29, 30, 31, 32, 33, 34, 35, 36, 37, 38, 39, 40, 41, 42, 43, 44, 77, 78, 79, 80, 81, 82, 83, 84, 85] (by decide +kernel) (by decide +kernel)
set_option maxRecDepth 20000 in
theorem gX3_add_X0_save : GoodIn wsX3_add (wsV RX3 49 RX0 yX0_save wsX0_save) := goodIn_app (goodIn_of _ (by decide +kernel)) ggX3_add_X0_save
set_option maxRecDepth 20000 in
theorem ggX3_add_X1_addAmount : GoodIn wsX3_add wsX1_addAmount := goodIn_r _ [48, 31, 33, 49, 50, 51, 24, 52, 35, 34, 53, 54, 55, 56, 57, 58, 59, 32, 60, 61, 62, 63, 80, 81, 82, 83, 84, 85] (by decide +kernel) (by decide +kernel)
set_option maxRecDepth 20000 in
theorem gX3_add_X1_addAmount : GoodIn wsX3_add (wsV RX3 59 RX1 yX1_addAmount wsX1_addAmount) := goodIn_app (goodIn_of _ (by decide +kernel)) ggX3_add_X1_addAmount
set_option maxRecDepth 20000 in
theorem ggX3_add_X1_sumOfCell : GoodIn wsX3_add wsX1_sumOfCell := goodIn_r _ [67, 31, 33, 68, 69, 24, 70, 53, 54, 55, 71, 72, 73, 80, 81, 82, 83, 84, 85] (by decide +kernel) (by decide +kernel)
set_option maxRecDepth 20000 in
theorem gX3_add_X1_sumOfCell : GoodIn wsX3_add (wsV RX3 63 RX1 yX1_sumOfCell wsX1_sumOfCell) := goodIn_app (goodIn_of _ (by decide +kernel)) ggX3_add_X1_sumOfCell
theorem dX3_add_0 : decode cX3_add 0 = .ok (.iload_n 1, 1) := by decide +kernel
theorem dX3_add_1 : decode cX3_add 1 = .ok (.invokestatic 30, 3) := by decide +kernel
theorem dX3_add_4 : decode cX3_add 4 = .ok (.iload_n 2, 1) := by decide +kernel
theorem dX3_add_5 : decode cX3_add 5 = .ok (.invokestatic 34, 3) := by decide +kernel
theorem dX3_add_8 : decode cX3_add 8 = .ok (.iload_n 3, 1) := by decide +kernel
theorem dX3_add_9 : decode cX3_add 9 = .ok (.bipush (-99), 2) := by decide +kernel
theorem dX3_add_11 : decode cX3_add 11 = .ok (.if_icmp .lt 13, 3) := by decide +kernel
theorem dX3_add_14 : decode cX3_add 14 = .ok (.iload_n 3, 1) := by decide +kernel
theorem dX3_add_15 : decode cX3_add 15 = .ok (.bipush 99, 2) := by decide +kernel
theorem dX3_add_17 : decode cX3_add 17 = .ok (.if_icmp .gt 7, 3) := by decide +kernel
theorem dX3_add_20 : decode cX3_add 20 = .ok (.iload_n 3, 1) := by decide +kernel
theorem dX3_add_21 : decode cX3_add 21 = .ok (.ifCond .ne 13, 3) := by decide +kernel
theorem dX3_add_24 : decode cX3_add 24 = .ok (.new 44, 3) := by decide +kernel
theorem dX3_add_27 : decode cX3_add 27 = .ok (.dup, 1) := by decide +kernel
theorem dX3_add_28 : decode cX3_add 28 = .ok (.ldc 57, 2) := by decide +kernel
theorem dX3_add_30 : decode cX3_add 30 = .ok (.invokespecial 48, 3) := by decide +kernel
theorem dX3_add_33 : decode cX3_add 33 = .ok (.athrow, 1) := by decide +kernel
theorem dX3_add_34 : decode cX3_add 34 = .ok (.aload_n 0, 1) := by decide +kernel
theorem dX3_add_35 : decode cX3_add 35 = .ok (.getfield 19, 3) := by decide +kernel
theorem dX3_add_38 : decode cX3_add 38 = .ok (.aload_n 0, 1) := by decide +kernel
theorem dX3_add_39 : decode cX3_add 39 = .ok (.getfield 10, 3) := by decide +kernel
theorem dX3_add_42 : decode cX3_add 42 = .ok (.invokevirtual 49, 3) := by decide +kernel
theorem dX3_add_45 : decode cX3_add 45 = .ok (.aload_n 0, 1) := by decide +kernel
theorem dX3_add_46 : decode cX3_add 46 = .ok (.getfield 10, 3) := by decide +kernel
theorem dX3_add_49 : decode cX3_add 49 = .ok (.iload_n 1, 1) := by decide +kernel
theorem dX3_add_50 : decode cX3_add 50 = .ok (.iload_n 2, 1) := by decide +kernel
theorem dX3_add_51 : decode cX3_add 51 = .ok (.iload_n 3, 1) := by decide +kernel
theorem dX3_add_52 : decode cX3_add 52 = .ok (.invokevirtual 59, 3) := by decide +kernel
theorem dX3_add_55 : decode cX3_add 55 = .ok (.aload_n 0, 1) := by decide +kernel
theorem dX3_add_56 : decode cX3_add 56 = .ok (.getfield 10, 3) := by decide +kernel
theorem dX3_add_59 : decode cX3_add 59 = .ok (.iload_n 1, 1) := by decide +kernel
theorem dX3_add_60 : decode cX3_add 60 = .ok (.iload_n 2, 1) := by decide +kernel
theorem dX3_add_61 : decode cX3_add 61 = .ok (.iconst 3, 1) := by decide +kernel
theorem dX3_add_62 : decode cX3_add 62 = .ok (.invokevirtual 63, 3) := by decide +kernel
theorem dX3_add_65 : decode cX3_add 65 = .ok (.ireturn, 1) := by decide +kernel
set_option maxRecDepth 20000 in
theorem ggX3_include_X3_checkReplica : GoodIn wsX3_include wsX3_checkReplica := goodIn_ca (goodIn_r _ [6, 7, 8] (by decide +kernel) (by decide +kernel)) (goodIn_sub (fun _ h => List.mem_cons_of_mem _ (List.mem_append_left _ (List.mem_append_right _ h))) (by decide +kernel))
set_option maxRecDepth 20000 in
theorem gX3_include_X3_checkReplica : GoodIn wsX3_include (va_wsS RX3 30 yX3_checkReplica wsX3_checkReplica) := goodIn_app (goodIn_of _ (by decide +kernel)) ggX3_include_X3_checkReplica
set_option maxRecDepth 20000 in
theorem ggX3_include_X3_checkRow : GoodIn wsX3_include wsX3_checkRow := goodIn_ca (goodIn_r _ [11, 7, 8] (by decide +kernel) (by decide +kernel)) (goodIn_sub (fun _ h => List.mem_cons_of_mem _ (List.mem_append_left _ (List.mem_append_right _ h))) (by decide +kernel))
set_option maxRecDepth 20000 in
theorem gX3_include_X3_checkRow : GoodIn wsX3_include (va_wsS RX3 34 yX3_checkRow wsX3_checkRow) := goodIn_app (goodIn_of _ (by decide +kernel)) ggX3_include_X3_checkRow
set_option maxRecDepth 20000 in
theorem ggX3_include_X3_checkElement : GoodIn wsX3_include wsX3_checkElement := goodIn_ca (goodIn_r _ [14, 15, 16] (by decide +kernel) (by decide +kernel)) (goodIn_sub (fun _ h => List.mem_cons_of_mem _ (List.mem_append_right _ h)) (by decide +kernel))
set_option maxRecDepth 20000 in
theorem gX3_include_X3_checkElement : GoodIn wsX3_include (va_wsS RX3 67 yX3_checkElement wsX3_checkElement) := goodIn_app (goodIn_of _ (by decide +kernel)) ggX3_include_X3_checkElement
set_option maxRecDepth 20000 in
theorem ggX3_include_X0_save : GoodIn wsX3_include wsX0_save := goodIn_r _ [21, 22, 23, 24, 25, 26, 27, 28, 29, 30, 31, 32, 33, 34, 35, 36, 37, 38, 39, 40, 41, 42, 43, 44, 45, 46, 47, 85, 86, 87, 88, 89, 90, 91, 92, 93] (by decide +kernel) (by decide +kernel)
set_option maxRecDepth 20000 in
theorem gX3_include_X0_save : GoodIn wsX3_include (wsV RX3 49 RX0 yX0_save wsX0_save) := goodIn_app (goodIn_of _ (by decide +kernel)) ggX3_include_X0_save
set_option maxRecDepth 20000 in
theorem ggX3_include_X1_includeElement : GoodIn wsX3_include wsX1_includeElement := goodIn_r _ [51, 52, 53, 54, 27, 55, 38, 37, 56, 57, 58, 59, 60, 61, 62, 63, 64, 65, 66, 67, 68, 69, 34, 70, 71, 72, 73, 74, 75, 76, 77, 35, 36, 78, 79, 80, 81, 88, 89, 90, 91, 92, 93] (by decide +kernel) (by decide +kernel)
set_option maxRecDepth 20000 in
theorem gX3_include_X1_includeElement : GoodIn wsX3_include (wsV RX3 70 RX1 yX1_includeElement wsX1_includeElement) := goodIn_app (goodIn_of _ (by decide +kernel)) ggX3_include_X1_includeElement
theorem dX3_include_0 : decode cX3_include 0 = .ok (.iload_n 1, 1) := by decide +kernel
theorem dX3_include_1 : decode cX3_include 1 = .ok (.invokestatic 30, 3) := by decide +kernel
theorem dX3_include_4 : decode cX3_include 4 = .ok (.iload_n 2, 1) := by decide +kernel
theorem dX3_include_5 : decode cX3_include 5 = .ok (.invokestatic 34, 3) := by decide +kernel
theorem dX3_include_8 : decode cX3_include 8 = .ok (.iload_n 3, 1) := by decide +kernel
theorem dX3_include_9 : decode cX3_include 9 = .ok (.invokestatic 67, 3) := by decide +kernel
theorem dX3_include_12 : decode cX3_include 12 = .ok (.aload_n 0, 1) := by decide +kernel
theorem dX3_include_13 : decode cX3_include 13 = .ok (.getfield 19, 3) := by decide +kernel
theorem dX3_include_16 : decode cX3_include 16 = .ok (.aload_n 0, 1) := by decide +kernel
theorem dX3_include_17 : decode cX3_include 17 = .ok (.getfield 10, 3) := by decide +kernel
theorem dX3_include_20 : decode cX3_include 20 = .ok (.invokevirtual 49, 3) := by decide +kernel
theorem dX3_include_23 : decode cX3_include 23 = .ok (.aload_n 0, 1) := by decide +kernel
theorem dX3_include_24 : decode cX3_include 24 = .ok (.getfield 10, 3) := by decide +kernel
theorem dX3_include_27 : decode cX3_include 27 = .ok (.iload_n 1, 1) := by decide +kernel
theorem dX3_include_28 : decode cX3_include 28 = .ok (.iload_n 2, 1) := by decide +kernel
theorem dX3_include_29 : decode cX3_include 29 = .ok (.iload_n 3, 1) := by decide +kernel
theorem dX3_include_30 : decode cX3_include 30 = .ok (.invokevirtual 70, 3) := by decide +kernel
theorem dX3_include_33 : decode cX3_include 33 = .ok (.ireturn, 1) := by decide +kernel
set_option maxRecDepth 20000 in
theorem ggX3_exclude_X3_checkReplica : GoodIn wsX3_exclude wsX3_checkReplica := goodIn_ca (goodIn_r _ [6, 7, 8] (by decide +kernel) (by decide +kernel)) (goodIn_sub (fun _ h => List.mem_cons_of_mem _ (List.mem_append_left _ (List.mem_append_right _ h))) (by decide +kernel))
set_option maxRecDepth 20000 in
theorem gX3_exclude_X3_checkReplica : GoodIn wsX3_exclude (va_wsS RX3 30 yX3_checkReplica wsX3_checkReplica) := goodIn_app (goodIn_of _ (by decide +kernel)) ggX3_exclude_X3_checkReplica
set_option maxRecDepth 20000 in
theorem ggX3_exclude_X3_checkRow : GoodIn wsX3_exclude wsX3_checkRow := goodIn_ca (goodIn_r _ [11, 7, 8] (by decide +kernel) (by decide +kernel)) (goodIn_sub (fun _ h => List.mem_cons_of_mem _ (List.mem_append_left _ (List.mem_append_right _ h))) (by decide +kernel))
set_option maxRecDepth 20000 in
theorem gX3_exclude_X3_checkRow : GoodIn wsX3_exclude (va_wsS RX3 34 yX3_checkRow wsX3_checkRow) := goodIn_app (goodIn_of _ (by decide +kernel)) ggX3_exclude_X3_checkRow
set_option maxRecDepth 20000 in
theorem ggX3_exclude_X3_checkElement : GoodIn wsX3_exclude wsX3_checkElement := goodIn_ca (goodIn_r _ [14, 15, 16] (by decide +kernel) (by decide +kernel)) (goodIn_sub (fun _ h => List.mem_cons_of_mem _ (List.mem_append_right _ h)) (by decide +kernel))
set_option maxRecDepth 20000 in
theorem gX3_exclude_X3_checkElement : GoodIn wsX3_exclude (va_wsS RX3 67 yX3_checkElement wsX3_checkElement) := goodIn_app (goodIn_of _ (by decide +kernel)) ggX3_exclude_X3_checkElement
set_option maxRecDepth 20000 in
theorem ggX3_exclude_X0_save : GoodIn wsX3_exclude wsX0_save := goodIn_r _ [21, 22, 23, 24, 25, 26, 27, 28, 29, 30, 31, 32, 33, 34, 35, 36, 37, 38, 39, 40, 41, 42, 43, 44, 45, 46, 47, 77, 78, 79, 80, 81, 82, 83, 84, 85] (by decide +kernel) (by decide +kernel)
set_option maxRecDepth 20000 in
theorem gX3_exclude_X0_save : GoodIn wsX3_exclude (wsV RX3 49 RX0 yX0_save wsX0_save) := goodIn_app (goodIn_of _ (by decide +kernel)) ggX3_exclude_X0_save
set_option maxRecDepth 20000 in
theorem ggX3_exclude_X1_excludeElement : GoodIn wsX3_exclude wsX1_excludeElement := goodIn_r _ [51, 52, 53, 54, 27, 55, 38, 37, 56, 57, 58, 59, 60, 61, 62, 63, 64, 65, 66, 67, 68, 69, 34, 70, 71, 72, 73, 80, 81, 82, 83, 84, 85] (by decide +kernel) (by decide +kernel)
set_option maxRecDepth 20000 in
theorem gX3_exclude_X1_excludeElement : GoodIn wsX3_exclude (wsV RX3 73 RX1 yX1_excludeElement wsX1_excludeElement) := goodIn_app (goodIn_of _ (by decide +kernel)) ggX3_exclude_X1_excludeElement
theorem dX3_exclude_0 : decode cX3_exclude 0 = .ok (.iload_n 1, 1) := by decide +kernel
theorem dX3_exclude_1 : decode cX3_exclude 1 = .ok (.invokestatic 30, 3) := by decide +kernel
theorem dX3_exclude_4 : decode cX3_exclude 4 = .ok (.iload_n 2, 1) := by decide +kernel
theorem dX3_exclude_5 : decode cX3_exclude 5 = .ok (.invokestatic 34, 3) := by decide +kernel
theorem dX3_exclude_8 : decode cX3_exclude 8 = .ok (.iload_n 3, 1) := by decide +kernel
theorem dX3_exclude_9 : decode cX3_exclude 9 = .ok (.invokestatic 67, 3) := by decide +kernel
theorem dX3_exclude_12 : decode cX3_exclude 12 = .ok (.aload_n 0, 1) := by decide +kernel
theorem dX3_exclude_13 : decode cX3_exclude 13 = .ok (.getfield 19, 3) := by decide +kernel
theorem dX3_exclude_16 : decode cX3_exclude 16 = .ok (.aload_n 0, 1) := by decide +kernel
theorem dX3_exclude_17 : decode cX3_exclude 17 = .ok (.getfield 10, 3) := by decide +kernel
theorem dX3_exclude_20 : decode cX3_exclude 20 = .ok (.invokevirtual 49, 3) := by decide +kernel
theorem dX3_exclude_23 : decode cX3_exclude 23 = .ok (.aload_n 0, 1) := by decide +kernel
theorem dX3_exclude_24 : decode cX3_exclude 24 = .ok (.getfield 10, 3) := by decide +kernel
theorem dX3_exclude_27 : decode cX3_exclude 27 = .ok (.iload_n 1, 1) := by decide +kernel
theorem dX3_exclude_28 : decode cX3_exclude 28 = .ok (.iload_n 2, 1) := by decide +kernel
theorem dX3_exclude_29 : decode cX3_exclude 29 = .ok (.iload_n 3, 1) := by decide +kernel
theorem dX3_exclude_30 : decode cX3_exclude 30 = .ok (.invokevirtual 73, 3) := by decide +kernel
theorem dX3_exclude_33 : decode cX3_exclude 33 = .ok (.ireturn, 1) := by decide +kernel
set_option maxRecDepth 20000 in
theorem ggX3_delete_X3_checkReplica : GoodIn wsX3_delete wsX3_checkReplica := goodIn_ca (goodIn_r _ [6, 7, 8] (by decide +kernel) (by decide +kernel)) (goodIn_sub (fun _ h => List.mem_cons_of_mem _ (List.mem_append_right _ h)) (by decide +kernel))
set_option maxRecDepth 20000 in
theorem gX3_delete_X3_checkReplica : GoodIn wsX3_delete (va_wsS RX3 30 yX3_checkReplica wsX3_checkReplica) := goodIn_app (goodIn_of _ (by decide +kernel)) ggX3_delete_X3_checkReplica
set_option maxRecDepth 20000 in
theorem ggX3_delete_X3_checkRow : GoodIn wsX3_delete wsX3_checkRow := goodIn_ca (goodIn_r _ [11, 7, 8] (by decide +kernel) (by decide +kernel)) (goodIn_sub (fun _ h => List.mem_cons_of_mem _ (List.mem_append_right _ h)) (by decide +kernel))
set_option maxRecDepth 20000 in
theorem gX3_delete_X3_checkRow : GoodIn wsX3_delete (va_wsS RX3 34 yX3_checkRow wsX3_checkRow) := goodIn_app (goodIn_of _ (by decide +kernel)) ggX3_delete_X3_checkRow
set_option maxRecDepth 20000 in
theorem ggX3_delete_X0_save : GoodIn wsX3_delete wsX0_save := goodIn_r _ [16, 17, 18, 19, 20, 21, 22, 23, 24, 25, 26, 27, 28, 29, 30, 31, 32, 33, 34, 35, 36, 37, 38, 39, 40, 41, 42, 65, 66, 67, 68, 69, 70, 71, 72, 73] (by decide +kernel) (by decide +kernel)
set_option maxRecDepth 20000 in
theorem gX3_delete_X0_save : GoodIn wsX3_delete (wsV RX3 49 RX0 yX0_save wsX0_save) := goodIn_app (goodIn_of _ (by decide +kernel)) ggX3_delete_X0_save
set_option maxRecDepth 20000 in
theorem ggX3_delete_X1_deleteRow : GoodIn wsX3_delete wsX1_deleteRow := goodIn_r _ [46, 47, 48, 49, 22, 50, 33, 32, 51, 52, 53, 54, 55, 56, 57, 29, 58, 59, 60, 61, 68, 69, 70, 71, 72, 73] (by decide +kernel) (by decide +kernel)
set_option maxRecDepth 20000 in
theorem gX3_delete_X1_deleteRow : GoodIn wsX3_delete (wsV RX3 76 RX1 yX1_deleteRow wsX1_deleteRow) := goodIn_app (goodIn_of _ (by decide +kernel)) ggX3_delete_X1_deleteRow
theorem dX3_delete_0 : decode cX3_delete 0 = .ok (.iload_n 1, 1) := by decide +kernel
theorem dX3_delete_1 : decode cX3_delete 1 = .ok (.invokestatic 30, 3) := by decide +kernel
theorem dX3_delete_4 : decode cX3_delete 4 = .ok (.iload_n 2, 1) := by decide +kernel
theorem dX3_delete_5 : decode cX3_delete 5 = .ok (.invokestatic 34, 3) := by decide +kernel
theorem dX3_delete_8 : decode cX3_delete 8 = .ok (.aload_n 0, 1) := by decide +kernel
theorem dX3_delete_9 : decode cX3_delete 9 = .ok (.getfield 19, 3) := by decide +kernel
theorem dX3_delete_12 : decode cX3_delete 12 = .ok (.aload_n 0, 1) := by decide +kernel
theorem dX3_delete_13 : decode cX3_delete 13 = .ok (.getfield 10, 3) := by decide +kernel
theorem dX3_delete_16 : decode cX3_delete 16 = .ok (.invokevirtual 49, 3) := by decide +kernel
theorem dX3_delete_19 : decode cX3_delete 19 = .ok (.aload_n 0, 1) := by decide +kernel
theorem dX3_delete_20 : decode cX3_delete 20 = .ok (.getfield 10, 3) := by decide +kernel
theorem dX3_delete_23 : decode cX3_delete 23 = .ok (.iload_n 1, 1) := by decide +kernel
theorem dX3_delete_24 : decode cX3_delete 24 = .ok (.iload_n 2, 1) := by decide +kernel
theorem dX3_delete_25 : decode cX3_delete 25 = .ok (.invokevirtual 76, 3) := by decide +kernel
theorem dX3_delete_28 : decode cX3_delete 28 = .ok (.ireturn, 1) := by decide +kernel
set_option maxRecDepth 20000 in
theorem ggX3_merge_X3_checkReplica : GoodIn wsX3_merge wsX3_checkReplica := goodIn_ca (goodIn_r _ [6, 7, 8] (by decide +kernel) (by decide +kernel)) (goodIn_sub (fun _ h => List.mem_cons_of_mem _ (List.mem_append_left _ (List.mem_append_right _ h))) (by decide +kernel))
set_option maxRecDepth 20000 in
theorem gX3_merge_X3_checkReplica : GoodIn wsX3_merge (va_wsS RX3 30 yX3_checkReplica wsX3_checkReplica) := goodIn_app (goodIn_of _ (by decide +kernel)) ggX3_merge_X3_checkReplica
set_option maxRecDepth 20000 in
theorem ggX3_merge_X3_checkDifferent : GoodIn wsX3_merge wsX3_checkDifferent := goodIn_ca (goodIn_r _ [11, 12, 13] (by decide +kernel) (by decide +kernel)) (goodIn_sub (fun _ h => List.mem_cons_of_mem _ (List.mem_append_right _ h)) (by decide +kernel))
set_option maxRecDepth 20000 in
theorem gX3_merge_X3_checkDifferent : GoodIn wsX3_merge (va_wsS RX3 80 yX3_checkDifferent wsX3_checkDifferent) := goodIn_app (goodIn_of _ (by decide +kernel)) ggX3_merge_X3_checkDifferent
set_option maxRecDepth 20000 in
theorem ggX3_merge_X0_save : GoodIn wsX3_merge wsX0_save := goodIn_r _ [18, 19, 20, 21, 22, 23, 24, 25, 26, 27, 28, 29, 30, 31, 32, 33, 34, 35, 36, 37, 38, 39, 40, 41, 42, 43, 44, 84, 85, 86, 87, 88, 89, 90, 91, 92] (by decide +kernel) (by decide +kernel)
set_option maxRecDepth 20000 in
theorem gX3_merge_X0_save : GoodIn wsX3_merge (wsV RX3 49 RX0 yX0_save wsX0_save) := goodIn_app (goodIn_of _ (by decide +kernel)) ggX3_merge_X0_save
set_option maxRecDepth 20000 in
theorem ggX3_merge_X1_mergeReplica : GoodIn wsX3_merge wsX1_mergeReplica := goodIn_r _ [48, 36, 49, 50, 51, 24, 52, 53, 54, 55, 56, 31, 57, 58, 59, 60, 34, 61, 62, 63, 64, 65, 66, 67, 68, 69, 70, 71, 72, 32, 33, 73, 74, 75, 76, 77, 78, 79, 80, 35, 87, 88, 89, 90, 91, 92] (by decide +kernel) (by decide +kernel)
set_option maxRecDepth 20000 in
theorem gX3_merge_X1_mergeReplica : GoodIn wsX3_merge (wsV RX3 84 RX1 yX1_mergeReplica wsX1_mergeReplica) := goodIn_app (goodIn_of _ (by decide +kernel)) ggX3_merge_X1_mergeReplica
theorem dX3_merge_0 : decode cX3_merge 0 = .ok (.iload_n 1, 1) := by decide +kernel
theorem dX3_merge_1 : decode cX3_merge 1 = .ok (.invokestatic 30, 3) := by decide +kernel
theorem dX3_merge_4 : decode cX3_merge 4 = .ok (.iload_n 2, 1) := by decide +kernel
theorem dX3_merge_5 : decode cX3_merge 5 = .ok (.invokestatic 30, 3) := by decide +kernel
theorem dX3_merge_8 : decode cX3_merge 8 = .ok (.iload_n 1, 1) := by decide +kernel
theorem dX3_merge_9 : decode cX3_merge 9 = .ok (.iload_n 2, 1) := by decide +kernel
theorem dX3_merge_10 : decode cX3_merge 10 = .ok (.invokestatic 80, 3) := by decide +kernel
theorem dX3_merge_13 : decode cX3_merge 13 = .ok (.aload_n 0, 1) := by decide +kernel
theorem dX3_merge_14 : decode cX3_merge 14 = .ok (.getfield 19, 3) := by decide +kernel
theorem dX3_merge_17 : decode cX3_merge 17 = .ok (.aload_n 0, 1) := by decide +kernel
theorem dX3_merge_18 : decode cX3_merge 18 = .ok (.getfield 10, 3) := by decide +kernel
theorem dX3_merge_21 : decode cX3_merge 21 = .ok (.invokevirtual 49, 3) := by decide +kernel
theorem dX3_merge_24 : decode cX3_merge 24 = .ok (.aload_n 0, 1) := by decide +kernel
theorem dX3_merge_25 : decode cX3_merge 25 = .ok (.getfield 10, 3) := by decide +kernel
theorem dX3_merge_28 : decode cX3_merge 28 = .ok (.iload_n 1, 1) := by decide +kernel
theorem dX3_merge_29 : decode cX3_merge 29 = .ok (.iload_n 2, 1) := by decide +kernel
theorem dX3_merge_30 : decode cX3_merge 30 = .ok (.invokevirtual 84, 3) := by decide +kernel
theorem dX3_merge_33 : decode cX3_merge 33 = .ok (.ireturn, 1) := by decide +kernel
set_option maxRecDepth 20000 in
theorem ggX3_mergeAll_X0_save : GoodIn wsX3_mergeAll wsX0_save := goodIn_r _ [7, 8, 9, 10, 11, 12, 13, 14, 15, 16, 17, 18, 19, 20, 21, 22, 23, 24, 25, 26, 27, 28, 29, 30, 31, 32, 33, 73, 74, 75, 76, 77, 78, 79, 80, 81] (by decide +kernel) (by decide +kernel)
set_option maxRecDepth 20000 in
theorem gX3_mergeAll_X0_save : GoodIn wsX3_mergeAll (wsV RX3 49 RX0 yX0_save wsX0_save) := goodIn_app (goodIn_of _ (by decide +kernel)) ggX3_mergeAll_X0_save
set_option maxRecDepth 20000 in
theorem ggX3_mergeAll_X1_mergeReplica : GoodIn wsX3_mergeAll wsX1_mergeReplica := goodIn_r _ [37, 25, 38, 39, 40, 13, 41, 42, 43, 44, 45, 20, 46, 47, 48, 49, 23, 50, 51, 52, 53, 54, 55, 56, 57, 58, 59, 60, 61, 21, 22, 62, 63, 64, 65, 66, 67, 68, 69, 24, 76, 77, 78, 79, 80, 81] (by decide +kernel) (by decide +kernel)
set_option maxRecDepth 20000 in
theorem gX3_mergeAll_X1_mergeReplica : GoodIn wsX3_mergeAll (wsV RX3 84 RX1 yX1_mergeReplica wsX1_mergeReplica) := goodIn_app (goodIn_of _ (by decide +kernel)) ggX3_mergeAll_X1_mergeReplica
theorem dX3_mergeAll_0 : decode cX3_mergeAll 0 = .ok (.aload_n 0, 1) := by decide +kernel
theorem dX3_mergeAll_1 : decode cX3_mergeAll 1 = .ok (.getfield 19, 3) := by decide +kernel
theorem dX3_mergeAll_4 : decode cX3_mergeAll 4 = .ok (.aload_n 0, 1) := by decide +kernel
theorem dX3_mergeAll_5 : decode cX3_mergeAll 5 = .ok (.getfield 10, 3) := by decide +kernel
theorem dX3_mergeAll_8 : decode cX3_mergeAll 8 = .ok (.invokevirtual 49, 3) := by decide +kernel
theorem dX3_mergeAll_11 : decode cX3_mergeAll 11 = .ok (.iconst 0, 1) := by decide +kernel
theorem dX3_mergeAll_12 : decode cX3_mergeAll 12 = .ok (.istore_n 1, 1) := by decide +kernel
theorem dX3_mergeAll_13 : decode cX3_mergeAll 13 = .ok (.iconst 1, 1) := by decide +kernel
theorem dX3_mergeAll_14 : decode cX3_mergeAll 14 = .ok (.istore_n 2, 1) := by decide +kernel
theorem dX3_mergeAll_15 : decode cX3_mergeAll 15 = .ok (.iload_n 2, 1) := by decide +kernel
theorem dX3_mergeAll_16 : decode cX3_mergeAll 16 = .ok (.iconst 4, 1) := by decide +kernel
theorem dX3_mergeAll_17 : decode cX3_mergeAll 17 = .ok (.if_icmp .ge 26, 3) := by decide +kernel
theorem dX3_mergeAll_20 : decode cX3_mergeAll 20 = .ok (.aload_n 0, 1) := by decide +kernel
theorem dX3_mergeAll_21 : decode cX3_mergeAll 21 = .ok (.getfield 10, 3) := by decide +kernel
theorem dX3_mergeAll_24 : decode cX3_mergeAll 24 = .ok (.iload_n 2, 1) := by decide +kernel
theorem dX3_mergeAll_25 : decode cX3_mergeAll 25 = .ok (.iconst 1, 1) := by decide +kernel
theorem dX3_mergeAll_26 : decode cX3_mergeAll 26 = .ok (.isub, 1) := by decide +kernel
theorem dX3_mergeAll_27 : decode cX3_mergeAll 27 = .ok (.iload_n 2, 1) := by decide +kernel
theorem dX3_mergeAll_28 : decode cX3_mergeAll 28 = .ok (.invokevirtual 84, 3) := by decide +kernel
theorem dX3_mergeAll_31 : decode cX3_mergeAll 31 = .ok (.ifCond .le 6, 3) := by decide +kernel
theorem dX3_mergeAll_34 : decode cX3_mergeAll 34 = .ok (.iinc 1 1, 3) := by decide +kernel
theorem dX3_mergeAll_37 : decode cX3_mergeAll 37 = .ok (.iinc 2 1, 3) := by decide +kernel
theorem dX3_mergeAll_40 : decode cX3_mergeAll 40 = .ok (.goto (-25), 3) := by decide +kernel
theorem dX3_mergeAll_43 : decode cX3_mergeAll 43 = .ok (.iconst 2, 1) := by decide +kernel
theorem dX3_mergeAll_44 : decode cX3_mergeAll 44 = .ok (.istore_n 2, 1) := by decide +kernel
theorem dX3_mergeAll_45 : decode cX3_mergeAll 45 = .ok (.iload_n 2, 1) := by decide +kernel
theorem dX3_mergeAll_46 : decode cX3_mergeAll 46 = .ok (.ifCond .lt 24, 3) := by decide +kernel
theorem dX3_mergeAll_49 : decode cX3_mergeAll 49 = .ok (.aload_n 0, 1) := by decide +kernel
theorem dX3_mergeAll_50 : decode cX3_mergeAll 50 = .ok (.getfield 10, 3) := by decide +kernel
theorem dX3_mergeAll_53 : decode cX3_mergeAll 53 = .ok (.iconst 3, 1) := by decide +kernel
theorem dX3_mergeAll_54 : decode cX3_mergeAll 54 = .ok (.iload_n 2, 1) := by decide +kernel
theorem dX3_mergeAll_55 : decode cX3_mergeAll 55 = .ok (.invokevirtual 84, 3) := by decide +kernel
theorem dX3_mergeAll_58 : decode cX3_mergeAll 58 = .ok (.ifCond .le 6, 3) := by decide +kernel
theorem dX3_mergeAll_61 : decode cX3_mergeAll 61 = .ok (.iinc 1 1, 3) := by decide +kernel
theorem dX3_mergeAll_64 : decode cX3_mergeAll 64 = .ok (.iinc 2 (-1), 3) := by decide +kernel
theorem dX3_mergeAll_67 : decode cX3_mergeAll 67 = .ok (.goto (-22), 3) := by decide +kernel
theorem dX3_mergeAll_70 : decode cX3_mergeAll 70 = .ok (.iload_n 1, 1) := by decide +kernel
theorem dX3_mergeAll_71 : decode cX3_mergeAll 71 = .ok (.ireturn, 1) := by decide +kernel
set_option maxRecDepth 20000 in
theorem ggX3_undo_X0_restore : GoodIn wsX3_undo wsX0_restore := goodIn_r _ [9, 10, 11, 12, 13, 14, 15, 16, 17, 18, 19, 20, 21, 22, 23, 24, 25, 26, 27, 31, 32, 33, 34, 35, 36, 37, 38, 39] (by decide +kernel) (by decide +kernel)
set_option maxRecDepth 20000 in
theorem gX3_undo_X0_restore : GoodIn wsX3_undo (wsV RX3 123 RX0 yX0_restore wsX0_restore) := goodIn_app (goodIn_of _ (by decide +kernel)) ggX3_undo_X0_restore
theorem dX3_undo_0 : decode cX3_undo 0 = .ok (.aload_n 0, 1) := by decide +kernel
theorem dX3_undo_1 : decode cX3_undo 1 = .ok (.getfield 19, 3) := by decide +kernel
theorem dX3_undo_4 : decode cX3_undo 4 = .ok (.getfield 118, 3) := by decide +kernel
theorem dX3_undo_7 : decode cX3_undo 7 = .ok (.ifCond .ne 13, 3) := by decide +kernel
theorem dX3_undo_10 : decode cX3_undo 10 = .ok (.new 93, 3) := by decide +kernel
theorem dX3_undo_13 : decode cX3_undo 13 = .ok (.dup, 1) := by decide +kernel
theorem dX3_undo_14 : decode cX3_undo 14 = .ok (.ldc 121, 2) := by decide +kernel
theorem dX3_undo_16 : decode cX3_undo 16 = .ok (.invokespecial 97, 3) := by decide +kernel
theorem dX3_undo_19 : decode cX3_undo 19 = .ok (.athrow, 1) := by decide +kernel
theorem dX3_undo_20 : decode cX3_undo 20 = .ok (.aload_n 0, 1) := by decide +kernel
theorem dX3_undo_21 : decode cX3_undo 21 = .ok (.getfield 19, 3) := by decide +kernel
theorem dX3_undo_24 : decode cX3_undo 24 = .ok (.aload_n 0, 1) := by decide +kernel
theorem dX3_undo_25 : decode cX3_undo 25 = .ok (.getfield 10, 3) := by decide +kernel
theorem dX3_undo_28 : decode cX3_undo 28 = .ok (.invokevirtual 123, 3) := by decide +kernel
theorem dX3_undo_31 : decode cX3_undo 31 = .ok (.aload_n 0, 1) := by decide +kernel
theorem dX3_undo_32 : decode cX3_undo 32 = .ok (.getfield 19, 3) := by decide +kernel
theorem dX3_undo_35 : decode cX3_undo 35 = .ok (.getfield 118, 3) := by decide +kernel
theorem dX3_undo_38 : decode cX3_undo 38 = .ok (.ireturn, 1) := by decide +kernel
set_option maxRecDepth 20000 in
theorem ggX3_latest_X3_checkReplica : GoodIn wsX3_latest wsX3_checkReplica := goodIn_ca (goodIn_r _ [5, 6, 7] (by decide +kernel) (by decide +kernel)) (goodIn_sub (fun _ h => List.mem_cons_of_mem _ (List.mem_append_right _ h)) (by decide +kernel))
set_option maxRecDepth 20000 in
theorem gX3_latest_X3_checkReplica : GoodIn wsX3_latest (va_wsS RX3 30 yX3_checkReplica wsX3_checkReplica) := goodIn_app (goodIn_of _ (by decide +kernel)) ggX3_latest_X3_checkReplica
set_option maxRecDepth 20000 in
theorem ggX3_latest_X3_checkRow : GoodIn wsX3_latest wsX3_checkRow := goodIn_ca (goodIn_r _ [10, 6, 7] (by decide +kernel) (by decide +kernel)) (goodIn_sub (fun _ h => List.mem_cons_of_mem _ (List.mem_append_right _ h)) (by decide +kernel))
set_option maxRecDepth 20000 in
theorem gX3_latest_X3_checkRow : GoodIn wsX3_latest (va_wsS RX3 34 yX3_checkRow wsX3_checkRow) := goodIn_app (goodIn_of _ (by decide +kernel)) ggX3_latest_X3_checkRow
set_option maxRecDepth 20000 in
theorem ggX3_latest_X1_latestValue : GoodIn wsX3_latest wsX1_latestValue := goodIn_r _ [15, 16, 17, 18, 19, 20, 14, 21, 22, 23, 24, 25, 26, 27, 31, 32, 33, 34, 35, 36] (by decide +kernel) (by decide +kernel)
set_option maxRecDepth 20000 in
theorem gX3_latest_X1_latestValue : GoodIn wsX3_latest (wsV RX3 126 RX1 yX1_latestValue wsX1_latestValue) := goodIn_app (goodIn_of _ (by decide +kernel)) ggX3_latest_X1_latestValue
theorem dX3_latest_0 : decode cX3_latest 0 = .ok (.iload_n 1, 1) := by decide +kernel
theorem dX3_latest_1 : decode cX3_latest 1 = .ok (.invokestatic 30, 3) := by decide +kernel
theorem dX3_latest_4 : decode cX3_latest 4 = .ok (.iload_n 2, 1) := by decide +kernel
theorem dX3_latest_5 : decode cX3_latest 5 = .ok (.invokestatic 34, 3) := by decide +kernel
theorem dX3_latest_8 : decode cX3_latest 8 = .ok (.aload_n 0, 1) := by decide +kernel
theorem dX3_latest_9 : decode cX3_latest 9 = .ok (.getfield 10, 3) := by decide +kernel
theorem dX3_latest_12 : decode cX3_latest 12 = .ok (.iload_n 1, 1) := by decide +kernel
theorem dX3_latest_13 : decode cX3_latest 13 = .ok (.iload_n 2, 1) := by decide +kernel
theorem dX3_latest_14 : decode cX3_latest 14 = .ok (.invokevirtual 126, 3) := by decide +kernel
theorem dX3_latest_17 : decode cX3_latest 17 = .ok (.ireturn, 1) := by decide +kernel
set_option maxRecDepth 20000 in
theorem ggX3_sibling_X3_checkReplica : GoodIn wsX3_sibling wsX3_checkReplica := goodIn_ca (goodIn_r _ [7, 1, 2] (by decide +kernel) (by decide +kernel)) (goodIn_sub (fun _ h => List.mem_cons_of_mem _ (List.mem_append_right _ h)) (by decide +kernel))
set_option maxRecDepth 20000 in
theorem gX3_sibling_X3_checkReplica : GoodIn wsX3_sibling (va_wsS RX3 30 yX3_checkReplica wsX3_checkReplica) := goodIn_app (goodIn_of _ (by decide +kernel)) ggX3_sibling_X3_checkReplica
set_option maxRecDepth 20000 in
theorem ggX3_sibling_X3_checkRow : GoodIn wsX3_sibling wsX3_checkRow := goodIn_ca (goodIn_r _ [10, 1, 2] (by decide +kernel) (by decide +kernel)) (goodIn_sub (fun _ h => List.mem_cons_of_mem _ (List.mem_append_right _ h)) (by decide +kernel))
set_option maxRecDepth 20000 in
theorem gX3_sibling_X3_checkRow : GoodIn wsX3_sibling (va_wsS RX3 34 yX3_checkRow wsX3_checkRow) := goodIn_app (goodIn_of _ (by decide +kernel)) ggX3_sibling_X3_checkRow
set_option maxRecDepth 20000 in
theorem ggX3_sibling_X1_siblingAt : GoodIn wsX3_sibling wsX1_siblingAt := goodIn_r _ [15, 16, 17, 18, 19, 14, 20, 21, 22, 23, 24, 25, 26, 27, 28, 29, 30, 34, 35, 36, 37, 38, 39] (by decide +kernel) (by decide +kernel)
set_option maxRecDepth 20000 in
theorem gX3_sibling_X1_siblingAt : GoodIn wsX3_sibling (wsV RX3 131 RX1 yX1_siblingAt wsX1_siblingAt) := goodIn_app (goodIn_of _ (by decide +kernel)) ggX3_sibling_X1_siblingAt
theorem dX3_sibling_0 : decode cX3_sibling 0 = .ok (.iload_n 1, 1) := by decide +kernel
theorem dX3_sibling_1 : decode cX3_sibling 1 = .ok (.invokestatic 30, 3) := by decide +kernel
