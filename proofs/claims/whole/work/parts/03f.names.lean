theorem dX4_appendText_37 : decode cX4_appendText 37 = .ok (.ireturn, 1) := by decide +kernel
theorem dX4_appendText_38 : decode cX4_appendText 38 = .ok (.aload_n 0, 1) := by decide +kernel
theorem dX4_appendText_39 : decode cX4_appendText 39 = .ok (.getfield 13, 3) := by decide +kernel
theorem dX4_appendText_42 : decode cX4_appendText 42 = .ok (.aload_n 0, 1) := by decide +kernel
theorem dX4_appendText_43 : decode cX4_appendText 43 = .ok (.getfield 124, 3) := by decide +kernel
theorem dX4_appendText_46 : decode cX4_appendText 46 = .ok (.iload_n 1, 1) := by decide +kernel
theorem dX4_appendText_47 : decode cX4_appendText 47 = .ok (.iastore, 1) := by decide +kernel
theorem dX4_appendText_48 : decode cX4_appendText 48 = .ok (.aload_n 0, 1) := by decide +kernel
theorem dX4_appendText_49 : decode cX4_appendText 49 = .ok (.dup, 1) := by decide +kernel
theorem dX4_appendText_50 : decode cX4_appendText 50 = .ok (.getfield 124, 3) := by decide +kernel
theorem dX4_appendText_53 : decode cX4_appendText 53 = .ok (.iconst 1, 1) := by decide +kernel
theorem dX4_appendText_54 : decode cX4_appendText 54 = .ok (.iadd, 1) := by decide +kernel
theorem dX4_appendText_55 : decode cX4_appendText 55 = .ok (.putfield 124, 3) := by decide +kernel
theorem dX4_appendText_58 : decode cX4_appendText 58 = .ok (.aload_n 0, 1) := by decide +kernel
theorem dX4_appendText_59 : decode cX4_appendText 59 = .ok (.getfield 124, 3) := by decide +kernel
theorem dX4_appendText_62 : decode cX4_appendText 62 = .ok (.ireturn, 1) := by decide +kernel
theorem dX4_clearText_0 : decode cX4_clearText 0 = .ok (.aload_n 0, 1) := by decide +kernel
theorem dX4_clearText_1 : decode cX4_clearText 1 = .ok (.iconst 0, 1) := by decide +kernel
theorem dX4_clearText_2 : decode cX4_clearText 2 = .ok (.putfield 16, 3) := by decide +kernel
theorem dX4_clearText_5 : decode cX4_clearText 5 = .ok (.aload_n 0, 1) := by decide +kernel
theorem dX4_clearText_6 : decode cX4_clearText 6 = .ok (.getfield 124, 3) := by decide +kernel
theorem dX4_clearText_9 : decode cX4_clearText 9 = .ok (.istore_n 1, 1) := by decide +kernel
theorem dX4_clearText_10 : decode cX4_clearText 10 = .ok (.aload_n 0, 1) := by decide +kernel
theorem dX4_clearText_11 : decode cX4_clearText 11 = .ok (.iconst 0, 1) := by decide +kernel
theorem dX4_clearText_12 : decode cX4_clearText 12 = .ok (.putfield 124, 3) := by decide +kernel
theorem dX4_clearText_15 : decode cX4_clearText 15 = .ok (.iload_n 1, 1) := by decide +kernel
theorem dX4_clearText_16 : decode cX4_clearText 16 = .ok (.ireturn, 1) := by decide +kernel
theorem dX4_sign_0 : decode cX4_sign 0 = .ok (.aload_n 0, 1) := by decide +kernel
theorem dX4_sign_1 : decode cX4_sign 1 = .ok (.getfield 127, 3) := by decide +kernel
theorem dX4_sign_4 : decode cX4_sign 4 = .ok (.aload_n 0, 1) := by decide +kernel
theorem dX4_sign_5 : decode cX4_sign 5 = .ok (.getfield 124, 3) := by decide +kernel
theorem dX4_sign_8 : decode cX4_sign 8 = .ok (.if_icmp .ge 15, 3) := by decide +kernel
theorem dX4_sign_11 : decode cX4_sign 11 = .ok (.aload_n 0, 1) := by decide +kernel
theorem dX4_sign_12 : decode cX4_sign 12 = .ok (.getfield 13, 3) := by decide +kernel
theorem dX4_sign_15 : decode cX4_sign 15 = .ok (.aload_n 0, 1) := by decide +kernel
theorem dX4_sign_16 : decode cX4_sign 16 = .ok (.getfield 127, 3) := by decide +kernel
theorem dX4_sign_19 : decode cX4_sign 19 = .ok (.iaload, 1) := by decide +kernel
theorem dX4_sign_20 : decode cX4_sign 20 = .ok (.goto 4, 3) := by decide +kernel
theorem dX4_sign_23 : decode cX4_sign 23 = .ok (.iconst 0, 1) := by decide +kernel
theorem dX4_sign_24 : decode cX4_sign 24 = .ok (.ireturn, 1) := by decide +kernel
set_option maxRecDepth 20000 in
theorem ggX4_takes_X4_sign : GoodIn wsX4_takes wsX4_sign := goodIn_r _ [6, 1, 7, 8, 9, 10, 11, 12, 13, 14, 15, 16, 17, 18, 19, 20] (by decide +kernel) (by decide +kernel)
set_option maxRecDepth 20000 in
theorem gX4_takes_X4_sign : GoodIn wsX4_takes (wsV RX4 130 RX4 yX4_sign wsX4_sign) := goodIn_app (goodIn_of _ (by decide +kernel)) ggX4_takes_X4_sign
theorem dX4_takes_0 : decode cX4_takes 0 = .ok (.aload_n 0, 1) := by decide +kernel
theorem dX4_takes_1 : decode cX4_takes 1 = .ok (.invokevirtual 130, 3) := by decide +kernel
theorem dX4_takes_4 : decode cX4_takes 4 = .ok (.iload_n 1, 1) := by decide +kernel
theorem dX4_takes_5 : decode cX4_takes 5 = .ok (.if_icmp .ne 7, 3) := by decide +kernel
theorem dX4_takes_8 : decode cX4_takes 8 = .ok (.iconst 1, 1) := by decide +kernel
theorem dX4_takes_9 : decode cX4_takes 9 = .ok (.goto 4, 3) := by decide +kernel
theorem dX4_takes_12 : decode cX4_takes 12 = .ok (.iconst 0, 1) := by decide +kernel
theorem dX4_takes_13 : decode cX4_takes 13 = .ok (.istore_n 2, 1) := by decide +kernel
theorem dX4_takes_14 : decode cX4_takes 14 = .ok (.aload_n 0, 1) := by decide +kernel
theorem dX4_takes_15 : decode cX4_takes 15 = .ok (.dup, 1) := by decide +kernel
theorem dX4_takes_16 : decode cX4_takes 16 = .ok (.getfield 127, 3) := by decide +kernel
theorem dX4_takes_19 : decode cX4_takes 19 = .ok (.iload_n 2, 1) := by decide +kernel
theorem dX4_takes_20 : decode cX4_takes 20 = .ok (.ifCond .eq 7, 3) := by decide +kernel
theorem dX4_takes_23 : decode cX4_takes 23 = .ok (.iconst 1, 1) := by decide +kernel
theorem dX4_takes_24 : decode cX4_takes 24 = .ok (.goto 4, 3) := by decide +kernel
theorem dX4_takes_27 : decode cX4_takes 27 = .ok (.iconst 0, 1) := by decide +kernel
theorem dX4_takes_28 : decode cX4_takes 28 = .ok (.iadd, 1) := by decide +kernel
theorem dX4_takes_29 : decode cX4_takes 29 = .ok (.putfield 127, 3) := by decide +kernel
theorem dX4_takes_32 : decode cX4_takes 32 = .ok (.iload_n 2, 1) := by decide +kernel
theorem dX4_takes_33 : decode cX4_takes 33 = .ok (.ireturn, 1) := by decide +kernel
set_option maxRecDepth 20000 in
theorem ggX4_digit_X4_sign : GoodIn wsX4_digit wsX4_sign := goodIn_r _ [6, 1, 7, 8, 12, 13, 14, 15, 16, 17, 18, 19, 20, 21, 22, 23] (by decide +kernel) (by decide +kernel)
set_option maxRecDepth 20000 in
theorem gX4_digit_X4_sign : GoodIn wsX4_digit (wsV RX4 130 RX4 yX4_sign wsX4_sign) := goodIn_app (goodIn_of _ (by decide +kernel)) ggX4_digit_X4_sign
set_option maxRecDepth 20000 in
theorem ggX4_digit_X4_in : GoodIn wsX4_digit wsX4_in := goodIn_r _ [11] (by decide +kernel) (by decide +kernel)
set_option maxRecDepth 20000 in
theorem gX4_digit_X4_in : GoodIn wsX4_digit (va_wsS RX4 20 yX4_in wsX4_in) := goodIn_app (goodIn_of _ (by decide +kernel)) ggX4_digit_X4_in
theorem dX4_digit_0 : decode cX4_digit 0 = .ok (.aload_n 0, 1) := by decide +kernel
theorem dX4_digit_1 : decode cX4_digit 1 = .ok (.invokevirtual 130, 3) := by decide +kernel
theorem dX4_digit_4 : decode cX4_digit 4 = .ok (.bipush 48, 2) := by decide +kernel
theorem dX4_digit_6 : decode cX4_digit 6 = .ok (.bipush 48, 2) := by decide +kernel
theorem dX4_digit_8 : decode cX4_digit 8 = .ok (.iload_n 1, 1) := by decide +kernel
theorem dX4_digit_9 : decode cX4_digit 9 = .ok (.iadd, 1) := by decide +kernel
theorem dX4_digit_10 : decode cX4_digit 10 = .ok (.invokestatic 20, 3) := by decide +kernel
theorem dX4_digit_13 : decode cX4_digit 13 = .ok (.ifCond .eq 13, 3) := by decide +kernel
theorem dX4_digit_16 : decode cX4_digit 16 = .ok (.aload_n 0, 1) := by decide +kernel
theorem dX4_digit_17 : decode cX4_digit 17 = .ok (.invokevirtual 130, 3) := by decide +kernel
theorem dX4_digit_20 : decode cX4_digit 20 = .ok (.bipush 48, 2) := by decide +kernel
theorem dX4_digit_22 : decode cX4_digit 22 = .ok (.isub, 1) := by decide +kernel
theorem dX4_digit_23 : decode cX4_digit 23 = .ok (.goto 4, 3) := by decide +kernel
theorem dX4_digit_26 : decode cX4_digit 26 = .ok (.iconst (-1), 1) := by decide +kernel
theorem dX4_digit_27 : decode cX4_digit 27 = .ok (.istore_n 2, 1) := by decide +kernel
theorem dX4_digit_28 : decode cX4_digit 28 = .ok (.aload_n 0, 1) := by decide +kernel
theorem dX4_digit_29 : decode cX4_digit 29 = .ok (.dup, 1) := by decide +kernel
theorem dX4_digit_30 : decode cX4_digit 30 = .ok (.getfield 127, 3) := by decide +kernel
theorem dX4_digit_33 : decode cX4_digit 33 = .ok (.iload_n 2, 1) := by decide +kernel
theorem dX4_digit_34 : decode cX4_digit 34 = .ok (.iconst (-1), 1) := by decide +kernel
theorem dX4_digit_35 : decode cX4_digit 35 = .ok (.if_icmp .ne 7, 3) := by decide +kernel
theorem dX4_digit_38 : decode cX4_digit 38 = .ok (.iconst 0, 1) := by decide +kernel
theorem dX4_digit_39 : decode cX4_digit 39 = .ok (.goto 4, 3) := by decide +kernel
theorem dX4_digit_42 : decode cX4_digit 42 = .ok (.iconst 1, 1) := by decide +kernel
theorem dX4_digit_43 : decode cX4_digit 43 = .ok (.iadd, 1) := by decide +kernel
theorem dX4_digit_44 : decode cX4_digit 44 = .ok (.putfield 127, 3) := by decide +kernel
theorem dX4_digit_47 : decode cX4_digit 47 = .ok (.iload_n 2, 1) := by decide +kernel
theorem dX4_digit_48 : decode cX4_digit 48 = .ok (.ireturn, 1) := by decide +kernel
set_option maxRecDepth 20000 in
theorem ggX4_readsNumber_X4_sign : GoodIn wsX4_readsNumber wsX4_sign := goodIn_r _ [7, 2, 8, 9, 13, 14, 15, 16, 17, 18, 19, 20, 21, 22, 23, 24] (by decide +kernel) (by decide +kernel)
set_option maxRecDepth 20000 in
theorem gX4_readsNumber_X4_sign : GoodIn wsX4_readsNumber (wsV RX4 130 RX4 yX4_sign wsX4_sign) := goodIn_app (goodIn_of _ (by decide +kernel)) ggX4_readsNumber_X4_sign
set_option maxRecDepth 20000 in
theorem ggX4_readsNumber_X4_in : GoodIn wsX4_readsNumber wsX4_in := goodIn_r _ [12] (by decide +kernel) (by decide +kernel)
set_option maxRecDepth 20000 in
theorem gX4_readsNumber_X4_in : GoodIn wsX4_readsNumber (va_wsS RX4 20 yX4_in wsX4_in) := goodIn_app (goodIn_of _ (by decide +kernel)) ggX4_readsNumber_X4_in
theorem dX4_readsNumber_0 : decode cX4_readsNumber 0 = .ok (.aload_n 0, 1) := by decide +kernel
theorem dX4_readsNumber_1 : decode cX4_readsNumber 1 = .ok (.invokevirtual 130, 3) := by decide +kernel
theorem dX4_readsNumber_4 : decode cX4_readsNumber 4 = .ok (.bipush 48, 2) := by decide +kernel
theorem dX4_readsNumber_6 : decode cX4_readsNumber 6 = .ok (.iload_n 1, 1) := by decide +kernel
theorem dX4_readsNumber_7 : decode cX4_readsNumber 7 = .ok (.iadd, 1) := by decide +kernel
theorem dX4_readsNumber_8 : decode cX4_readsNumber 8 = .ok (.bipush 57, 2) := by decide +kernel
theorem dX4_readsNumber_10 : decode cX4_readsNumber 10 = .ok (.invokestatic 20, 3) := by decide +kernel
theorem dX4_readsNumber_13 : decode cX4_readsNumber 13 = .ok (.ifCond .ne 5, 3) := by decide +kernel
theorem dX4_readsNumber_16 : decode cX4_readsNumber 16 = .ok (.iconst 0, 1) := by decide +kernel
theorem dX4_readsNumber_17 : decode cX4_readsNumber 17 = .ok (.ireturn, 1) := by decide +kernel
theorem dX4_readsNumber_18 : decode cX4_readsNumber 18 = .ok (.aload_n 0, 1) := by decide +kernel
theorem dX4_readsNumber_19 : decode cX4_readsNumber 19 = .ok (.aload_n 0, 1) := by decide +kernel
theorem dX4_readsNumber_20 : decode cX4_readsNumber 20 = .ok (.invokevirtual 130, 3) := by decide +kernel
theorem dX4_readsNumber_23 : decode cX4_readsNumber 23 = .ok (.bipush 48, 2) := by decide +kernel
theorem dX4_readsNumber_25 : decode cX4_readsNumber 25 = .ok (.isub, 1) := by decide +kernel
theorem dX4_readsNumber_26 : decode cX4_readsNumber 26 = .ok (.putfield 134, 3) := by decide +kernel
theorem dX4_readsNumber_29 : decode cX4_readsNumber 29 = .ok (.aload_n 0, 1) := by decide +kernel
theorem dX4_readsNumber_30 : decode cX4_readsNumber 30 = .ok (.dup, 1) := by decide +kernel
theorem dX4_readsNumber_31 : decode cX4_readsNumber 31 = .ok (.getfield 127, 3) := by decide +kernel
theorem dX4_readsNumber_34 : decode cX4_readsNumber 34 = .ok (.iconst 1, 1) := by decide +kernel
theorem dX4_readsNumber_35 : decode cX4_readsNumber 35 = .ok (.iadd, 1) := by decide +kernel
theorem dX4_readsNumber_36 : decode cX4_readsNumber 36 = .ok (.putfield 127, 3) := by decide +kernel
theorem dX4_readsNumber_39 : decode cX4_readsNumber 39 = .ok (.aload_n 0, 1) := by decide +kernel
theorem dX4_readsNumber_40 : decode cX4_readsNumber 40 = .ok (.getfield 134, 3) := by decide +kernel
theorem dX4_readsNumber_43 : decode cX4_readsNumber 43 = .ok (.ifCond .le 68, 3) := by decide +kernel
theorem dX4_readsNumber_46 : decode cX4_readsNumber 46 = .ok (.aload_n 0, 1) := by decide +kernel
theorem dX4_readsNumber_47 : decode cX4_readsNumber 47 = .ok (.invokevirtual 130, 3) := by decide +kernel
theorem dX4_readsNumber_50 : decode cX4_readsNumber 50 = .ok (.bipush 48, 2) := by decide +kernel
theorem dX4_readsNumber_52 : decode cX4_readsNumber 52 = .ok (.bipush 57, 2) := by decide +kernel
theorem dX4_readsNumber_54 : decode cX4_readsNumber 54 = .ok (.invokestatic 20, 3) := by decide +kernel
theorem dX4_readsNumber_57 : decode cX4_readsNumber 57 = .ok (.ifCond .eq 54, 3) := by decide +kernel
theorem dX4_readsNumber_60 : decode cX4_readsNumber 60 = .ok (.bipush 10, 2) := by decide +kernel
theorem dX4_readsNumber_62 : decode cX4_readsNumber 62 = .ok (.aload_n 0, 1) := by decide +kernel
theorem dX4_readsNumber_63 : decode cX4_readsNumber 63 = .ok (.getfield 134, 3) := by decide +kernel
theorem dX4_readsNumber_66 : decode cX4_readsNumber 66 = .ok (.imul, 1) := by decide +kernel
theorem dX4_readsNumber_67 : decode cX4_readsNumber 67 = .ok (.aload_n 0, 1) := by decide +kernel
theorem dX4_readsNumber_68 : decode cX4_readsNumber 68 = .ok (.invokevirtual 130, 3) := by decide +kernel
theorem dX4_readsNumber_71 : decode cX4_readsNumber 71 = .ok (.iadd, 1) := by decide +kernel
theorem dX4_readsNumber_72 : decode cX4_readsNumber 72 = .ok (.bipush 48, 2) := by decide +kernel
theorem dX4_readsNumber_74 : decode cX4_readsNumber 74 = .ok (.isub, 1) := by decide +kernel
theorem dX4_readsNumber_75 : decode cX4_readsNumber 75 = .ok (.iload_n 2, 1) := by decide +kernel
theorem dX4_readsNumber_76 : decode cX4_readsNumber 76 = .ok (.if_icmp .gt 35, 3) := by decide +kernel
theorem dX4_readsNumber_79 : decode cX4_readsNumber 79 = .ok (.aload_n 0, 1) := by decide +kernel
theorem dX4_readsNumber_80 : decode cX4_readsNumber 80 = .ok (.bipush 10, 2) := by decide +kernel
theorem dX4_readsNumber_82 : decode cX4_readsNumber 82 = .ok (.aload_n 0, 1) := by decide +kernel
theorem dX4_readsNumber_83 : decode cX4_readsNumber 83 = .ok (.getfield 134, 3) := by decide +kernel
theorem dX4_readsNumber_86 : decode cX4_readsNumber 86 = .ok (.imul, 1) := by decide +kernel
theorem dX4_readsNumber_87 : decode cX4_readsNumber 87 = .ok (.aload_n 0, 1) := by decide +kernel
theorem dX4_readsNumber_88 : decode cX4_readsNumber 88 = .ok (.invokevirtual 130, 3) := by decide +kernel
theorem dX4_readsNumber_91 : decode cX4_readsNumber 91 = .ok (.iadd, 1) := by decide +kernel
theorem dX4_readsNumber_92 : decode cX4_readsNumber 92 = .ok (.bipush 48, 2) := by decide +kernel
theorem dX4_readsNumber_94 : decode cX4_readsNumber 94 = .ok (.isub, 1) := by decide +kernel
theorem dX4_readsNumber_95 : decode cX4_readsNumber 95 = .ok (.putfield 134, 3) := by decide +kernel
theorem dX4_readsNumber_98 : decode cX4_readsNumber 98 = .ok (.aload_n 0, 1) := by decide +kernel
theorem dX4_readsNumber_99 : decode cX4_readsNumber 99 = .ok (.dup, 1) := by decide +kernel
theorem dX4_readsNumber_100 : decode cX4_readsNumber 100 = .ok (.getfield 127, 3) := by decide +kernel
theorem dX4_readsNumber_103 : decode cX4_readsNumber 103 = .ok (.iconst 1, 1) := by decide +kernel
theorem dX4_readsNumber_104 : decode cX4_readsNumber 104 = .ok (.iadd, 1) := by decide +kernel
theorem dX4_readsNumber_105 : decode cX4_readsNumber 105 = .ok (.putfield 127, 3) := by decide +kernel
theorem dX4_readsNumber_108 : decode cX4_readsNumber 108 = .ok (.goto (-69), 3) := by decide +kernel
theorem dX4_readsNumber_111 : decode cX4_readsNumber 111 = .ok (.iconst 1, 1) := by decide +kernel
theorem dX4_readsNumber_112 : decode cX4_readsNumber 112 = .ok (.ireturn, 1) := by decide +kernel
set_option maxRecDepth 20000 in
theorem ggX4_readsAmount_X4_takes : GoodIn wsX4_readsAmount wsX4_takes := goodIn_r _ [6, 7, 8, 9, 10, 5, 11, 12, 13, 21, 22, 23, 24, 25, 26, 27, 28, 29, 30, 31, 32] (by decide +kernel) (by decide +kernel)
set_option maxRecDepth 20000 in
theorem gX4_readsAmount_X4_takes : GoodIn wsX4_readsAmount (wsV RX4 137 RX4 yX4_takes wsX4_takes) := goodIn_app (goodIn_of _ (by decide +kernel)) ggX4_readsAmount_X4_takes
set_option maxRecDepth 20000 in
theorem ggX4_readsAmount_X4_readsNumber : GoodIn wsX4_readsAmount wsX4_readsNumber := goodIn_r _ [17, 1, 7, 8, 9, 10, 5, 11, 12, 13, 18, 19, 20, 21, 22, 23, 24, 25, 26, 27, 28, 29, 30, 31, 32] (by decide +kernel) (by decide +kernel)
set_option maxRecDepth 20000 in
theorem gX4_readsAmount_X4_readsNumber : GoodIn wsX4_readsAmount (wsV RX4 140 RX4 yX4_readsNumber wsX4_readsNumber) := goodIn_app (goodIn_of _ (by decide +kernel)) ggX4_readsAmount_X4_readsNumber
theorem dX4_readsAmount_0 : decode cX4_readsAmount 0 = .ok (.aload_n 0, 1) := by decide +kernel
theorem dX4_readsAmount_1 : decode cX4_readsAmount 1 = .ok (.bipush 45, 2) := by decide +kernel
theorem dX4_readsAmount_3 : decode cX4_readsAmount 3 = .ok (.invokevirtual 137, 3) := by decide +kernel
theorem dX4_readsAmount_6 : decode cX4_readsAmount 6 = .ok (.istore_n 1, 1) := by decide +kernel
theorem dX4_readsAmount_7 : decode cX4_readsAmount 7 = .ok (.aload_n 0, 1) := by decide +kernel
theorem dX4_readsAmount_8 : decode cX4_readsAmount 8 = .ok (.iconst 1, 1) := by decide +kernel
theorem dX4_readsAmount_9 : decode cX4_readsAmount 9 = .ok (.bipush 99, 2) := by decide +kernel
theorem dX4_readsAmount_11 : decode cX4_readsAmount 11 = .ok (.invokevirtual 140, 3) := by decide +kernel
theorem dX4_readsAmount_14 : decode cX4_readsAmount 14 = .ok (.istore_n 2, 1) := by decide +kernel
theorem dX4_readsAmount_15 : decode cX4_readsAmount 15 = .ok (.aload_n 0, 1) := by decide +kernel
theorem dX4_readsAmount_16 : decode cX4_readsAmount 16 = .ok (.iload_n 1, 1) := by decide +kernel
theorem dX4_readsAmount_17 : decode cX4_readsAmount 17 = .ok (.ifCond .eq 11, 3) := by decide +kernel
theorem dX4_readsAmount_20 : decode cX4_readsAmount 20 = .ok (.aload_n 0, 1) := by decide +kernel
theorem dX4_readsAmount_21 : decode cX4_readsAmount 21 = .ok (.getfield 134, 3) := by decide +kernel
theorem dX4_readsAmount_24 : decode cX4_readsAmount 24 = .ok (.ineg, 1) := by decide +kernel
theorem dX4_readsAmount_25 : decode cX4_readsAmount 25 = .ok (.goto 7, 3) := by decide +kernel
theorem dX4_readsAmount_28 : decode cX4_readsAmount 28 = .ok (.aload_n 0, 1) := by decide +kernel
theorem dX4_readsAmount_29 : decode cX4_readsAmount 29 = .ok (.getfield 134, 3) := by decide +kernel
theorem dX4_readsAmount_32 : decode cX4_readsAmount 32 = .ok (.putfield 134, 3) := by decide +kernel
theorem dX4_readsAmount_35 : decode cX4_readsAmount 35 = .ok (.iload_n 2, 1) := by decide +kernel
theorem dX4_readsAmount_36 : decode cX4_readsAmount 36 = .ok (.ireturn, 1) := by decide +kernel
set_option maxRecDepth 20000 in
theorem ggX4_readsNumbers_X4_digit : GoodIn wsX4_readsNumbers wsX4_digit := goodIn_r _ [8, 9, 10, 11, 12, 7, 13, 14, 15, 16, 17, 18, 32, 33, 34, 35, 36, 37, 38, 39, 40, 41, 42, 43] (by decide +kernel) (by decide +kernel)
set_option maxRecDepth 20000 in
theorem gX4_readsNumbers_X4_digit : GoodIn wsX4_readsNumbers (wsV RX4 143 RX4 yX4_digit wsX4_digit) := goodIn_app (goodIn_of _ (by decide +kernel)) ggX4_readsNumbers_X4_digit
set_option maxRecDepth 20000 in
theorem ggX4_readsNumbers_X4_sign : GoodIn wsX4_readsNumbers wsX4_sign := goodIn_r _ [13, 9, 14, 15, 32, 33, 34, 35, 36, 37, 38, 39, 40, 41, 42, 43] (by decide +kernel) (by decide +kernel)
set_option maxRecDepth 20000 in
theorem gX4_readsNumbers_X4_sign : GoodIn wsX4_readsNumbers (wsV RX4 130 RX4 yX4_sign wsX4_sign) := goodIn_app (goodIn_of _ (by decide +kernel)) ggX4_readsNumbers_X4_sign
set_option maxRecDepth 20000 in
theorem ggX4_readsNumbers_X4_takes : GoodIn wsX4_readsNumbers wsX4_takes := goodIn_r _ [22, 9, 10, 11, 12, 7, 13, 14, 15, 32, 33, 34, 35, 36, 37, 38, 39, 40, 41, 42, 43] (by decide +kernel) (by decide +kernel)
set_option maxRecDepth 20000 in
theorem gX4_readsNumbers_X4_takes : GoodIn wsX4_readsNumbers (wsV RX4 137 RX4 yX4_takes wsX4_takes) := goodIn_app (goodIn_of _ (by decide +kernel)) ggX4_readsNumbers_X4_takes
set_option maxRecDepth 20000 in
theorem ggX4_readsNumbers_X4_readsAmount : GoodIn wsX4_readsNumbers wsX4_readsAmount := goodIn_r _ [26, 27, 19, 20, 21, 7, 22, 9, 10, 11, 12, 13, 14, 15, 28, 29, 30, 31, 16, 17, 18, 32, 33, 34, 35, 36, 37, 38, 39, 40, 41, 42, 43] (by decide +kernel) (by decide +kernel)
set_option maxRecDepth 20000 in
theorem gX4_readsNumbers_X4_readsAmount : GoodIn wsX4_readsNumbers (wsV RX4 156 RX4 yX4_readsAmount wsX4_readsAmount) := goodIn_app (goodIn_of _ (by decide +kernel)) ggX4_readsNumbers_X4_readsAmount
set_option maxRecDepth 20000 in
theorem ggX4_readsNumbers_X4_readsNumber : GoodIn wsX4_readsNumbers wsX4_readsNumber := goodIn_r _ [31, 27, 9, 10, 11, 12, 7, 13, 14, 15, 16, 17, 18, 32, 33, 34, 35, 36, 37, 38, 39, 40, 41, 42, 43] (by decide +kernel) (by decide +kernel)
set_option maxRecDepth 20000 in
theorem gX4_readsNumbers_X4_readsNumber : GoodIn wsX4_readsNumbers (wsV RX4 140 RX4 yX4_readsNumber wsX4_readsNumber) := goodIn_app (goodIn_of _ (by decide +kernel)) ggX4_readsNumbers_X4_readsNumber
theorem dX4_readsNumbers_0 : decode cX4_readsNumbers 0 = .ok (.aload_n 0, 1) := by decide +kernel
theorem dX4_readsNumbers_1 : decode cX4_readsNumbers 1 = .ok (.aload_n 0, 1) := by decide +kernel
theorem dX4_readsNumbers_2 : decode cX4_readsNumbers 2 = .ok (.iconst 3, 1) := by decide +kernel
theorem dX4_readsNumbers_3 : decode cX4_readsNumbers 3 = .ok (.invokevirtual 143, 3) := by decide +kernel
theorem dX4_readsNumbers_6 : decode cX4_readsNumbers 6 = .ok (.putfield 147, 3) := by decide +kernel
theorem dX4_readsNumbers_9 : decode cX4_readsNumbers 9 = .ok (.aload_n 0, 1) := by decide +kernel
theorem dX4_readsNumbers_10 : decode cX4_readsNumbers 10 = .ok (.getfield 147, 3) := by decide +kernel
theorem dX4_readsNumbers_13 : decode cX4_readsNumbers 13 = .ok (.iconst (-1), 1) := by decide +kernel
theorem dX4_readsNumbers_14 : decode cX4_readsNumbers 14 = .ok (.if_icmp .ne 5, 3) := by decide +kernel
theorem dX4_readsNumbers_17 : decode cX4_readsNumbers 17 = .ok (.iconst 0, 1) := by decide +kernel
theorem dX4_readsNumbers_18 : decode cX4_readsNumbers 18 = .ok (.ireturn, 1) := by decide +kernel
theorem dX4_readsNumbers_19 : decode cX4_readsNumbers 19 = .ok (.aload_n 0, 1) := by decide +kernel
theorem dX4_readsNumbers_20 : decode cX4_readsNumbers 20 = .ok (.getfield 150, 3) := by decide +kernel
theorem dX4_readsNumbers_23 : decode cX4_readsNumbers 23 = .ok (.bipush 109, 2) := by decide +kernel
theorem dX4_readsNumbers_25 : decode cX4_readsNumbers 25 = .ok (.if_icmp .ne 54, 3) := by decide +kernel
theorem dX4_readsNumbers_28 : decode cX4_readsNumbers 28 = .ok (.aload_n 0, 1) := by decide +kernel
theorem dX4_readsNumbers_29 : decode cX4_readsNumbers 29 = .ok (.invokevirtual 130, 3) := by decide +kernel
theorem dX4_readsNumbers_32 : decode cX4_readsNumbers 32 = .ok (.bipush 48, 2) := by decide +kernel
theorem dX4_readsNumbers_34 : decode cX4_readsNumbers 34 = .ok (.aload_n 0, 1) := by decide +kernel
theorem dX4_readsNumbers_35 : decode cX4_readsNumbers 35 = .ok (.getfield 147, 3) := by decide +kernel
theorem dX4_readsNumbers_38 : decode cX4_readsNumbers 38 = .ok (.iadd, 1) := by decide +kernel
theorem dX4_readsNumbers_39 : decode cX4_readsNumbers 39 = .ok (.if_icmp .eq 7, 3) := by decide +kernel
theorem dX4_readsNumbers_42 : decode cX4_readsNumbers 42 = .ok (.iconst 1, 1) := by decide +kernel
theorem dX4_readsNumbers_43 : decode cX4_readsNumbers 43 = .ok (.goto 4, 3) := by decide +kernel
theorem dX4_readsNumbers_46 : decode cX4_readsNumbers 46 = .ok (.iconst 0, 1) := by decide +kernel
theorem dX4_readsNumbers_47 : decode cX4_readsNumbers 47 = .ok (.istore_n 1, 1) := by decide +kernel
theorem dX4_readsNumbers_48 : decode cX4_readsNumbers 48 = .ok (.aload_n 0, 1) := by decide +kernel
theorem dX4_readsNumbers_49 : decode cX4_readsNumbers 49 = .ok (.iload_n 1, 1) := by decide +kernel
theorem dX4_readsNumbers_50 : decode cX4_readsNumbers 50 = .ok (.ifCond .eq 11, 3) := by decide +kernel
theorem dX4_readsNumbers_53 : decode cX4_readsNumbers 53 = .ok (.aload_n 0, 1) := by decide +kernel
theorem dX4_readsNumbers_54 : decode cX4_readsNumbers 54 = .ok (.iconst 3, 1) := by decide +kernel
theorem dX4_readsNumbers_55 : decode cX4_readsNumbers 55 = .ok (.invokevirtual 143, 3) := by decide +kernel
theorem dX4_readsNumbers_58 : decode cX4_readsNumbers 58 = .ok (.goto 4, 3) := by decide +kernel
theorem dX4_readsNumbers_61 : decode cX4_readsNumbers 61 = .ok (.iconst (-1), 1) := by decide +kernel
theorem dX4_readsNumbers_62 : decode cX4_readsNumbers 62 = .ok (.putfield 153, 3) := by decide +kernel
theorem dX4_readsNumbers_65 : decode cX4_readsNumbers 65 = .ok (.aload_n 0, 1) := by decide +kernel
theorem dX4_readsNumbers_66 : decode cX4_readsNumbers 66 = .ok (.getfield 153, 3) := by decide +kernel
theorem dX4_readsNumbers_69 : decode cX4_readsNumbers 69 = .ok (.iconst (-1), 1) := by decide +kernel
theorem dX4_readsNumbers_70 : decode cX4_readsNumbers 70 = .ok (.if_icmp .eq 7, 3) := by decide +kernel
theorem dX4_readsNumbers_73 : decode cX4_readsNumbers 73 = .ok (.iconst 1, 1) := by decide +kernel
theorem dX4_readsNumbers_74 : decode cX4_readsNumbers 74 = .ok (.goto 4, 3) := by decide +kernel
theorem dX4_readsNumbers_77 : decode cX4_readsNumbers 77 = .ok (.iconst 0, 1) := by decide +kernel
theorem dX4_readsNumbers_78 : decode cX4_readsNumbers 78 = .ok (.ireturn, 1) := by decide +kernel
theorem dX4_readsNumbers_79 : decode cX4_readsNumbers 79 = .ok (.aload_n 0, 1) := by decide +kernel
theorem dX4_readsNumbers_80 : decode cX4_readsNumbers 80 = .ok (.aload_n 0, 1) := by decide +kernel
theorem dX4_readsNumbers_81 : decode cX4_readsNumbers 81 = .ok (.iconst 5, 1) := by decide +kernel
theorem dX4_readsNumbers_82 : decode cX4_readsNumbers 82 = .ok (.invokevirtual 143, 3) := by decide +kernel
theorem dX4_readsNumbers_85 : decode cX4_readsNumbers 85 = .ok (.putfield 153, 3) := by decide +kernel
theorem dX4_readsNumbers_88 : decode cX4_readsNumbers 88 = .ok (.aload_n 0, 1) := by decide +kernel
theorem dX4_readsNumbers_89 : decode cX4_readsNumbers 89 = .ok (.getfield 153, 3) := by decide +kernel
theorem dX4_readsNumbers_92 : decode cX4_readsNumbers 92 = .ok (.iconst (-1), 1) := by decide +kernel
theorem dX4_readsNumbers_93 : decode cX4_readsNumbers 93 = .ok (.if_icmp .eq 12, 3) := by decide +kernel
theorem dX4_readsNumbers_96 : decode cX4_readsNumbers 96 = .ok (.aload_n 0, 1) := by decide +kernel
theorem dX4_readsNumbers_97 : decode cX4_readsNumbers 97 = .ok (.getfield 150, 3) := by decide +kernel
theorem dX4_readsNumbers_100 : decode cX4_readsNumbers 100 = .ok (.bipush 100, 2) := by decide +kernel
theorem dX4_readsNumbers_102 : decode cX4_readsNumbers 102 = .ok (.if_icmp .ne 17, 3) := by decide +kernel
theorem dX4_readsNumbers_105 : decode cX4_readsNumbers 105 = .ok (.aload_n 0, 1) := by decide +kernel
theorem dX4_readsNumbers_106 : decode cX4_readsNumbers 106 = .ok (.getfield 153, 3) := by decide +kernel
theorem dX4_readsNumbers_109 : decode cX4_readsNumbers 109 = .ok (.iconst (-1), 1) := by decide +kernel
theorem dX4_readsNumbers_110 : decode cX4_readsNumbers 110 = .ok (.if_icmp .eq 7, 3) := by decide +kernel
theorem dX4_readsNumbers_113 : decode cX4_readsNumbers 113 = .ok (.iconst 1, 1) := by decide +kernel
theorem dX4_readsNumbers_114 : decode cX4_readsNumbers 114 = .ok (.goto 4, 3) := by decide +kernel
theorem dX4_readsNumbers_117 : decode cX4_readsNumbers 117 = .ok (.iconst 0, 1) := by decide +kernel
theorem dX4_readsNumbers_118 : decode cX4_readsNumbers 118 = .ok (.ireturn, 1) := by decide +kernel
theorem dX4_readsNumbers_119 : decode cX4_readsNumbers 119 = .ok (.aload_n 0, 1) := by decide +kernel
theorem dX4_readsNumbers_120 : decode cX4_readsNumbers 120 = .ok (.bipush 44, 2) := by decide +kernel
theorem dX4_readsNumbers_122 : decode cX4_readsNumbers 122 = .ok (.invokevirtual 137, 3) := by decide +kernel
theorem dX4_readsNumbers_125 : decode cX4_readsNumbers 125 = .ok (.ifCond .ne 5, 3) := by decide +kernel
theorem dX4_readsNumbers_128 : decode cX4_readsNumbers 128 = .ok (.iconst 0, 1) := by decide +kernel
theorem dX4_readsNumbers_129 : decode cX4_readsNumbers 129 = .ok (.ireturn, 1) := by decide +kernel
theorem dX4_readsNumbers_130 : decode cX4_readsNumbers 130 = .ok (.aload_n 0, 1) := by decide +kernel
theorem dX4_readsNumbers_131 : decode cX4_readsNumbers 131 = .ok (.getfield 150, 3) := by decide +kernel
theorem dX4_readsNumbers_134 : decode cX4_readsNumbers 134 = .ok (.bipush 97, 2) := by decide +kernel
theorem dX4_readsNumbers_136 : decode cX4_readsNumbers 136 = .ok (.if_icmp .ne 10, 3) := by decide +kernel
theorem dX4_readsNumbers_139 : decode cX4_readsNumbers 139 = .ok (.aload_n 0, 1) := by decide +kernel
theorem dX4_readsNumbers_140 : decode cX4_readsNumbers 140 = .ok (.invokevirtual 156, 3) := by decide +kernel
theorem dX4_readsNumbers_143 : decode cX4_readsNumbers 143 = .ok (.goto 34, 3) := by decide +kernel
theorem dX4_readsNumbers_146 : decode cX4_readsNumbers 146 = .ok (.aload_n 0, 1) := by decide +kernel
theorem dX4_readsNumbers_147 : decode cX4_readsNumbers 147 = .ok (.iconst 0, 1) := by decide +kernel
theorem dX4_readsNumbers_148 : decode cX4_readsNumbers 148 = .ok (.aload_n 0, 1) := by decide +kernel
theorem dX4_readsNumbers_149 : decode cX4_readsNumbers 149 = .ok (.getfield 150, 3) := by decide +kernel
theorem dX4_readsNumbers_152 : decode cX4_readsNumbers 152 = .ok (.bipush 105, 2) := by decide +kernel
theorem dX4_readsNumbers_154 : decode cX4_readsNumbers 154 = .ok (.if_icmp .eq 12, 3) := by decide +kernel
theorem dX4_readsNumbers_157 : decode cX4_readsNumbers 157 = .ok (.aload_n 0, 1) := by decide +kernel
theorem dX4_readsNumbers_158 : decode cX4_readsNumbers 158 = .ok (.getfield 150, 3) := by decide +kernel
theorem dX4_readsNumbers_161 : decode cX4_readsNumbers 161 = .ok (.bipush 101, 2) := by decide +kernel
theorem dX4_readsNumbers_163 : decode cX4_readsNumbers 163 = .ok (.if_icmp .ne 8, 3) := by decide +kernel
theorem dX4_readsNumbers_166 : decode cX4_readsNumbers 166 = .ok (.bipush 15, 2) := by decide +kernel
theorem dX4_readsNumbers_168 : decode cX4_readsNumbers 168 = .ok (.goto 6, 3) := by decide +kernel
theorem dX4_readsNumbers_171 : decode cX4_readsNumbers 171 = .ok (.sipush 999, 3) := by decide +kernel
theorem dX4_readsNumbers_174 : decode cX4_readsNumbers 174 = .ok (.invokevirtual 140, 3) := by decide +kernel
theorem dX4_readsNumbers_177 : decode cX4_readsNumbers 177 = .ok (.ireturn, 1) := by decide +kernel
set_option maxRecDepth 20000 in
theorem ggX4_readsCommand_X4_sign : GoodIn wsX4_readsCommand wsX4_sign := goodIn_r _ [7, 2, 8, 9, 36, 37, 38, 39, 40, 41, 42, 43, 44, 45, 46, 47] (by decide +kernel) (by decide +kernel)
set_option maxRecDepth 20000 in
theorem gX4_readsCommand_X4_sign : GoodIn wsX4_readsCommand (wsV RX4 130 RX4 yX4_sign wsX4_sign) := goodIn_app (goodIn_of _ (by decide +kernel)) ggX4_readsCommand_X4_sign
set_option maxRecDepth 20000 in
theorem ggX4_readsCommand_X4_readsNumbers : GoodIn wsX4_readsCommand wsX4_readsNumbers := goodIn_r _ [13, 14, 1, 15, 16, 17, 18, 6, 19, 2, 3, 4, 5, 7, 8, 9, 20, 21, 22, 23, 24, 25, 26, 27, 28, 29, 30, 31, 32, 33, 34, 35, 36, 37, 38, 39, 40, 41, 42, 43, 44, 45, 46, 47] (by decide +kernel) (by decide +kernel)
set_option maxRecDepth 20000 in
theorem gX4_readsCommand_X4_readsNumbers : GoodIn wsX4_readsCommand (wsV RX4 160 RX4 yX4_readsNumbers wsX4_readsNumbers) := goodIn_app (goodIn_of _ (by decide +kernel)) ggX4_readsCommand_X4_readsNumbers
theorem dX4_readsCommand_0 : decode cX4_readsCommand 0 = .ok (.aload_n 0, 1) := by decide +kernel
theorem dX4_readsCommand_1 : decode cX4_readsCommand 1 = .ok (.aload_n 0, 1) := by decide +kernel
theorem dX4_readsCommand_2 : decode cX4_readsCommand 2 = .ok (.invokevirtual 130, 3) := by decide +kernel
theorem dX4_readsCommand_5 : decode cX4_readsCommand 5 = .ok (.putfield 150, 3) := by decide +kernel
theorem dX4_readsCommand_8 : decode cX4_readsCommand 8 = .ok (.aload_n 0, 1) := by decide +kernel
theorem dX4_readsCommand_9 : decode cX4_readsCommand 9 = .ok (.getfield 150, 3) := by decide +kernel
theorem dX4_readsCommand_12 : decode cX4_readsCommand 12 = .ok (.tableswitch 119 97 118 #[104, 119, 119, 104, 104, 119, 104, 119, 104, 119, 119, 104, 104, 119, 119, 119, 119, 119, 119, 119, 119, 104], 104) := by decide +kernel
theorem dX4_readsCommand_116 : decode cX4_readsCommand 116 = .ok (.aload_n 0, 1) := by decide +kernel
theorem dX4_readsCommand_117 : decode cX4_readsCommand 117 = .ok (.dup, 1) := by decide +kernel
theorem dX4_readsCommand_118 : decode cX4_readsCommand 118 = .ok (.getfield 127, 3) := by decide +kernel
theorem dX4_readsCommand_121 : decode cX4_readsCommand 121 = .ok (.iconst 1, 1) := by decide +kernel
theorem dX4_readsCommand_122 : decode cX4_readsCommand 122 = .ok (.iadd, 1) := by decide +kernel
theorem dX4_readsCommand_123 : decode cX4_readsCommand 123 = .ok (.putfield 127, 3) := by decide +kernel
theorem dX4_readsCommand_126 : decode cX4_readsCommand 126 = .ok (.aload_n 0, 1) := by decide +kernel
theorem dX4_readsCommand_127 : decode cX4_readsCommand 127 = .ok (.invokevirtual 160, 3) := by decide +kernel
theorem dX4_readsCommand_130 : decode cX4_readsCommand 130 = .ok (.ireturn, 1) := by decide +kernel
theorem dX4_readsCommand_131 : decode cX4_readsCommand 131 = .ok (.iconst 0, 1) := by decide +kernel
theorem dX4_readsCommand_132 : decode cX4_readsCommand 132 = .ok (.ireturn, 1) := by decide +kernel
set_option maxRecDepth 20000 in
theorem ggX4_isValid_X4_readsCommand : GoodIn wsX4_isValid wsX4_readsCommand := goodIn_r _ [7, 8, 1, 9, 10, 11, 6, 12, 2, 13, 14, 15, 16, 17, 18, 19, 20, 21, 22, 23, 24, 25, 26, 27, 28, 29, 30, 31, 32, 33, 34, 35, 36, 37, 38, 39, 40, 41, 42, 43, 44, 45, 46, 47, 48, 49, 50, 51] (by decide +kernel) (by decide +kernel)
set_option maxRecDepth 20000 in
theorem gX4_isValid_X4_readsCommand : GoodIn wsX4_isValid (wsV RX4 163 RX4 yX4_readsCommand wsX4_readsCommand) := goodIn_app (goodIn_of _ (by decide +kernel)) ggX4_isValid_X4_readsCommand
set_option maxRecDepth 20000 in
theorem ggX4_isValid_X4_takes : GoodIn wsX4_isValid wsX4_takes := goodIn_r _ [30, 1, 9, 10, 11, 6, 12, 2, 13, 40, 41, 42, 43, 44, 45, 46, 47, 48, 49, 50, 51] (by decide +kernel) (by decide +kernel)
set_option maxRecDepth 20000 in
theorem gX4_isValid_X4_takes : GoodIn wsX4_isValid (wsV RX4 137 RX4 yX4_takes wsX4_takes) := goodIn_app (goodIn_of _ (by decide +kernel)) ggX4_isValid_X4_takes
theorem dX4_isValid_0 : decode cX4_isValid 0 = .ok (.aload_n 0, 1) := by decide +kernel
theorem dX4_isValid_1 : decode cX4_isValid 1 = .ok (.iconst 0, 1) := by decide +kernel
theorem dX4_isValid_2 : decode cX4_isValid 2 = .ok (.putfield 127, 3) := by decide +kernel
theorem dX4_isValid_5 : decode cX4_isValid 5 = .ok (.aload_n 0, 1) := by decide +kernel
theorem dX4_isValid_6 : decode cX4_isValid 6 = .ok (.invokevirtual 163, 3) := by decide +kernel
theorem dX4_isValid_9 : decode cX4_isValid 9 = .ok (.ifCond .eq 27, 3) := by decide +kernel
theorem dX4_isValid_12 : decode cX4_isValid 12 = .ok (.aload_n 0, 1) := by decide +kernel
theorem dX4_isValid_13 : decode cX4_isValid 13 = .ok (.getfield 127, 3) := by decide +kernel
theorem dX4_isValid_16 : decode cX4_isValid 16 = .ok (.aload_n 0, 1) := by decide +kernel
theorem dX4_isValid_17 : decode cX4_isValid 17 = .ok (.getfield 124, 3) := by decide +kernel
theorem dX4_isValid_20 : decode cX4_isValid 20 = .ok (.if_icmp .ne 5, 3) := by decide +kernel
theorem dX4_isValid_23 : decode cX4_isValid 23 = .ok (.iconst 1, 1) := by decide +kernel
theorem dX4_isValid_24 : decode cX4_isValid 24 = .ok (.ireturn, 1) := by decide +kernel
theorem dX4_isValid_25 : decode cX4_isValid 25 = .ok (.aload_n 0, 1) := by decide +kernel
theorem dX4_isValid_26 : decode cX4_isValid 26 = .ok (.bipush 59, 2) := by decide +kernel
theorem dX4_isValid_28 : decode cX4_isValid 28 = .ok (.invokevirtual 137, 3) := by decide +kernel
theorem dX4_isValid_31 : decode cX4_isValid 31 = .ok (.ifCond .ne (-26), 3) := by decide +kernel
theorem dX4_isValid_34 : decode cX4_isValid 34 = .ok (.iconst 0, 1) := by decide +kernel
theorem dX4_isValid_35 : decode cX4_isValid 35 = .ok (.ireturn, 1) := by decide +kernel
theorem dX4_isValid_36 : decode cX4_isValid 36 = .ok (.iconst 0, 1) := by decide +kernel
theorem dX4_isValid_37 : decode cX4_isValid 37 = .ok (.ireturn, 1) := by decide +kernel
set_option maxRecDepth 20000 in
theorem ggX4_errorPosition_X4_isValid : GoodIn wsX4_errorPosition wsX4_isValid := goodIn_r _ [7, 2, 8, 9, 10, 11, 6, 12, 13, 14, 15, 16, 17, 18, 19, 20, 21, 22, 23, 24, 25, 26, 27, 28, 29, 30, 31, 32, 33, 34, 35, 36, 37, 38, 39, 40, 41, 42, 43, 44, 45, 46, 47, 48, 49, 50, 51, 52, 53, 54, 55, 56] (by decide +kernel) (by decide +kernel)
set_option maxRecDepth 20000 in
theorem gX4_errorPosition_X4_isValid : GoodIn wsX4_errorPosition (wsV RX4 166 RX4 yX4_isValid wsX4_isValid) := goodIn_app (goodIn_of _ (by decide +kernel)) ggX4_errorPosition_X4_isValid
theorem dX4_errorPosition_0 : decode cX4_errorPosition 0 = .ok (.aload_n 0, 1) := by decide +kernel
theorem dX4_errorPosition_1 : decode cX4_errorPosition 1 = .ok (.iconst 0, 1) := by decide +kernel
theorem dX4_errorPosition_2 : decode cX4_errorPosition 2 = .ok (.putfield 16, 3) := by decide +kernel
theorem dX4_errorPosition_5 : decode cX4_errorPosition 5 = .ok (.aload_n 0, 1) := by decide +kernel
theorem dX4_errorPosition_6 : decode cX4_errorPosition 6 = .ok (.invokevirtual 166, 3) := by decide +kernel
theorem dX4_errorPosition_9 : decode cX4_errorPosition 9 = .ok (.ifCond .eq 7, 3) := by decide +kernel
theorem dX4_errorPosition_12 : decode cX4_errorPosition 12 = .ok (.iconst (-1), 1) := by decide +kernel
theorem dX4_errorPosition_13 : decode cX4_errorPosition 13 = .ok (.goto 7, 3) := by decide +kernel
theorem dX4_errorPosition_16 : decode cX4_errorPosition 16 = .ok (.aload_n 0, 1) := by decide +kernel
theorem dX4_errorPosition_17 : decode cX4_errorPosition 17 = .ok (.getfield 127, 3) := by decide +kernel
theorem dX4_errorPosition_20 : decode cX4_errorPosition 20 = .ok (.ireturn, 1) := by decide +kernel
set_option maxRecDepth 20000 in
theorem ggX4_does_X4_puts : GoodIn wsX4_does wsX4_puts := goodIn_r _ [9, 10, 11, 12, 8, 13, 14, 15, 16, 17, 18, 19, 20, 21, 22, 23, 24, 25, 26, 27, 28, 29, 30, 31, 32, 33, 34, 35, 36, 37, 38, 39, 40, 41, 42, 43, 44, 94, 95, 96, 97, 98, 99, 100, 101, 102, 103, 104, 105] (by decide +kernel) (by decide +kernel)
set_option maxRecDepth 20000 in
theorem gX4_does_X4_puts : GoodIn wsX4_does (wsV RX4 106 RX4 yX4_puts wsX4_puts) := goodIn_app (goodIn_of _ (by decide +kernel)) ggX4_does_X4_puts
set_option maxRecDepth 20000 in
theorem ggX4_does_X4_adds : GoodIn wsX4_does wsX4_adds := goodIn_r _ [48, 10, 11, 12, 8, 13, 14, 19, 20, 21, 22, 23, 24, 25, 26, 27, 28, 29, 34, 35, 36, 37, 38, 39, 40, 41, 42, 43, 44, 49, 50, 51, 52, 94, 95, 96, 97, 98, 99, 100, 101, 102, 103, 104, 105] (by decide +kernel) (by decide +kernel)
set_option maxRecDepth 20000 in
theorem gX4_does_X4_adds : GoodIn wsX4_does (wsV RX4 109 RX4 yX4_adds wsX4_adds) := goodIn_app (goodIn_of _ (by decide +kernel)) ggX4_does_X4_adds
set_option maxRecDepth 20000 in
theorem ggX4_does_X4_includes : GoodIn wsX4_does wsX4_includes := goodIn_r _ [56, 14, 10, 11, 12, 8, 13, 57, 58, 59, 60, 61, 62, 63, 38, 39, 40, 41, 94, 95, 96, 97, 98, 99, 100, 101, 102, 103, 104, 105] (by decide +kernel) (by decide +kernel)
set_option maxRecDepth 20000 in
theorem gX4_does_X4_includes : GoodIn wsX4_does (wsV RX4 112 RX4 yX4_includes wsX4_includes) := goodIn_app (goodIn_of _ (by decide +kernel)) ggX4_does_X4_includes
set_option maxRecDepth 20000 in
theorem ggX4_does_X4_excludes : GoodIn wsX4_does wsX4_excludes := goodIn_r _ [67, 10, 11, 12, 8, 13, 14, 57, 58, 59, 60, 61, 62, 63, 94, 95, 96, 97, 98, 99, 100, 101, 102, 103, 104, 105] (by decide +kernel) (by decide +kernel)
set_option maxRecDepth 20000 in
theorem gX4_does_X4_excludes : GoodIn wsX4_does (wsV RX4 115 RX4 yX4_excludes wsX4_excludes) := goodIn_app (goodIn_of _ (by decide +kernel)) ggX4_does_X4_excludes
set_option maxRecDepth 20000 in
theorem ggX4_does_X4_deletes : GoodIn wsX4_does wsX4_deletes := goodIn_r _ [71, 10, 11, 12, 8, 13, 14, 30, 31, 32, 33, 19, 20, 21, 22, 23, 24, 25, 57, 58, 59, 60, 61, 62, 63, 94, 95, 96, 97, 98, 99, 100, 101, 102, 103, 104, 105] (by decide +kernel) (by decide +kernel)
set_option maxRecDepth 20000 in
theorem gX4_does_X4_deletes : GoodIn wsX4_does (wsV RX4 118 RX4 yX4_deletes wsX4_deletes) := goodIn_app (goodIn_of _ (by decide +kernel)) ggX4_does_X4_deletes
set_option maxRecDepth 20000 in
theorem ggX4_does_X4_merges : GoodIn wsX4_does wsX4_merges := goodIn_r _ [75, 14, 76, 77, 78, 79, 80, 8, 81, 82, 83, 84, 85, 86, 87, 88, 89, 38, 39, 40, 41, 42, 43, 44, 90, 91, 92, 93, 94, 95, 96, 97, 98, 99, 100, 101, 102, 103, 104, 105] (by decide +kernel) (by decide +kernel)
set_option maxRecDepth 20000 in
theorem gX4_does_X4_merges : GoodIn wsX4_does (wsV RX4 121 RX4 yX4_merges wsX4_merges) := goodIn_app (goodIn_of _ (by decide +kernel)) ggX4_does_X4_merges
theorem dX4_does_0 : decode cX4_does 0 = .ok (.aload_n 0, 1) := by decide +kernel
theorem dX4_does_1 : decode cX4_does 1 = .ok (.getfield 150, 3) := by decide +kernel
theorem dX4_does_4 : decode cX4_does 4 = .ok (.tableswitch 222 97 118 #[158, 222, 222, 209, 192, 222, 140, 222, 175, 222, 222, 104, 222, 222, 222, 222, 222, 222, 222, 222, 222, 122], 104) := by decide +kernel
theorem dX4_does_108 : decode cX4_does 108 = .ok (.aload_n 0, 1) := by decide +kernel
theorem dX4_does_109 : decode cX4_does 109 = .ok (.aload_n 0, 1) := by decide +kernel
theorem dX4_does_110 : decode cX4_does 110 = .ok (.getfield 147, 3) := by decide +kernel
theorem dX4_does_113 : decode cX4_does 113 = .ok (.aload_n 0, 1) := by decide +kernel
theorem dX4_does_114 : decode cX4_does 114 = .ok (.getfield 153, 3) := by decide +kernel
theorem dX4_does_117 : decode cX4_does 117 = .ok (.iconst 0, 1) := by decide +kernel
theorem dX4_does_118 : decode cX4_does 118 = .ok (.aload_n 0, 1) := by decide +kernel
theorem dX4_does_119 : decode cX4_does 119 = .ok (.getfield 134, 3) := by decide +kernel
theorem dX4_does_122 : decode cX4_does 122 = .ok (.invokevirtual 106, 3) := by decide +kernel
theorem dX4_does_125 : decode cX4_does 125 = .ok (.ireturn, 1) := by decide +kernel
theorem dX4_does_126 : decode cX4_does 126 = .ok (.aload_n 0, 1) := by decide +kernel
theorem dX4_does_127 : decode cX4_does 127 = .ok (.aload_n 0, 1) := by decide +kernel
theorem dX4_does_128 : decode cX4_does 128 = .ok (.getfield 147, 3) := by decide +kernel
theorem dX4_does_131 : decode cX4_does 131 = .ok (.aload_n 0, 1) := by decide +kernel
theorem dX4_does_132 : decode cX4_does 132 = .ok (.getfield 153, 3) := by decide +kernel
theorem dX4_does_135 : decode cX4_does 135 = .ok (.iconst 1, 1) := by decide +kernel
theorem dX4_does_136 : decode cX4_does 136 = .ok (.aload_n 0, 1) := by decide +kernel
theorem dX4_does_137 : decode cX4_does 137 = .ok (.getfield 134, 3) := by decide +kernel
theorem dX4_does_140 : decode cX4_does 140 = .ok (.invokevirtual 106, 3) := by decide +kernel
theorem dX4_does_143 : decode cX4_does 143 = .ok (.ireturn, 1) := by decide +kernel
theorem dX4_does_144 : decode cX4_does 144 = .ok (.aload_n 0, 1) := by decide +kernel
theorem dX4_does_145 : decode cX4_does 145 = .ok (.aload_n 0, 1) := by decide +kernel
theorem dX4_does_146 : decode cX4_does 146 = .ok (.getfield 147, 3) := by decide +kernel
theorem dX4_does_149 : decode cX4_does 149 = .ok (.aload_n 0, 1) := by decide +kernel
theorem dX4_does_150 : decode cX4_does 150 = .ok (.getfield 153, 3) := by decide +kernel
theorem dX4_does_153 : decode cX4_does 153 = .ok (.iconst 2, 1) := by decide +kernel
theorem dX4_does_154 : decode cX4_does 154 = .ok (.aload_n 0, 1) := by decide +kernel
theorem dX4_does_155 : decode cX4_does 155 = .ok (.getfield 134, 3) := by decide +kernel
theorem dX4_does_158 : decode cX4_does 158 = .ok (.invokevirtual 106, 3) := by decide +kernel
theorem dX4_does_161 : decode cX4_does 161 = .ok (.ireturn, 1) := by decide +kernel
theorem dX4_does_162 : decode cX4_does 162 = .ok (.aload_n 0, 1) := by decide +kernel
theorem dX4_does_163 : decode cX4_does 163 = .ok (.aload_n 0, 1) := by decide +kernel
theorem dX4_does_164 : decode cX4_does 164 = .ok (.getfield 147, 3) := by decide +kernel
theorem dX4_does_167 : decode cX4_does 167 = .ok (.aload_n 0, 1) := by decide +kernel
theorem dX4_does_168 : decode cX4_does 168 = .ok (.getfield 153, 3) := by decide +kernel
theorem dX4_does_171 : decode cX4_does 171 = .ok (.aload_n 0, 1) := by decide +kernel
theorem dX4_does_172 : decode cX4_does 172 = .ok (.getfield 134, 3) := by decide +kernel
theorem dX4_does_175 : decode cX4_does 175 = .ok (.invokevirtual 109, 3) := by decide +kernel
theorem dX4_does_178 : decode cX4_does 178 = .ok (.ireturn, 1) := by decide +kernel
theorem dX4_does_179 : decode cX4_does 179 = .ok (.aload_n 0, 1) := by decide +kernel
theorem dX4_does_180 : decode cX4_does 180 = .ok (.aload_n 0, 1) := by decide +kernel
theorem dX4_does_181 : decode cX4_does 181 = .ok (.getfield 147, 3) := by decide +kernel
theorem dX4_does_184 : decode cX4_does 184 = .ok (.aload_n 0, 1) := by decide +kernel
theorem dX4_does_185 : decode cX4_does 185 = .ok (.getfield 153, 3) := by decide +kernel
theorem dX4_does_188 : decode cX4_does 188 = .ok (.aload_n 0, 1) := by decide +kernel
theorem dX4_does_189 : decode cX4_does 189 = .ok (.getfield 134, 3) := by decide +kernel
theorem dX4_does_192 : decode cX4_does 192 = .ok (.invokevirtual 112, 3) := by decide +kernel
theorem dX4_does_195 : decode cX4_does 195 = .ok (.ireturn, 1) := by decide +kernel
theorem dX4_does_196 : decode cX4_does 196 = .ok (.aload_n 0, 1) := by decide +kernel
theorem dX4_does_197 : decode cX4_does 197 = .ok (.aload_n 0, 1) := by decide +kernel
theorem dX4_does_198 : decode cX4_does 198 = .ok (.getfield 147, 3) := by decide +kernel
theorem dX4_does_201 : decode cX4_does 201 = .ok (.aload_n 0, 1) := by decide +kernel
theorem dX4_does_202 : decode cX4_does 202 = .ok (.getfield 153, 3) := by decide +kernel
theorem dX4_does_205 : decode cX4_does 205 = .ok (.aload_n 0, 1) := by decide +kernel
theorem dX4_does_206 : decode cX4_does 206 = .ok (.getfield 134, 3) := by decide +kernel
theorem dX4_does_209 : decode cX4_does 209 = .ok (.invokevirtual 115, 3) := by decide +kernel
theorem dX4_does_212 : decode cX4_does 212 = .ok (.ireturn, 1) := by decide +kernel
theorem dX4_does_213 : decode cX4_does 213 = .ok (.aload_n 0, 1) := by decide +kernel
theorem dX4_does_214 : decode cX4_does 214 = .ok (.aload_n 0, 1) := by decide +kernel
theorem dX4_does_215 : decode cX4_does 215 = .ok (.getfield 147, 3) := by decide +kernel
theorem dX4_does_218 : decode cX4_does 218 = .ok (.aload_n 0, 1) := by decide +kernel
theorem dX4_does_219 : decode cX4_does 219 = .ok (.getfield 153, 3) := by decide +kernel
theorem dX4_does_222 : decode cX4_does 222 = .ok (.invokevirtual 118, 3) := by decide +kernel
theorem dX4_does_225 : decode cX4_does 225 = .ok (.ireturn, 1) := by decide +kernel
theorem dX4_does_226 : decode cX4_does 226 = .ok (.aload_n 0, 1) := by decide +kernel
theorem dX4_does_227 : decode cX4_does 227 = .ok (.aload_n 0, 1) := by decide +kernel
theorem dX4_does_228 : decode cX4_does 228 = .ok (.getfield 147, 3) := by decide +kernel
theorem dX4_does_231 : decode cX4_does 231 = .ok (.aload_n 0, 1) := by decide +kernel
theorem dX4_does_232 : decode cX4_does 232 = .ok (.getfield 153, 3) := by decide +kernel
theorem dX4_does_235 : decode cX4_does 235 = .ok (.invokevirtual 121, 3) := by decide +kernel
theorem dX4_does_238 : decode cX4_does 238 = .ok (.ireturn, 1) := by decide +kernel
set_option maxRecDepth 20000 in
theorem ggX4_runText_X4_isValid : GoodIn wsX4_runText wsX4_isValid := goodIn_r _ [6, 1, 7, 8, 9, 10, 5, 11, 12, 13, 14, 15, 16, 17, 18, 19, 20, 21, 22, 23, 24, 25, 26, 27, 28, 29, 30, 31, 32, 33, 34, 35, 36, 37, 38, 39, 40, 41, 42, 43, 150, 151, 152, 153, 154, 155, 156, 157, 158, 159, 160, 161] (by decide +kernel) (by decide +kernel)
set_option maxRecDepth 20000 in
theorem gX4_runText_X4_isValid : GoodIn wsX4_runText (wsV RX4 166 RX4 yX4_isValid wsX4_isValid) := goodIn_app (goodIn_of _ (by decide +kernel)) ggX4_runText_X4_isValid
set_option maxRecDepth 20000 in
theorem ggX4_runText_X4_holds : GoodIn wsX4_runText wsX4_holds := goodIn_r _ [47, 48, 150, 151, 152, 153, 154, 155, 156, 157, 158, 159, 160, 161] (by decide +kernel) (by decide +kernel)
set_option maxRecDepth 20000 in
theorem gX4_runText_X4_holds : GoodIn wsX4_runText (wsV RX4 100 RX4 yX4_holds wsX4_holds) := goodIn_app (goodIn_of _ (by decide +kernel)) ggX4_runText_X4_holds
set_option maxRecDepth 20000 in
theorem ggX4_runText_X4_keeps : GoodIn wsX4_runText wsX4_keeps := goodIn_r _ [52, 53, 54, 55, 56, 5, 57, 58, 150, 151, 152, 153, 154, 155, 156, 157, 158, 159, 160, 161] (by decide +kernel) (by decide +kernel)
set_option maxRecDepth 20000 in
theorem gX4_runText_X4_keeps : GoodIn wsX4_runText (wsV RX4 103 RX4 yX4_keeps wsX4_keeps) := goodIn_app (goodIn_of _ (by decide +kernel)) ggX4_runText_X4_keeps
set_option maxRecDepth 20000 in
theorem ggX4_runText_X4_readsCommand : GoodIn wsX4_runText wsX4_readsCommand := goodIn_r _ [11, 12, 1, 13, 14, 15, 5, 16, 7, 17, 18, 19, 20, 21, 22, 23, 24, 25, 26, 27, 28, 29, 30, 31, 32, 33, 34, 35, 36, 37, 38, 39, 40, 41, 42, 43, 150, 151, 152, 153, 154, 155, 156, 157, 158, 159, 160, 161] (by decide +kernel) (by decide +kernel)
set_option maxRecDepth 20000 in
theorem gX4_runText_X4_readsCommand : GoodIn wsX4_runText (wsV RX4 163 RX4 yX4_readsCommand wsX4_readsCommand) := goodIn_app (goodIn_of _ (by decide +kernel)) ggX4_runText_X4_readsCommand
set_option maxRecDepth 20000 in
theorem ggX4_runText_X4_does : GoodIn wsX4_runText wsX4_does := goodIn_r _ [62, 12, 22, 23, 39, 63, 64, 65, 5, 66, 67, 68, 69, 70, 58, 71, 72, 73, 74, 75, 76, 77, 78, 79, 80, 81, 82, 83, 84, 85, 86, 87, 88, 89, 90, 91, 92, 93, 94, 95, 96, 97, 98, 99, 100, 101, 102, 103, 104, 105, 106, 107, 108, 109, 110, 111, 112, 113, 114, 115, 116, 117, 118, 119, 120, 121, 122, 123, 124, 125, 126, 127, 128, 129, 130, 131, 132, 133, 134, 135, 136, 137, 138, 139, 140, 141, 142, 143, 144, 145, 146, 147, 148, 149, 150, 151, 152, 153, 154, 155, 156, 157, 158, 159, 160, 161] (by decide +kernel) (by decide +kernel)
set_option maxRecDepth 20000 in
theorem gX4_runText_X4_does : GoodIn wsX4_runText (wsV RX4 169 RX4 yX4_does wsX4_does) := goodIn_app (goodIn_of _ (by decide +kernel)) ggX4_runText_X4_does
set_option maxRecDepth 20000 in
theorem ggX4_runText_X4_takes : GoodIn wsX4_runText wsX4_takes := goodIn_r _ [34, 1, 13, 14, 15, 5, 16, 7, 17, 150, 151, 152, 153, 154, 155, 156, 157, 158, 159, 160, 161] (by decide +kernel) (by decide +kernel)
set_option maxRecDepth 20000 in
theorem gX4_runText_X4_takes : GoodIn wsX4_runText (wsV RX4 137 RX4 yX4_takes wsX4_takes) := goodIn_app (goodIn_of _ (by decide +kernel)) ggX4_runText_X4_takes
theorem dX4_runText_0 : decode cX4_runText 0 = .ok (.aload_n 0, 1) := by decide +kernel
theorem dX4_runText_1 : decode cX4_runText 1 = .ok (.aload_n 0, 1) := by decide +kernel
theorem dX4_runText_2 : decode cX4_runText 2 = .ok (.invokevirtual 166, 3) := by decide +kernel
theorem dX4_runText_5 : decode cX4_runText 5 = .ok (.ifCond .eq 7, 3) := by decide +kernel
theorem dX4_runText_8 : decode cX4_runText 8 = .ok (.iconst 0, 1) := by decide +kernel
theorem dX4_runText_9 : decode cX4_runText 9 = .ok (.goto 4, 3) := by decide +kernel
theorem dX4_runText_12 : decode cX4_runText 12 = .ok (.iconst 1, 1) := by decide +kernel
theorem dX4_runText_13 : decode cX4_runText 13 = .ok (.invokevirtual 100, 3) := by decide +kernel
theorem dX4_runText_16 : decode cX4_runText 16 = .ok (.ifCond .ne 5, 3) := by decide +kernel
theorem dX4_runText_19 : decode cX4_runText 19 = .ok (.iconst 0, 1) := by decide +kernel
theorem dX4_runText_20 : decode cX4_runText 20 = .ok (.ireturn, 1) := by decide +kernel
theorem dX4_runText_21 : decode cX4_runText 21 = .ok (.aload_n 0, 1) := by decide +kernel
theorem dX4_runText_22 : decode cX4_runText 22 = .ok (.invokevirtual 103, 3) := by decide +kernel
theorem dX4_runText_25 : decode cX4_runText 25 = .ok (.aload_n 0, 1) := by decide +kernel
theorem dX4_runText_26 : decode cX4_runText 26 = .ok (.iconst 0, 1) := by decide +kernel
theorem dX4_runText_27 : decode cX4_runText 27 = .ok (.putfield 127, 3) := by decide +kernel
theorem dX4_runText_30 : decode cX4_runText 30 = .ok (.iconst 0, 1) := by decide +kernel
theorem dX4_runText_31 : decode cX4_runText 31 = .ok (.istore_n 1, 1) := by decide +kernel
theorem dX4_runText_32 : decode cX4_runText 32 = .ok (.aload_n 0, 1) := by decide +kernel
theorem dX4_runText_33 : decode cX4_runText 33 = .ok (.invokevirtual 163, 3) := by decide +kernel
theorem dX4_runText_36 : decode cX4_runText 36 = .ok (.ifCond .eq 21, 3) := by decide +kernel
theorem dX4_runText_39 : decode cX4_runText 39 = .ok (.aload_n 0, 1) := by decide +kernel
theorem dX4_runText_40 : decode cX4_runText 40 = .ok (.invokevirtual 169, 3) := by decide +kernel
theorem dX4_runText_43 : decode cX4_runText 43 = .ok (.pop, 1) := by decide +kernel
theorem dX4_runText_44 : decode cX4_runText 44 = .ok (.iinc 1 1, 3) := by decide +kernel
theorem dX4_runText_47 : decode cX4_runText 47 = .ok (.aload_n 0, 1) := by decide +kernel
theorem dX4_runText_48 : decode cX4_runText 48 = .ok (.bipush 59, 2) := by decide +kernel
theorem dX4_runText_50 : decode cX4_runText 50 = .ok (.invokevirtual 137, 3) := by decide +kernel
theorem dX4_runText_53 : decode cX4_runText 53 = .ok (.pop, 1) := by decide +kernel
theorem dX4_runText_54 : decode cX4_runText 54 = .ok (.goto (-22), 3) := by decide +kernel
theorem dX4_runText_57 : decode cX4_runText 57 = .ok (.iload_n 1, 1) := by decide +kernel
theorem dX4_runText_58 : decode cX4_runText 58 = .ok (.ireturn, 1) := by decide +kernel
set_option maxRecDepth 20000 in
theorem ggX4_undo_X4_holds : GoodIn wsX4_undo wsX4_holds := goodIn_r _ [6, 7, 13, 14, 15, 16, 17, 18, 19, 20, 21, 22, 23, 24] (by decide +kernel) (by decide +kernel)
set_option maxRecDepth 20000 in
theorem gX4_undo_X4_holds : GoodIn wsX4_undo (wsV RX4 100 RX4 yX4_holds wsX4_holds) := goodIn_app (goodIn_of _ (by decide +kernel)) ggX4_undo_X4_holds
set_option maxRecDepth 20000 in
theorem ggX4_undo_X4_copies : GoodIn wsX4_undo wsX4_copies := goodIn_r _ [11, 12, 13, 14, 15, 16, 17, 18, 19, 20, 21, 22, 23, 24] (by decide +kernel) (by decide +kernel)
set_option maxRecDepth 20000 in
theorem gX4_undo_X4_copies : GoodIn wsX4_undo (wsV RX4 92 RX4 yX4_copies wsX4_copies) := goodIn_app (goodIn_of _ (by decide +kernel)) ggX4_undo_X4_copies
theorem dX4_undo_0 : decode cX4_undo 0 = .ok (.aload_n 0, 1) := by decide +kernel
theorem dX4_undo_1 : decode cX4_undo 1 = .ok (.aload_n 0, 1) := by decide +kernel
theorem dX4_undo_2 : decode cX4_undo 2 = .ok (.getfield 89, 3) := by decide +kernel
theorem dX4_undo_5 : decode cX4_undo 5 = .ok (.ifCond .le 7, 3) := by decide +kernel
theorem dX4_undo_8 : decode cX4_undo 8 = .ok (.iconst 0, 1) := by decide +kernel
theorem dX4_undo_9 : decode cX4_undo 9 = .ok (.goto 4, 3) := by decide +kernel
theorem dX4_undo_12 : decode cX4_undo 12 = .ok (.iconst 1, 1) := by decide +kernel
theorem dX4_undo_13 : decode cX4_undo 13 = .ok (.invokevirtual 100, 3) := by decide +kernel
theorem dX4_undo_16 : decode cX4_undo 16 = .ok (.ifCond .ne 5, 3) := by decide +kernel
theorem dX4_undo_19 : decode cX4_undo 19 = .ok (.iconst 0, 1) := by decide +kernel
theorem dX4_undo_20 : decode cX4_undo 20 = .ok (.ireturn, 1) := by decide +kernel
theorem dX4_undo_21 : decode cX4_undo 21 = .ok (.aload_n 0, 1) := by decide +kernel
theorem dX4_undo_22 : decode cX4_undo 22 = .ok (.aload_n 0, 1) := by decide +kernel
theorem dX4_undo_23 : decode cX4_undo 23 = .ok (.getfield 89, 3) := by decide +kernel
theorem dX4_undo_26 : decode cX4_undo 26 = .ok (.iconst 0, 1) := by decide +kernel
theorem dX4_undo_27 : decode cX4_undo 27 = .ok (.invokevirtual 92, 3) := by decide +kernel
theorem dX4_undo_30 : decode cX4_undo 30 = .ok (.aload_n 0, 1) := by decide +kernel
theorem dX4_undo_31 : decode cX4_undo 31 = .ok (.dup, 1) := by decide +kernel
theorem dX4_undo_32 : decode cX4_undo 32 = .ok (.getfield 89, 3) := by decide +kernel
theorem dX4_undo_35 : decode cX4_undo 35 = .ok (.iconst 1, 1) := by decide +kernel
theorem dX4_undo_36 : decode cX4_undo 36 = .ok (.isub, 1) := by decide +kernel
theorem dX4_undo_37 : decode cX4_undo 37 = .ok (.putfield 89, 3) := by decide +kernel
theorem dX4_undo_40 : decode cX4_undo 40 = .ok (.aload_n 0, 1) := by decide +kernel
theorem dX4_undo_41 : decode cX4_undo 41 = .ok (.getfield 89, 3) := by decide +kernel
theorem dX4_undo_44 : decode cX4_undo 44 = .ok (.ireturn, 1) := by decide +kernel
set_option maxRecDepth 20000 in
theorem ggX4_latest_X4_isRow : GoodIn wsX4_latest wsX4_isRow := goodIn_r _ [5, 6, 7, 4, 8, 9, 10, 11] (by decide +kernel) (by decide +kernel)
set_option maxRecDepth 20000 in
theorem gX4_latest_X4_isRow : GoodIn wsX4_latest (va_wsS RX4 96 yX4_isRow wsX4_isRow) := goodIn_app (goodIn_of _ (by decide +kernel)) ggX4_latest_X4_isRow
set_option maxRecDepth 20000 in
theorem ggX4_latest_X4_holds : GoodIn wsX4_latest wsX4_holds := goodIn_r _ [15, 16, 31, 32, 33, 34, 35, 36, 37, 38, 39, 40, 41, 42] (by decide +kernel) (by decide +kernel)
set_option maxRecDepth 20000 in
theorem gX4_latest_X4_holds : GoodIn wsX4_latest (wsV RX4 100 RX4 yX4_holds wsX4_holds) := goodIn_app (goodIn_of _ (by decide +kernel)) ggX4_latest_X4_holds
set_option maxRecDepth 20000 in
theorem ggX4_latest_X4_mark : GoodIn wsX4_latest wsX4_mark := goodIn_r _ [20, 1, 21, 22, 4, 23, 31, 32, 33, 34, 35, 36, 37, 38, 39, 40, 41, 42] (by decide +kernel) (by decide +kernel)
set_option maxRecDepth 20000 in
theorem gX4_latest_X4_mark : GoodIn wsX4_latest (wsV RX4 32 RX4 yX4_mark wsX4_mark) := goodIn_app (goodIn_of _ (by decide +kernel)) ggX4_latest_X4_mark
set_option maxRecDepth 20000 in
theorem ggX4_latest_X4_stampPlace : GoodIn wsX4_latest wsX4_stampPlace := goodIn_r _ [26] (by decide +kernel) (by decide +kernel)
set_option maxRecDepth 20000 in
theorem gX4_latest_X4_stampPlace : GoodIn wsX4_latest (va_wsS RX4 42 yX4_stampPlace wsX4_stampPlace) := goodIn_app (goodIn_of _ (by decide +kernel)) ggX4_latest_X4_stampPlace
set_option maxRecDepth 20000 in
theorem ggX4_latest_X4_value : GoodIn wsX4_latest wsX4_value := goodIn_r _ [30, 1, 21, 22, 4, 23, 31, 32, 33, 34, 35, 36, 37, 38, 39, 40, 41, 42] (by decide +kernel) (by decide +kernel)
set_option maxRecDepth 20000 in
theorem gX4_latest_X4_value : GoodIn wsX4_latest (wsV RX4 46 RX4 yX4_value wsX4_value) := goodIn_app (goodIn_of _ (by decide +kernel)) ggX4_latest_X4_value
theorem dX4_latest_0 : decode cX4_latest 0 = .ok (.aload_n 0, 1) := by decide +kernel
theorem dX4_latest_1 : decode cX4_latest 1 = .ok (.iload_n 1, 1) := by decide +kernel
theorem dX4_latest_2 : decode cX4_latest 2 = .ok (.iload_n 2, 1) := by decide +kernel
theorem dX4_latest_3 : decode cX4_latest 3 = .ok (.invokestatic 96, 3) := by decide +kernel
theorem dX4_latest_6 : decode cX4_latest 6 = .ok (.ifCond .eq 7, 3) := by decide +kernel
theorem dX4_latest_9 : decode cX4_latest 9 = .ok (.iconst 0, 1) := by decide +kernel
theorem dX4_latest_10 : decode cX4_latest 10 = .ok (.goto 4, 3) := by decide +kernel
theorem dX4_latest_13 : decode cX4_latest 13 = .ok (.iconst 1, 1) := by decide +kernel
theorem dX4_latest_14 : decode cX4_latest 14 = .ok (.invokevirtual 100, 3) := by decide +kernel
theorem dX4_latest_17 : decode cX4_latest 17 = .ok (.ifCond .ne 5, 3) := by decide +kernel
theorem dX4_latest_20 : decode cX4_latest 20 = .ok (.iconst 0, 1) := by decide +kernel
theorem dX4_latest_21 : decode cX4_latest 21 = .ok (.ireturn, 1) := by decide +kernel
theorem dX4_latest_22 : decode cX4_latest 22 = .ok (.iconst (-1), 1) := by decide +kernel
theorem dX4_latest_23 : decode cX4_latest 23 = .ok (.istore_n 3, 1) := by decide +kernel
theorem dX4_latest_24 : decode cX4_latest 24 = .ok (.iconst 0, 1) := by decide +kernel
theorem dX4_latest_25 : decode cX4_latest 25 = .ok (.istore 4, 2) := by decide +kernel
theorem dX4_latest_27 : decode cX4_latest 27 = .ok (.iload 4, 2) := by decide +kernel
theorem dX4_latest_29 : decode cX4_latest 29 = .ok (.iconst 4, 1) := by decide +kernel
theorem dX4_latest_30 : decode cX4_latest 30 = .ok (.if_icmp .ge 83, 3) := by decide +kernel
theorem dX4_latest_33 : decode cX4_latest 33 = .ok (.aload_n 0, 1) := by decide +kernel
theorem dX4_latest_34 : decode cX4_latest 34 = .ok (.iload_n 1, 1) := by decide +kernel
theorem dX4_latest_35 : decode cX4_latest 35 = .ok (.iload_n 2, 1) := by decide +kernel
theorem dX4_latest_36 : decode cX4_latest 36 = .ok (.iconst 0, 1) := by decide +kernel
theorem dX4_latest_37 : decode cX4_latest 37 = .ok (.iload 4, 2) := by decide +kernel
theorem dX4_latest_39 : decode cX4_latest 39 = .ok (.invokevirtual 32, 3) := by decide +kernel
theorem dX4_latest_42 : decode cX4_latest 42 = .ok (.ifCond .le 7, 3) := by decide +kernel
theorem dX4_latest_45 : decode cX4_latest 45 = .ok (.iconst 1, 1) := by decide +kernel
theorem dX4_latest_46 : decode cX4_latest 46 = .ok (.goto 4, 3) := by decide +kernel
theorem dX4_latest_49 : decode cX4_latest 49 = .ok (.iconst 0, 1) := by decide +kernel
theorem dX4_latest_50 : decode cX4_latest 50 = .ok (.istore 5, 2) := by decide +kernel
theorem dX4_latest_52 : decode cX4_latest 52 = .ok (.iload 5, 2) := by decide +kernel
theorem dX4_latest_54 : decode cX4_latest 54 = .ok (.ifCond .eq 38, 3) := by decide +kernel
theorem dX4_latest_57 : decode cX4_latest 57 = .ok (.iload_n 3, 1) := by decide +kernel
theorem dX4_latest_58 : decode cX4_latest 58 = .ok (.iconst (-1), 1) := by decide +kernel
theorem dX4_latest_59 : decode cX4_latest 59 = .ok (.if_icmp .eq 29, 3) := by decide +kernel
theorem dX4_latest_62 : decode cX4_latest 62 = .ok (.aload_n 0, 1) := by decide +kernel
theorem dX4_latest_63 : decode cX4_latest 63 = .ok (.getfield 7, 3) := by decide +kernel
theorem dX4_latest_66 : decode cX4_latest 66 = .ok (.iload_n 1, 1) := by decide +kernel
theorem dX4_latest_67 : decode cX4_latest 67 = .ok (.iload_n 2, 1) := by decide +kernel
theorem dX4_latest_68 : decode cX4_latest 68 = .ok (.iload 4, 2) := by decide +kernel
theorem dX4_latest_70 : decode cX4_latest 70 = .ok (.invokestatic 42, 3) := by decide +kernel
theorem dX4_latest_73 : decode cX4_latest 73 = .ok (.iaload, 1) := by decide +kernel
theorem dX4_latest_74 : decode cX4_latest 74 = .ok (.aload_n 0, 1) := by decide +kernel
theorem dX4_latest_75 : decode cX4_latest 75 = .ok (.getfield 7, 3) := by decide +kernel
theorem dX4_latest_78 : decode cX4_latest 78 = .ok (.iload_n 1, 1) := by decide +kernel
theorem dX4_latest_79 : decode cX4_latest 79 = .ok (.iload_n 2, 1) := by decide +kernel
theorem dX4_latest_80 : decode cX4_latest 80 = .ok (.iload_n 3, 1) := by decide +kernel
theorem dX4_latest_81 : decode cX4_latest 81 = .ok (.invokestatic 42, 3) := by decide +kernel
theorem dX4_latest_84 : decode cX4_latest 84 = .ok (.iaload, 1) := by decide +kernel
theorem dX4_latest_85 : decode cX4_latest 85 = .ok (.if_icmp .lt 7, 3) := by decide +kernel
theorem dX4_latest_88 : decode cX4_latest 88 = .ok (.iconst 1, 1) := by decide +kernel
theorem dX4_latest_89 : decode cX4_latest 89 = .ok (.goto 4, 3) := by decide +kernel
theorem dX4_latest_92 : decode cX4_latest 92 = .ok (.iconst 0, 1) := by decide +kernel
theorem dX4_latest_93 : decode cX4_latest 93 = .ok (.istore 6, 2) := by decide +kernel
theorem dX4_latest_95 : decode cX4_latest 95 = .ok (.iload 6, 2) := by decide +kernel
theorem dX4_latest_97 : decode cX4_latest 97 = .ok (.ifCond .eq 8, 3) := by decide +kernel
theorem dX4_latest_100 : decode cX4_latest 100 = .ok (.iload 4, 2) := by decide +kernel
theorem dX4_latest_102 : decode cX4_latest 102 = .ok (.goto 4, 3) := by decide +kernel
theorem dX4_latest_105 : decode cX4_latest 105 = .ok (.iload_n 3, 1) := by decide +kernel
theorem dX4_latest_106 : decode cX4_latest 106 = .ok (.istore_n 3, 1) := by decide +kernel
theorem dX4_latest_107 : decode cX4_latest 107 = .ok (.iinc 4 1, 3) := by decide +kernel
theorem dX4_latest_110 : decode cX4_latest 110 = .ok (.goto (-83), 3) := by decide +kernel
theorem dX4_latest_113 : decode cX4_latest 113 = .ok (.iload_n 3, 1) := by decide +kernel
theorem dX4_latest_114 : decode cX4_latest 114 = .ok (.iconst (-1), 1) := by decide +kernel
theorem dX4_latest_115 : decode cX4_latest 115 = .ok (.if_icmp .ne 7, 3) := by decide +kernel
theorem dX4_latest_118 : decode cX4_latest 118 = .ok (.iconst (-1), 1) := by decide +kernel
theorem dX4_latest_119 : decode cX4_latest 119 = .ok (.goto 11, 3) := by decide +kernel
theorem dX4_latest_122 : decode cX4_latest 122 = .ok (.aload_n 0, 1) := by decide +kernel
theorem dX4_latest_123 : decode cX4_latest 123 = .ok (.iload_n 1, 1) := by decide +kernel
theorem dX4_latest_124 : decode cX4_latest 124 = .ok (.iload_n 2, 1) := by decide +kernel
theorem dX4_latest_125 : decode cX4_latest 125 = .ok (.iconst 0, 1) := by decide +kernel
theorem dX4_latest_126 : decode cX4_latest 126 = .ok (.iload_n 3, 1) := by decide +kernel
theorem dX4_latest_127 : decode cX4_latest 127 = .ok (.invokevirtual 46, 3) := by decide +kernel
theorem dX4_latest_130 : decode cX4_latest 130 = .ok (.ireturn, 1) := by decide +kernel
set_option maxRecDepth 20000 in
theorem ggX4_entriesOf_X4_elementPlace : GoodIn wsX4_entriesOf wsX4_elementPlace := goodIn_r _ [5] (by decide +kernel) (by decide +kernel)
set_option maxRecDepth 20000 in
theorem gX4_entriesOf_X4_elementPlace : GoodIn wsX4_entriesOf (va_wsS RX4 35 yX4_elementPlace wsX4_elementPlace) := goodIn_app (goodIn_of _ (by decide +kernel)) ggX4_entriesOf_X4_elementPlace
set_option maxRecDepth 20000 in
theorem ggX4_entriesOf_X4_mark : GoodIn wsX4_entriesOf wsX4_mark := goodIn_r _ [9, 1, 10, 11, 4, 12, 13, 14, 15, 16, 17, 18, 19, 20, 21, 22, 23, 24] (by decide +kernel) (by decide +kernel)
set_option maxRecDepth 20000 in
theorem gX4_entriesOf_X4_mark : GoodIn wsX4_entriesOf (wsV RX4 32 RX4 yX4_mark wsX4_mark) := goodIn_app (goodIn_of _ (by decide +kernel)) ggX4_entriesOf_X4_mark
theorem dX4_entriesOf_0 : decode cX4_entriesOf 0 = .ok (.iconst 0, 1) := by decide +kernel
theorem dX4_entriesOf_1 : decode cX4_entriesOf 1 = .ok (.istore 4, 2) := by decide +kernel
theorem dX4_entriesOf_3 : decode cX4_entriesOf 3 = .ok (.iconst 0, 1) := by decide +kernel
theorem dX4_entriesOf_4 : decode cX4_entriesOf 4 = .ok (.istore 5, 2) := by decide +kernel
theorem dX4_entriesOf_6 : decode cX4_entriesOf 6 = .ok (.iload 5, 2) := by decide +kernel
theorem dX4_entriesOf_8 : decode cX4_entriesOf 8 = .ok (.iconst 4, 1) := by decide +kernel
theorem dX4_entriesOf_9 : decode cX4_entriesOf 9 = .ok (.if_icmp .ge 84, 3) := by decide +kernel
theorem dX4_entriesOf_12 : decode cX4_entriesOf 12 = .ok (.iconst 0, 1) := by decide +kernel
theorem dX4_entriesOf_13 : decode cX4_entriesOf 13 = .ok (.istore 6, 2) := by decide +kernel
theorem dX4_entriesOf_15 : decode cX4_entriesOf 15 = .ok (.iload_n 3, 1) := by decide +kernel
theorem dX4_entriesOf_16 : decode cX4_entriesOf 16 = .ok (.iconst 4, 1) := by decide +kernel
theorem dX4_entriesOf_17 : decode cX4_entriesOf 17 = .ok (.if_icmp .ne 43, 3) := by decide +kernel
theorem dX4_entriesOf_20 : decode cX4_entriesOf 20 = .ok (.iload 6, 2) := by decide +kernel
theorem dX4_entriesOf_22 : decode cX4_entriesOf 22 = .ok (.bipush 16, 2) := by decide +kernel
theorem dX4_entriesOf_24 : decode cX4_entriesOf 24 = .ok (.if_icmp .ge 36, 3) := by decide +kernel
theorem dX4_entriesOf_27 : decode cX4_entriesOf 27 = .ok (.iload 4, 2) := by decide +kernel
theorem dX4_entriesOf_29 : decode cX4_entriesOf 29 = .ok (.aload_n 0, 1) := by decide +kernel
theorem dX4_entriesOf_30 : decode cX4_entriesOf 30 = .ok (.getfield 7, 3) := by decide +kernel
theorem dX4_entriesOf_33 : decode cX4_entriesOf 33 = .ok (.iload_n 1, 1) := by decide +kernel
theorem dX4_entriesOf_34 : decode cX4_entriesOf 34 = .ok (.iload_n 2, 1) := by decide +kernel
theorem dX4_entriesOf_35 : decode cX4_entriesOf 35 = .ok (.iload 6, 2) := by decide +kernel
theorem dX4_entriesOf_37 : decode cX4_entriesOf 37 = .ok (.iload 5, 2) := by decide +kernel
theorem dX4_entriesOf_39 : decode cX4_entriesOf 39 = .ok (.invokestatic 35, 3) := by decide +kernel
theorem dX4_entriesOf_42 : decode cX4_entriesOf 42 = .ok (.iaload, 1) := by decide +kernel
theorem dX4_entriesOf_43 : decode cX4_entriesOf 43 = .ok (.ifCond .le 7, 3) := by decide +kernel
theorem dX4_entriesOf_46 : decode cX4_entriesOf 46 = .ok (.iconst 1, 1) := by decide +kernel
theorem dX4_entriesOf_47 : decode cX4_entriesOf 47 = .ok (.goto 4, 3) := by decide +kernel
theorem dX4_entriesOf_50 : decode cX4_entriesOf 50 = .ok (.iconst 0, 1) := by decide +kernel
theorem dX4_entriesOf_51 : decode cX4_entriesOf 51 = .ok (.iadd, 1) := by decide +kernel
theorem dX4_entriesOf_52 : decode cX4_entriesOf 52 = .ok (.istore 4, 2) := by decide +kernel
theorem dX4_entriesOf_54 : decode cX4_entriesOf 54 = .ok (.iinc 6 1, 3) := by decide +kernel
theorem dX4_entriesOf_57 : decode cX4_entriesOf 57 = .ok (.goto (-42), 3) := by decide +kernel
theorem dX4_entriesOf_60 : decode cX4_entriesOf 60 = .ok (.iload 4, 2) := by decide +kernel
theorem dX4_entriesOf_62 : decode cX4_entriesOf 62 = .ok (.iload_n 3, 1) := by decide +kernel
theorem dX4_entriesOf_63 : decode cX4_entriesOf 63 = .ok (.iconst 4, 1) := by decide +kernel
theorem dX4_entriesOf_64 : decode cX4_entriesOf 64 = .ok (.if_icmp .ge 19, 3) := by decide +kernel
theorem dX4_entriesOf_67 : decode cX4_entriesOf 67 = .ok (.aload_n 0, 1) := by decide +kernel
theorem dX4_entriesOf_68 : decode cX4_entriesOf 68 = .ok (.iload_n 1, 1) := by decide +kernel
theorem dX4_entriesOf_69 : decode cX4_entriesOf 69 = .ok (.iload_n 2, 1) := by decide +kernel
theorem dX4_entriesOf_70 : decode cX4_entriesOf 70 = .ok (.iload_n 3, 1) := by decide +kernel
theorem dX4_entriesOf_71 : decode cX4_entriesOf 71 = .ok (.iload 5, 2) := by decide +kernel
theorem dX4_entriesOf_73 : decode cX4_entriesOf 73 = .ok (.invokevirtual 32, 3) := by decide +kernel
theorem dX4_entriesOf_76 : decode cX4_entriesOf 76 = .ok (.ifCond .le 7, 3) := by decide +kernel
theorem dX4_entriesOf_79 : decode cX4_entriesOf 79 = .ok (.iconst 1, 1) := by decide +kernel
theorem dX4_entriesOf_80 : decode cX4_entriesOf 80 = .ok (.goto 4, 3) := by decide +kernel
theorem dX4_entriesOf_83 : decode cX4_entriesOf 83 = .ok (.iconst 0, 1) := by decide +kernel
theorem dX4_entriesOf_84 : decode cX4_entriesOf 84 = .ok (.iadd, 1) := by decide +kernel
theorem dX4_entriesOf_85 : decode cX4_entriesOf 85 = .ok (.istore 4, 2) := by decide +kernel
theorem dX4_entriesOf_87 : decode cX4_entriesOf 87 = .ok (.iinc 5 1, 3) := by decide +kernel
theorem dX4_entriesOf_90 : decode cX4_entriesOf 90 = .ok (.goto (-84), 3) := by decide +kernel
theorem dX4_entriesOf_93 : decode cX4_entriesOf 93 = .ok (.iload 4, 2) := by decide +kernel
theorem dX4_entriesOf_95 : decode cX4_entriesOf 95 = .ok (.ireturn, 1) := by decide +kernel
set_option maxRecDepth 20000 in
theorem ggX4_sibling_X4_isRow : GoodIn wsX4_sibling wsX4_isRow := goodIn_r _ [4, 5, 6, 3, 7, 8, 9, 10] (by decide +kernel) (by decide +kernel)
set_option maxRecDepth 20000 in
theorem gX4_sibling_X4_isRow : GoodIn wsX4_sibling (va_wsS RX4 96 yX4_isRow wsX4_isRow) := goodIn_app (goodIn_of _ (by decide +kernel)) ggX4_sibling_X4_isRow
set_option maxRecDepth 20000 in
theorem ggX4_sibling_X4_holds : GoodIn wsX4_sibling wsX4_holds := goodIn_r _ [14, 15, 28, 29, 30, 31, 32, 33, 34, 35, 36, 37, 38, 39] (by decide +kernel) (by decide +kernel)
set_option maxRecDepth 20000 in
theorem gX4_sibling_X4_holds : GoodIn wsX4_sibling (wsV RX4 100 RX4 yX4_holds wsX4_holds) := goodIn_app (goodIn_of _ (by decide +kernel)) ggX4_sibling_X4_holds
set_option maxRecDepth 20000 in
theorem ggX4_sibling_X4_value : GoodIn wsX4_sibling wsX4_value := goodIn_r _ [19, 20, 21, 22, 3, 23, 28, 29, 30, 31, 32, 33, 34, 35, 36, 37, 38, 39] (by decide +kernel) (by decide +kernel)
set_option maxRecDepth 20000 in
theorem gX4_sibling_X4_value : GoodIn wsX4_sibling (wsV RX4 46 RX4 yX4_value wsX4_value) := goodIn_app (goodIn_of _ (by decide +kernel)) ggX4_sibling_X4_value
set_option maxRecDepth 20000 in
theorem ggX4_sibling_X4_mark : GoodIn wsX4_sibling wsX4_mark := goodIn_r _ [27, 20, 21, 22, 3, 23, 28, 29, 30, 31, 32, 33, 34, 35, 36, 37, 38, 39] (by decide +kernel) (by decide +kernel)
set_option maxRecDepth 20000 in
theorem gX4_sibling_X4_mark : GoodIn wsX4_sibling (wsV RX4 32 RX4 yX4_mark wsX4_mark) := goodIn_app (goodIn_of _ (by decide +kernel)) ggX4_sibling_X4_mark
theorem dX4_sibling_0 : decode cX4_sibling 0 = .ok (.aload_n 0, 1) := by decide +kernel
theorem dX4_sibling_1 : decode cX4_sibling 1 = .ok (.iload_n 1, 1) := by decide +kernel
theorem dX4_sibling_2 : decode cX4_sibling 2 = .ok (.iload_n 2, 1) := by decide +kernel
theorem dX4_sibling_3 : decode cX4_sibling 3 = .ok (.invokestatic 96, 3) := by decide +kernel
theorem dX4_sibling_6 : decode cX4_sibling 6 = .ok (.ifCond .eq 11, 3) := by decide +kernel
theorem dX4_sibling_9 : decode cX4_sibling 9 = .ok (.iload_n 3, 1) := by decide +kernel
theorem dX4_sibling_10 : decode cX4_sibling 10 = .ok (.ifCond .lt 7, 3) := by decide +kernel
theorem dX4_sibling_13 : decode cX4_sibling 13 = .ok (.iconst 0, 1) := by decide +kernel
theorem dX4_sibling_14 : decode cX4_sibling 14 = .ok (.goto 4, 3) := by decide +kernel
theorem dX4_sibling_17 : decode cX4_sibling 17 = .ok (.iconst 1, 1) := by decide +kernel
theorem dX4_sibling_18 : decode cX4_sibling 18 = .ok (.invokevirtual 100, 3) := by decide +kernel
theorem dX4_sibling_21 : decode cX4_sibling 21 = .ok (.ifCond .ne 5, 3) := by decide +kernel
theorem dX4_sibling_24 : decode cX4_sibling 24 = .ok (.iconst 0, 1) := by decide +kernel
theorem dX4_sibling_25 : decode cX4_sibling 25 = .ok (.ireturn, 1) := by decide +kernel
theorem dX4_sibling_26 : decode cX4_sibling 26 = .ok (.iconst 0, 1) := by decide +kernel
theorem dX4_sibling_27 : decode cX4_sibling 27 = .ok (.istore 4, 2) := by decide +kernel
theorem dX4_sibling_29 : decode cX4_sibling 29 = .ok (.iload 4, 2) := by decide +kernel
theorem dX4_sibling_31 : decode cX4_sibling 31 = .ok (.iconst 4, 1) := by decide +kernel
theorem dX4_sibling_32 : decode cX4_sibling 32 = .ok (.if_icmp .ge 125, 3) := by decide +kernel
theorem dX4_sibling_35 : decode cX4_sibling 35 = .ok (.iconst 0, 1) := by decide +kernel
theorem dX4_sibling_36 : decode cX4_sibling 36 = .ok (.istore 5, 2) := by decide +kernel
theorem dX4_sibling_38 : decode cX4_sibling 38 = .ok (.aload_n 0, 1) := by decide +kernel
theorem dX4_sibling_39 : decode cX4_sibling 39 = .ok (.iload_n 1, 1) := by decide +kernel
theorem dX4_sibling_40 : decode cX4_sibling 40 = .ok (.iload_n 2, 1) := by decide +kernel
theorem dX4_sibling_41 : decode cX4_sibling 41 = .ok (.iconst 1, 1) := by decide +kernel
theorem dX4_sibling_42 : decode cX4_sibling 42 = .ok (.iload 4, 2) := by decide +kernel
theorem dX4_sibling_44 : decode cX4_sibling 44 = .ok (.invokevirtual 46, 3) := by decide +kernel
theorem dX4_sibling_47 : decode cX4_sibling 47 = .ok (.istore 6, 2) := by decide +kernel
theorem dX4_sibling_49 : decode cX4_sibling 49 = .ok (.iconst 0, 1) := by decide +kernel
theorem dX4_sibling_50 : decode cX4_sibling 50 = .ok (.istore 7, 2) := by decide +kernel
theorem dX4_sibling_52 : decode cX4_sibling 52 = .ok (.iload 7, 2) := by decide +kernel
theorem dX4_sibling_54 : decode cX4_sibling 54 = .ok (.iconst 4, 1) := by decide +kernel
theorem dX4_sibling_55 : decode cX4_sibling 55 = .ok (.if_icmp .ge 75, 3) := by decide +kernel
theorem dX4_sibling_58 : decode cX4_sibling 58 = .ok (.aload_n 0, 1) := by decide +kernel
theorem dX4_sibling_59 : decode cX4_sibling 59 = .ok (.iload_n 1, 1) := by decide +kernel
theorem dX4_sibling_60 : decode cX4_sibling 60 = .ok (.iload_n 2, 1) := by decide +kernel
theorem dX4_sibling_61 : decode cX4_sibling 61 = .ok (.iconst 1, 1) := by decide +kernel
theorem dX4_sibling_62 : decode cX4_sibling 62 = .ok (.iload 7, 2) := by decide +kernel
theorem dX4_sibling_64 : decode cX4_sibling 64 = .ok (.invokevirtual 46, 3) := by decide +kernel
theorem dX4_sibling_67 : decode cX4_sibling 67 = .ok (.istore 8, 2) := by decide +kernel
theorem dX4_sibling_69 : decode cX4_sibling 69 = .ok (.aload_n 0, 1) := by decide +kernel
theorem dX4_sibling_70 : decode cX4_sibling 70 = .ok (.iload_n 1, 1) := by decide +kernel
theorem dX4_sibling_71 : decode cX4_sibling 71 = .ok (.iload_n 2, 1) := by decide +kernel
theorem dX4_sibling_72 : decode cX4_sibling 72 = .ok (.iconst 1, 1) := by decide +kernel
theorem dX4_sibling_73 : decode cX4_sibling 73 = .ok (.iload 7, 2) := by decide +kernel
theorem dX4_sibling_75 : decode cX4_sibling 75 = .ok (.invokevirtual 32, 3) := by decide +kernel
theorem dX4_sibling_78 : decode cX4_sibling 78 = .ok (.ifCond .le 7, 3) := by decide +kernel
theorem dX4_sibling_81 : decode cX4_sibling 81 = .ok (.iconst 1, 1) := by decide +kernel
theorem dX4_sibling_82 : decode cX4_sibling 82 = .ok (.goto 4, 3) := by decide +kernel
theorem dX4_sibling_85 : decode cX4_sibling 85 = .ok (.iconst 0, 1) := by decide +kernel
theorem dX4_sibling_86 : decode cX4_sibling 86 = .ok (.istore 9, 2) := by decide +kernel
theorem dX4_sibling_88 : decode cX4_sibling 88 = .ok (.iload 5, 2) := by decide +kernel
theorem dX4_sibling_90 : decode cX4_sibling 90 = .ok (.iload 9, 2) := by decide +kernel
theorem dX4_sibling_92 : decode cX4_sibling 92 = .ok (.ifCond .eq 28, 3) := by decide +kernel
theorem dX4_sibling_95 : decode cX4_sibling 95 = .ok (.iload 8, 2) := by decide +kernel
theorem dX4_sibling_97 : decode cX4_sibling 97 = .ok (.iload 6, 2) := by decide +kernel
theorem dX4_sibling_99 : decode cX4_sibling 99 = .ok (.if_icmp .lt 17, 3) := by decide +kernel
theorem dX4_sibling_102 : decode cX4_sibling 102 = .ok (.iload 8, 2) := by decide +kernel
theorem dX4_sibling_104 : decode cX4_sibling 104 = .ok (.iload 6, 2) := by decide +kernel
theorem dX4_sibling_106 : decode cX4_sibling 106 = .ok (.if_icmp .ne 14, 3) := by decide +kernel
theorem dX4_sibling_109 : decode cX4_sibling 109 = .ok (.iload 7, 2) := by decide +kernel
theorem dX4_sibling_111 : decode cX4_sibling 111 = .ok (.iload 4, 2) := by decide +kernel
theorem dX4_sibling_113 : decode cX4_sibling 113 = .ok (.if_icmp .ge 7, 3) := by decide +kernel
theorem dX4_sibling_116 : decode cX4_sibling 116 = .ok (.iconst 1, 1) := by decide +kernel
theorem dX4_sibling_117 : decode cX4_sibling 117 = .ok (.goto 4, 3) := by decide +kernel
theorem dX4_sibling_120 : decode cX4_sibling 120 = .ok (.iconst 0, 1) := by decide +kernel
theorem dX4_sibling_121 : decode cX4_sibling 121 = .ok (.iadd, 1) := by decide +kernel
theorem dX4_sibling_122 : decode cX4_sibling 122 = .ok (.istore 5, 2) := by decide +kernel
theorem dX4_sibling_124 : decode cX4_sibling 124 = .ok (.iinc 7 1, 3) := by decide +kernel
theorem dX4_sibling_127 : decode cX4_sibling 127 = .ok (.goto (-75), 3) := by decide +kernel
theorem dX4_sibling_130 : decode cX4_sibling 130 = .ok (.aload_n 0, 1) := by decide +kernel
theorem dX4_sibling_131 : decode cX4_sibling 131 = .ok (.iload_n 1, 1) := by decide +kernel
theorem dX4_sibling_132 : decode cX4_sibling 132 = .ok (.iload_n 2, 1) := by decide +kernel
theorem dX4_sibling_133 : decode cX4_sibling 133 = .ok (.iconst 1, 1) := by decide +kernel
theorem dX4_sibling_134 : decode cX4_sibling 134 = .ok (.iload 4, 2) := by decide +kernel
theorem dX4_sibling_136 : decode cX4_sibling 136 = .ok (.invokevirtual 32, 3) := by decide +kernel
theorem dX4_sibling_139 : decode cX4_sibling 139 = .ok (.ifCond .le 12, 3) := by decide +kernel
theorem dX4_sibling_142 : decode cX4_sibling 142 = .ok (.iload 5, 2) := by decide +kernel
theorem dX4_sibling_144 : decode cX4_sibling 144 = .ok (.iload_n 3, 1) := by decide +kernel
theorem dX4_sibling_145 : decode cX4_sibling 145 = .ok (.if_icmp .ne 6, 3) := by decide +kernel
theorem dX4_sibling_148 : decode cX4_sibling 148 = .ok (.iload 6, 2) := by decide +kernel
theorem dX4_sibling_150 : decode cX4_sibling 150 = .ok (.ireturn, 1) := by decide +kernel
theorem dX4_sibling_151 : decode cX4_sibling 151 = .ok (.iinc 4 1, 3) := by decide +kernel
theorem dX4_sibling_154 : decode cX4_sibling 154 = .ok (.goto (-125), 3) := by decide +kernel
theorem dX4_sibling_157 : decode cX4_sibling 157 = .ok (.iconst (-1), 1) := by decide +kernel
theorem dX4_sibling_158 : decode cX4_sibling 158 = .ok (.ireturn, 1) := by decide +kernel
set_option maxRecDepth 20000 in
theorem ggX4_greatest_X4_isRow : GoodIn wsX4_greatest wsX4_isRow := goodIn_r _ [4, 5, 6, 3, 7, 8, 9, 10] (by decide +kernel) (by decide +kernel)
set_option maxRecDepth 20000 in
theorem gX4_greatest_X4_isRow : GoodIn wsX4_greatest (va_wsS RX4 96 yX4_isRow wsX4_isRow) := goodIn_app (goodIn_of _ (by decide +kernel)) ggX4_greatest_X4_isRow
set_option maxRecDepth 20000 in
theorem ggX4_greatest_X4_holds : GoodIn wsX4_greatest wsX4_holds := goodIn_r _ [14, 15, 32, 33, 34, 35, 36, 37, 38, 39, 40, 41, 42, 43] (by decide +kernel) (by decide +kernel)
set_option maxRecDepth 20000 in
theorem gX4_greatest_X4_holds : GoodIn wsX4_greatest (wsV RX4 100 RX4 yX4_holds wsX4_holds) := goodIn_app (goodIn_of _ (by decide +kernel)) ggX4_greatest_X4_holds
set_option maxRecDepth 20000 in
theorem ggX4_greatest_X4_greatestOf : GoodIn wsX4_greatest wsX4_greatestOf := goodIn_r _ [19, 20, 21, 22, 3, 23, 24, 25, 26, 27, 28, 29, 30, 31, 32, 33, 34, 35, 36, 37, 38, 39, 40, 41, 42, 43] (by decide +kernel) (by decide +kernel)
set_option maxRecDepth 20000 in
theorem gX4_greatest_X4_greatestOf : GoodIn wsX4_greatest (wsV RX4 53 RX4 yX4_greatestOf wsX4_greatestOf) := goodIn_app (goodIn_of _ (by decide +kernel)) ggX4_greatest_X4_greatestOf
theorem dX4_greatest_0 : decode cX4_greatest 0 = .ok (.aload_n 0, 1) := by decide +kernel
theorem dX4_greatest_1 : decode cX4_greatest 1 = .ok (.iload_n 1, 1) := by decide +kernel
theorem dX4_greatest_2 : decode cX4_greatest 2 = .ok (.iload_n 2, 1) := by decide +kernel
theorem dX4_greatest_3 : decode cX4_greatest 3 = .ok (.invokestatic 96, 3) := by decide +kernel
theorem dX4_greatest_6 : decode cX4_greatest 6 = .ok (.ifCond .eq 7, 3) := by decide +kernel
theorem dX4_greatest_9 : decode cX4_greatest 9 = .ok (.iconst 0, 1) := by decide +kernel
theorem dX4_greatest_10 : decode cX4_greatest 10 = .ok (.goto 4, 3) := by decide +kernel
theorem dX4_greatest_13 : decode cX4_greatest 13 = .ok (.iconst 1, 1) := by decide +kernel
theorem dX4_greatest_14 : decode cX4_greatest 14 = .ok (.invokevirtual 100, 3) := by decide +kernel
theorem dX4_greatest_17 : decode cX4_greatest 17 = .ok (.ifCond .eq 12, 3) := by decide +kernel
theorem dX4_greatest_20 : decode cX4_greatest 20 = .ok (.aload_n 0, 1) := by decide +kernel
theorem dX4_greatest_21 : decode cX4_greatest 21 = .ok (.iload_n 1, 1) := by decide +kernel
theorem dX4_greatest_22 : decode cX4_greatest 22 = .ok (.iload_n 2, 1) := by decide +kernel
theorem dX4_greatest_23 : decode cX4_greatest 23 = .ok (.invokevirtual 53, 3) := by decide +kernel
theorem dX4_greatest_26 : decode cX4_greatest 26 = .ok (.goto 4, 3) := by decide +kernel
theorem dX4_greatest_29 : decode cX4_greatest 29 = .ok (.iconst 0, 1) := by decide +kernel
theorem dX4_greatest_30 : decode cX4_greatest 30 = .ok (.ireturn, 1) := by decide +kernel
set_option maxRecDepth 20000 in
theorem ggX4_counter_X4_isRow : GoodIn wsX4_counter wsX4_isRow := goodIn_r _ [4, 5, 6, 3, 7, 8, 9, 10] (by decide +kernel) (by decide +kernel)
set_option maxRecDepth 20000 in
theorem gX4_counter_X4_isRow : GoodIn wsX4_counter (va_wsS RX4 96 yX4_isRow wsX4_isRow) := goodIn_app (goodIn_of _ (by decide +kernel)) ggX4_counter_X4_isRow
set_option maxRecDepth 20000 in
theorem ggX4_counter_X4_holds : GoodIn wsX4_counter wsX4_holds := goodIn_r _ [14, 15, 32, 33, 34, 35, 36, 37, 38, 39, 40, 41, 42, 43] (by decide +kernel) (by decide +kernel)
set_option maxRecDepth 20000 in
theorem gX4_counter_X4_holds : GoodIn wsX4_counter (wsV RX4 100 RX4 yX4_holds wsX4_holds) := goodIn_app (goodIn_of _ (by decide +kernel)) ggX4_counter_X4_holds
set_option maxRecDepth 20000 in
theorem ggX4_counter_X4_sumOf : GoodIn wsX4_counter wsX4_sumOf := goodIn_r _ [19, 20, 21, 22, 3, 23, 24, 25, 26, 27, 28, 29, 30, 31, 32, 33, 34, 35, 36, 37, 38, 39, 40, 41, 42, 43] (by decide +kernel) (by decide +kernel)
set_option maxRecDepth 20000 in
theorem gX4_counter_X4_sumOf : GoodIn wsX4_counter (wsV RX4 63 RX4 yX4_sumOf wsX4_sumOf) := goodIn_app (goodIn_of _ (by decide +kernel)) ggX4_counter_X4_sumOf
theorem dX4_counter_0 : decode cX4_counter 0 = .ok (.aload_n 0, 1) := by decide +kernel
theorem dX4_counter_1 : decode cX4_counter 1 = .ok (.iload_n 1, 1) := by decide +kernel
theorem dX4_counter_2 : decode cX4_counter 2 = .ok (.iload_n 2, 1) := by decide +kernel
theorem dX4_counter_3 : decode cX4_counter 3 = .ok (.invokestatic 96, 3) := by decide +kernel
theorem dX4_counter_6 : decode cX4_counter 6 = .ok (.ifCond .eq 7, 3) := by decide +kernel
theorem dX4_counter_9 : decode cX4_counter 9 = .ok (.iconst 0, 1) := by decide +kernel
theorem dX4_counter_10 : decode cX4_counter 10 = .ok (.goto 4, 3) := by decide +kernel
theorem dX4_counter_13 : decode cX4_counter 13 = .ok (.iconst 1, 1) := by decide +kernel
theorem dX4_counter_14 : decode cX4_counter 14 = .ok (.invokevirtual 100, 3) := by decide +kernel
theorem dX4_counter_17 : decode cX4_counter 17 = .ok (.ifCond .eq 13, 3) := by decide +kernel
theorem dX4_counter_20 : decode cX4_counter 20 = .ok (.aload_n 0, 1) := by decide +kernel
theorem dX4_counter_21 : decode cX4_counter 21 = .ok (.iload_n 1, 1) := by decide +kernel
theorem dX4_counter_22 : decode cX4_counter 22 = .ok (.iload_n 2, 1) := by decide +kernel
theorem dX4_counter_23 : decode cX4_counter 23 = .ok (.iconst 3, 1) := by decide +kernel
theorem dX4_counter_24 : decode cX4_counter 24 = .ok (.invokevirtual 63, 3) := by decide +kernel
theorem dX4_counter_27 : decode cX4_counter 27 = .ok (.goto 4, 3) := by decide +kernel
theorem dX4_counter_30 : decode cX4_counter 30 = .ok (.iconst 0, 1) := by decide +kernel
theorem dX4_counter_31 : decode cX4_counter 31 = .ok (.ireturn, 1) := by decide +kernel
set_option maxRecDepth 20000 in
theorem ggX4_elements_X4_isRow : GoodIn wsX4_elements wsX4_isRow := goodIn_r _ [5, 6, 7, 4, 8, 9, 10, 11] (by decide +kernel) (by decide +kernel)
set_option maxRecDepth 20000 in
theorem gX4_elements_X4_isRow : GoodIn wsX4_elements (va_wsS RX4 96 yX4_isRow wsX4_isRow) := goodIn_app (goodIn_of _ (by decide +kernel)) ggX4_elements_X4_isRow
set_option maxRecDepth 20000 in
theorem ggX4_elements_X4_holds : GoodIn wsX4_elements wsX4_holds := goodIn_r _ [15, 16, 20, 21, 22, 23, 24, 25, 26, 27, 28, 29, 30, 31] (by decide +kernel) (by decide +kernel)
set_option maxRecDepth 20000 in
theorem gX4_elements_X4_holds : GoodIn wsX4_elements (wsV RX4 100 RX4 yX4_holds wsX4_holds) := goodIn_app (goodIn_of _ (by decide +kernel)) ggX4_elements_X4_holds
set_option maxRecDepth 20000 in
theorem ggX4_elements_X4_elementPlace : GoodIn wsX4_elements wsX4_elementPlace := goodIn_r _ [19] (by decide +kernel) (by decide +kernel)
set_option maxRecDepth 20000 in
theorem gX4_elements_X4_elementPlace : GoodIn wsX4_elements (va_wsS RX4 35 yX4_elementPlace wsX4_elementPlace) := goodIn_app (goodIn_of _ (by decide +kernel)) ggX4_elements_X4_elementPlace
theorem dX4_elements_0 : decode cX4_elements 0 = .ok (.aload_n 0, 1) := by decide +kernel
theorem dX4_elements_1 : decode cX4_elements 1 = .ok (.iload_n 1, 1) := by decide +kernel
theorem dX4_elements_2 : decode cX4_elements 2 = .ok (.iload_n 2, 1) := by decide +kernel
theorem dX4_elements_3 : decode cX4_elements 3 = .ok (.invokestatic 96, 3) := by decide +kernel
theorem dX4_elements_6 : decode cX4_elements 6 = .ok (.ifCond .eq 7, 3) := by decide +kernel
theorem dX4_elements_9 : decode cX4_elements 9 = .ok (.iconst 0, 1) := by decide +kernel
theorem dX4_elements_10 : decode cX4_elements 10 = .ok (.goto 4, 3) := by decide +kernel
theorem dX4_elements_13 : decode cX4_elements 13 = .ok (.iconst 1, 1) := by decide +kernel
theorem dX4_elements_14 : decode cX4_elements 14 = .ok (.invokevirtual 100, 3) := by decide +kernel
theorem dX4_elements_17 : decode cX4_elements 17 = .ok (.ifCond .ne 5, 3) := by decide +kernel
theorem dX4_elements_20 : decode cX4_elements 20 = .ok (.iconst 0, 1) := by decide +kernel
theorem dX4_elements_21 : decode cX4_elements 21 = .ok (.ireturn, 1) := by decide +kernel
theorem dX4_elements_22 : decode cX4_elements 22 = .ok (.iconst 0, 1) := by decide +kernel
theorem dX4_elements_23 : decode cX4_elements 23 = .ok (.istore_n 3, 1) := by decide +kernel
theorem dX4_elements_24 : decode cX4_elements 24 = .ok (.iconst 0, 1) := by decide +kernel
theorem dX4_elements_25 : decode cX4_elements 25 = .ok (.istore 4, 2) := by decide +kernel
theorem dX4_elements_27 : decode cX4_elements 27 = .ok (.iload 4, 2) := by decide +kernel
theorem dX4_elements_29 : decode cX4_elements 29 = .ok (.bipush 64, 2) := by decide +kernel
theorem dX4_elements_31 : decode cX4_elements 31 = .ok (.if_icmp .ge 43, 3) := by decide +kernel
theorem dX4_elements_34 : decode cX4_elements 34 = .ok (.iload_n 3, 1) := by decide +kernel
theorem dX4_elements_35 : decode cX4_elements 35 = .ok (.aload_n 0, 1) := by decide +kernel
theorem dX4_elements_36 : decode cX4_elements 36 = .ok (.getfield 7, 3) := by decide +kernel
theorem dX4_elements_39 : decode cX4_elements 39 = .ok (.iload_n 1, 1) := by decide +kernel
theorem dX4_elements_40 : decode cX4_elements 40 = .ok (.iload_n 2, 1) := by decide +kernel
theorem dX4_elements_41 : decode cX4_elements 41 = .ok (.iload 4, 2) := by decide +kernel
theorem dX4_elements_43 : decode cX4_elements 43 = .ok (.iconst 4, 1) := by decide +kernel
theorem dX4_elements_44 : decode cX4_elements 44 = .ok (.idiv, 1) := by decide +kernel
theorem dX4_elements_45 : decode cX4_elements 45 = .ok (.iload 4, 2) := by decide +kernel
theorem dX4_elements_47 : decode cX4_elements 47 = .ok (.iconst 4, 1) := by decide +kernel
theorem dX4_elements_48 : decode cX4_elements 48 = .ok (.irem, 1) := by decide +kernel
theorem dX4_elements_49 : decode cX4_elements 49 = .ok (.invokestatic 35, 3) := by decide +kernel
theorem dX4_elements_52 : decode cX4_elements 52 = .ok (.iaload, 1) := by decide +kernel
theorem dX4_elements_53 : decode cX4_elements 53 = .ok (.ifCond .le 12, 3) := by decide +kernel
theorem dX4_elements_56 : decode cX4_elements 56 = .ok (.iconst 1, 1) := by decide +kernel
theorem dX4_elements_57 : decode cX4_elements 57 = .ok (.iload 4, 2) := by decide +kernel
theorem dX4_elements_59 : decode cX4_elements 59 = .ok (.iconst 4, 1) := by decide +kernel
theorem dX4_elements_60 : decode cX4_elements 60 = .ok (.idiv, 1) := by decide +kernel
theorem dX4_elements_61 : decode cX4_elements 61 = .ok (.ishl, 1) := by decide +kernel
theorem dX4_elements_62 : decode cX4_elements 62 = .ok (.goto 4, 3) := by decide +kernel
theorem dX4_elements_65 : decode cX4_elements 65 = .ok (.iconst 0, 1) := by decide +kernel
theorem dX4_elements_66 : decode cX4_elements 66 = .ok (.ior, 1) := by decide +kernel
theorem dX4_elements_67 : decode cX4_elements 67 = .ok (.istore_n 3, 1) := by decide +kernel
theorem dX4_elements_68 : decode cX4_elements 68 = .ok (.iinc 4 1, 3) := by decide +kernel
theorem dX4_elements_71 : decode cX4_elements 71 = .ok (.goto (-44), 3) := by decide +kernel
theorem dX4_elements_74 : decode cX4_elements 74 = .ok (.iload_n 3, 1) := by decide +kernel
theorem dX4_elements_75 : decode cX4_elements 75 = .ok (.ireturn, 1) := by decide +kernel
set_option maxRecDepth 20000 in
theorem ggX4_entries_X4_isRow : GoodIn wsX4_entries wsX4_isRow := goodIn_r _ [4, 5, 6, 3, 7, 8, 9, 10] (by decide +kernel) (by decide +kernel)
set_option maxRecDepth 20000 in
theorem gX4_entries_X4_isRow : GoodIn wsX4_entries (va_wsS RX4 96 yX4_isRow wsX4_isRow) := goodIn_app (goodIn_of _ (by decide +kernel)) ggX4_entries_X4_isRow
set_option maxRecDepth 20000 in
theorem ggX4_entries_X4_in : GoodIn wsX4_entries wsX4_in := goodIn_r _ [10] (by decide +kernel) (by decide +kernel)
set_option maxRecDepth 20000 in
theorem gX4_entries_X4_in : GoodIn wsX4_entries (va_wsS RX4 20 yX4_in wsX4_in) := goodIn_app (goodIn_of _ (by decide +kernel)) ggX4_entries_X4_in
set_option maxRecDepth 20000 in
theorem ggX4_entries_X4_holds : GoodIn wsX4_entries wsX4_holds := goodIn_r _ [14, 15, 31, 32, 33, 34, 35, 36, 37, 38, 39, 40, 41, 42] (by decide +kernel) (by decide +kernel)
set_option maxRecDepth 20000 in
theorem gX4_entries_X4_holds : GoodIn wsX4_entries (wsV RX4 100 RX4 yX4_holds wsX4_holds) := goodIn_app (goodIn_of _ (by decide +kernel)) ggX4_entries_X4_holds
set_option maxRecDepth 20000 in
theorem ggX4_entries_X4_entriesOf : GoodIn wsX4_entries wsX4_entriesOf := goodIn_r _ [19, 20, 21, 22, 3, 23, 24, 25, 26, 27, 28, 29, 30, 31, 32, 33, 34, 35, 36, 37, 38, 39, 40, 41, 42] (by decide +kernel) (by decide +kernel)
set_option maxRecDepth 20000 in
theorem gX4_entries_X4_entriesOf : GoodIn wsX4_entries (wsV RX4 172 RX4 yX4_entriesOf wsX4_entriesOf) := goodIn_app (goodIn_of _ (by decide +kernel)) ggX4_entries_X4_entriesOf
theorem dX4_entries_0 : decode cX4_entries 0 = .ok (.aload_n 0, 1) := by decide +kernel
theorem dX4_entries_1 : decode cX4_entries 1 = .ok (.iload_n 1, 1) := by decide +kernel
theorem dX4_entries_2 : decode cX4_entries 2 = .ok (.iload_n 2, 1) := by decide +kernel
theorem dX4_entries_3 : decode cX4_entries 3 = .ok (.invokestatic 96, 3) := by decide +kernel
theorem dX4_entries_6 : decode cX4_entries 6 = .ok (.ifCond .eq 16, 3) := by decide +kernel
theorem dX4_entries_9 : decode cX4_entries 9 = .ok (.iload_n 3, 1) := by decide +kernel
theorem dX4_entries_10 : decode cX4_entries 10 = .ok (.iconst 0, 1) := by decide +kernel
theorem dX4_entries_11 : decode cX4_entries 11 = .ok (.iconst 4, 1) := by decide +kernel
theorem dX4_entries_12 : decode cX4_entries 12 = .ok (.invokestatic 20, 3) := by decide +kernel
theorem dX4_entries_15 : decode cX4_entries 15 = .ok (.ifCond .eq 7, 3) := by decide +kernel
theorem dX4_entries_18 : decode cX4_entries 18 = .ok (.iconst 0, 1) := by decide +kernel
theorem dX4_entries_19 : decode cX4_entries 19 = .ok (.goto 4, 3) := by decide +kernel
theorem dX4_entries_22 : decode cX4_entries 22 = .ok (.iconst 1, 1) := by decide +kernel
theorem dX4_entries_23 : decode cX4_entries 23 = .ok (.invokevirtual 100, 3) := by decide +kernel
theorem dX4_entries_26 : decode cX4_entries 26 = .ok (.ifCond .eq 13, 3) := by decide +kernel
theorem dX4_entries_29 : decode cX4_entries 29 = .ok (.aload_n 0, 1) := by decide +kernel
theorem dX4_entries_30 : decode cX4_entries 30 = .ok (.iload_n 1, 1) := by decide +kernel
theorem dX4_entries_31 : decode cX4_entries 31 = .ok (.iload_n 2, 1) := by decide +kernel
theorem dX4_entries_32 : decode cX4_entries 32 = .ok (.iload_n 3, 1) := by decide +kernel
theorem dX4_entries_33 : decode cX4_entries 33 = .ok (.invokevirtual 172, 3) := by decide +kernel
theorem dX4_entries_36 : decode cX4_entries 36 = .ok (.goto 4, 3) := by decide +kernel
theorem dX4_entries_39 : decode cX4_entries 39 = .ok (.iconst 0, 1) := by decide +kernel
theorem dX4_entries_40 : decode cX4_entries 40 = .ok (.ireturn, 1) := by decide +kernel
set_option maxRecDepth 20000 in
theorem ggX4_exists_X4_isRow : GoodIn wsX4_exists wsX4_isRow := goodIn_r _ [4, 5, 6, 3, 7, 8, 9, 10] (by decide +kernel) (by decide +kernel)
set_option maxRecDepth 20000 in
theorem gX4_exists_X4_isRow : GoodIn wsX4_exists (va_wsS RX4 96 yX4_isRow wsX4_isRow) := goodIn_app (goodIn_of _ (by decide +kernel)) ggX4_exists_X4_isRow
set_option maxRecDepth 20000 in
theorem ggX4_exists_X4_holds : GoodIn wsX4_exists wsX4_holds := goodIn_r _ [14, 15, 31, 32, 33, 34, 35, 36, 37, 38, 39, 40, 41, 42] (by decide +kernel) (by decide +kernel)
set_option maxRecDepth 20000 in
theorem gX4_exists_X4_holds : GoodIn wsX4_exists (wsV RX4 100 RX4 yX4_holds wsX4_holds) := goodIn_app (goodIn_of _ (by decide +kernel)) ggX4_exists_X4_holds
set_option maxRecDepth 20000 in
theorem ggX4_exists_X4_entriesOf : GoodIn wsX4_exists wsX4_entriesOf := goodIn_r _ [19, 20, 21, 22, 3, 23, 24, 25, 26, 27, 28, 29, 30, 31, 32, 33, 34, 35, 36, 37, 38, 39, 40, 41, 42] (by decide +kernel) (by decide +kernel)
set_option maxRecDepth 20000 in
theorem gX4_exists_X4_entriesOf : GoodIn wsX4_exists (wsV RX4 172 RX4 yX4_entriesOf wsX4_entriesOf) := goodIn_app (goodIn_of _ (by decide +kernel)) ggX4_exists_X4_entriesOf
theorem dX4_exists_0 : decode cX4_exists 0 = .ok (.aload_n 0, 1) := by decide +kernel
theorem dX4_exists_1 : decode cX4_exists 1 = .ok (.iload_n 1, 1) := by decide +kernel
theorem dX4_exists_2 : decode cX4_exists 2 = .ok (.iload_n 2, 1) := by decide +kernel
theorem dX4_exists_3 : decode cX4_exists 3 = .ok (.invokestatic 96, 3) := by decide +kernel
theorem dX4_exists_6 : decode cX4_exists 6 = .ok (.ifCond .eq 7, 3) := by decide +kernel
theorem dX4_exists_9 : decode cX4_exists 9 = .ok (.iconst 0, 1) := by decide +kernel
theorem dX4_exists_10 : decode cX4_exists 10 = .ok (.goto 4, 3) := by decide +kernel
theorem dX4_exists_13 : decode cX4_exists 13 = .ok (.iconst 1, 1) := by decide +kernel
theorem dX4_exists_14 : decode cX4_exists 14 = .ok (.invokevirtual 100, 3) := by decide +kernel
theorem dX4_exists_17 : decode cX4_exists 17 = .ok (.ifCond .ne 5, 3) := by decide +kernel
theorem dX4_exists_20 : decode cX4_exists 20 = .ok (.iconst 0, 1) := by decide +kernel
theorem dX4_exists_21 : decode cX4_exists 21 = .ok (.ireturn, 1) := by decide +kernel
theorem dX4_exists_22 : decode cX4_exists 22 = .ok (.iconst 0, 1) := by decide +kernel
theorem dX4_exists_23 : decode cX4_exists 23 = .ok (.istore_n 3, 1) := by decide +kernel
theorem dX4_exists_24 : decode cX4_exists 24 = .ok (.iconst 0, 1) := by decide +kernel
theorem dX4_exists_25 : decode cX4_exists 25 = .ok (.istore 4, 2) := by decide +kernel
theorem dX4_exists_27 : decode cX4_exists 27 = .ok (.iload 4, 2) := by decide +kernel
theorem dX4_exists_29 : decode cX4_exists 29 = .ok (.iconst 5, 1) := by decide +kernel
theorem dX4_exists_30 : decode cX4_exists 30 = .ok (.if_icmp .ge 30, 3) := by decide +kernel
theorem dX4_exists_33 : decode cX4_exists 33 = .ok (.iload_n 3, 1) := by decide +kernel
theorem dX4_exists_34 : decode cX4_exists 34 = .ok (.ifCond .ne 14, 3) := by decide +kernel
theorem dX4_exists_37 : decode cX4_exists 37 = .ok (.aload_n 0, 1) := by decide +kernel
theorem dX4_exists_38 : decode cX4_exists 38 = .ok (.iload_n 1, 1) := by decide +kernel
theorem dX4_exists_39 : decode cX4_exists 39 = .ok (.iload_n 2, 1) := by decide +kernel
theorem dX4_exists_40 : decode cX4_exists 40 = .ok (.iload 4, 2) := by decide +kernel
theorem dX4_exists_42 : decode cX4_exists 42 = .ok (.invokevirtual 172, 3) := by decide +kernel
theorem dX4_exists_45 : decode cX4_exists 45 = .ok (.ifCond .le 7, 3) := by decide +kernel
theorem dX4_exists_48 : decode cX4_exists 48 = .ok (.iconst 1, 1) := by decide +kernel
theorem dX4_exists_49 : decode cX4_exists 49 = .ok (.goto 4, 3) := by decide +kernel
theorem dX4_exists_52 : decode cX4_exists 52 = .ok (.iconst 0, 1) := by decide +kernel
theorem dX4_exists_53 : decode cX4_exists 53 = .ok (.istore_n 3, 1) := by decide +kernel
theorem dX4_exists_54 : decode cX4_exists 54 = .ok (.iinc 4 1, 3) := by decide +kernel
theorem dX4_exists_57 : decode cX4_exists 57 = .ok (.goto (-30), 3) := by decide +kernel
theorem dX4_exists_60 : decode cX4_exists 60 = .ok (.iload_n 3, 1) := by decide +kernel
theorem dX4_exists_61 : decode cX4_exists 61 = .ok (.ireturn, 1) := by decide +kernel
set_option maxRecDepth 20000 in
theorem ggX4_mean_X4_isRow : GoodIn wsX4_mean wsX4_isRow := goodIn_r _ [4, 5, 6, 3, 7, 8, 9, 10] (by decide +kernel) (by decide +kernel)
set_option maxRecDepth 20000 in
theorem gX4_mean_X4_isRow : GoodIn wsX4_mean (va_wsS RX4 96 yX4_isRow wsX4_isRow) := goodIn_app (goodIn_of _ (by decide +kernel)) ggX4_mean_X4_isRow
set_option maxRecDepth 20000 in
theorem ggX4_mean_X4_holds : GoodIn wsX4_mean wsX4_holds := goodIn_r _ [14, 15, 39, 40, 41, 42, 43, 44, 45, 46, 47, 48, 49, 50] (by decide +kernel) (by decide +kernel)
set_option maxRecDepth 20000 in
theorem gX4_mean_X4_holds : GoodIn wsX4_mean (wsV RX4 100 RX4 yX4_holds wsX4_holds) := goodIn_app (goodIn_of _ (by decide +kernel)) ggX4_mean_X4_holds
set_option maxRecDepth 20000 in
theorem ggX4_mean_X4_entriesOf : GoodIn wsX4_mean wsX4_entriesOf := goodIn_r _ [19, 20, 21, 22, 3, 23, 24, 25, 26, 27, 28, 29, 30, 39, 40, 41, 42, 43, 44, 45, 46, 47, 48, 49, 50] (by decide +kernel) (by decide +kernel)
set_option maxRecDepth 20000 in
theorem gX4_mean_X4_entriesOf : GoodIn wsX4_mean (wsV RX4 172 RX4 yX4_entriesOf wsX4_entriesOf) := goodIn_app (goodIn_of _ (by decide +kernel)) ggX4_mean_X4_entriesOf
set_option maxRecDepth 20000 in
theorem ggX4_mean_X4_sumOf : GoodIn wsX4_mean wsX4_sumOf := goodIn_r _ [34, 24, 25, 26, 3, 27, 20, 28, 29, 30, 35, 36, 37, 38, 39, 40, 41, 42, 43, 44, 45, 46, 47, 48, 49, 50] (by decide +kernel) (by decide +kernel)
set_option maxRecDepth 20000 in
theorem gX4_mean_X4_sumOf : GoodIn wsX4_mean (wsV RX4 63 RX4 yX4_sumOf wsX4_sumOf) := goodIn_app (goodIn_of _ (by decide +kernel)) ggX4_mean_X4_sumOf
theorem dX4_mean_0 : decode cX4_mean 0 = .ok (.aload_n 0, 1) := by decide +kernel
theorem dX4_mean_1 : decode cX4_mean 1 = .ok (.iload_n 1, 1) := by decide +kernel
theorem dX4_mean_2 : decode cX4_mean 2 = .ok (.iload_n 2, 1) := by decide +kernel
theorem dX4_mean_3 : decode cX4_mean 3 = .ok (.invokestatic 96, 3) := by decide +kernel
theorem dX4_mean_6 : decode cX4_mean 6 = .ok (.ifCond .eq 7, 3) := by decide +kernel
theorem dX4_mean_9 : decode cX4_mean 9 = .ok (.iconst 0, 1) := by decide +kernel
theorem dX4_mean_10 : decode cX4_mean 10 = .ok (.goto 4, 3) := by decide +kernel
theorem dX4_mean_13 : decode cX4_mean 13 = .ok (.iconst 1, 1) := by decide +kernel
theorem dX4_mean_14 : decode cX4_mean 14 = .ok (.invokevirtual 100, 3) := by decide +kernel
theorem dX4_mean_17 : decode cX4_mean 17 = .ok (.ifCond .ne 5, 3) := by decide +kernel
theorem dX4_mean_20 : decode cX4_mean 20 = .ok (.fconst 0, 1) := by decide +kernel
theorem dX4_mean_21 : decode cX4_mean 21 = .ok (.freturn, 1) := by decide +kernel
theorem dX4_mean_22 : decode cX4_mean 22 = .ok (.aload_n 0, 1) := by decide +kernel
theorem dX4_mean_23 : decode cX4_mean 23 = .ok (.iload_n 1, 1) := by decide +kernel
theorem dX4_mean_24 : decode cX4_mean 24 = .ok (.iload_n 2, 1) := by decide +kernel
theorem dX4_mean_25 : decode cX4_mean 25 = .ok (.iconst 1, 1) := by decide +kernel
theorem dX4_mean_26 : decode cX4_mean 26 = .ok (.invokevirtual 172, 3) := by decide +kernel
theorem dX4_mean_29 : decode cX4_mean 29 = .ok (.istore_n 3, 1) := by decide +kernel
theorem dX4_mean_30 : decode cX4_mean 30 = .ok (.iload_n 3, 1) := by decide +kernel
theorem dX4_mean_31 : decode cX4_mean 31 = .ok (.ifCond .ne 7, 3) := by decide +kernel
theorem dX4_mean_34 : decode cX4_mean 34 = .ok (.fconst 0, 1) := by decide +kernel
theorem dX4_mean_35 : decode cX4_mean 35 = .ok (.goto 14, 3) := by decide +kernel
theorem dX4_mean_38 : decode cX4_mean 38 = .ok (.aload_n 0, 1) := by decide +kernel
theorem dX4_mean_39 : decode cX4_mean 39 = .ok (.iload_n 1, 1) := by decide +kernel
theorem dX4_mean_40 : decode cX4_mean 40 = .ok (.iload_n 2, 1) := by decide +kernel
theorem dX4_mean_41 : decode cX4_mean 41 = .ok (.iconst 1, 1) := by decide +kernel
theorem dX4_mean_42 : decode cX4_mean 42 = .ok (.invokevirtual 63, 3) := by decide +kernel
theorem dX4_mean_45 : decode cX4_mean 45 = .ok (.i2f, 1) := by decide +kernel
theorem dX4_mean_46 : decode cX4_mean 46 = .ok (.iload_n 3, 1) := by decide +kernel
theorem dX4_mean_47 : decode cX4_mean 47 = .ok (.i2f, 1) := by decide +kernel
theorem dX4_mean_48 : decode cX4_mean 48 = .ok (.fdiv, 1) := by decide +kernel
theorem dX4_mean_49 : decode cX4_mean 49 = .ok (.freturn, 1) := by decide +kernel
set_option maxRecDepth 20000 in
theorem ggX4_seen_X4_isReplica : GoodIn wsX4_seen wsX4_isReplica := goodIn_r _ [4, 5, 6, 3, 7] (by decide +kernel) (by decide +kernel)
set_option maxRecDepth 20000 in
theorem gX4_seen_X4_isReplica : GoodIn wsX4_seen (va_wsS RX4 24 yX4_isReplica wsX4_isReplica) := goodIn_app (goodIn_of _ (by decide +kernel)) ggX4_seen_X4_isReplica
set_option maxRecDepth 20000 in
theorem ggX4_seen_X4_holds : GoodIn wsX4_seen wsX4_holds := goodIn_r _ [11, 12, 18, 19, 20, 21, 22, 23, 24, 25, 26, 27, 28, 29] (by decide +kernel) (by decide +kernel)
set_option maxRecDepth 20000 in
theorem gX4_seen_X4_holds : GoodIn wsX4_seen (wsV RX4 100 RX4 yX4_holds wsX4_holds) := goodIn_app (goodIn_of _ (by decide +kernel)) ggX4_seen_X4_holds
set_option maxRecDepth 20000 in
theorem ggX4_seen_X4_seenBy : GoodIn wsX4_seen wsX4_seenBy := goodIn_r _ [16, 17, 18, 19, 20, 21, 22, 23, 24, 25, 26, 27, 28, 29] (by decide +kernel) (by decide +kernel)
set_option maxRecDepth 20000 in
theorem gX4_seen_X4_seenBy : GoodIn wsX4_seen (wsV RX4 38 RX4 yX4_seenBy wsX4_seenBy) := goodIn_app (goodIn_of _ (by decide +kernel)) ggX4_seen_X4_seenBy
theorem dX4_seen_0 : decode cX4_seen 0 = .ok (.aload_n 0, 1) := by decide +kernel
theorem dX4_seen_1 : decode cX4_seen 1 = .ok (.iload_n 1, 1) := by decide +kernel
theorem dX4_seen_2 : decode cX4_seen 2 = .ok (.invokestatic 24, 3) := by decide +kernel
theorem dX4_seen_5 : decode cX4_seen 5 = .ok (.ifCond .eq 14, 3) := by decide +kernel
theorem dX4_seen_8 : decode cX4_seen 8 = .ok (.iload_n 2, 1) := by decide +kernel
theorem dX4_seen_9 : decode cX4_seen 9 = .ok (.invokestatic 24, 3) := by decide +kernel
theorem dX4_seen_12 : decode cX4_seen 12 = .ok (.ifCond .eq 7, 3) := by decide +kernel
theorem dX4_seen_15 : decode cX4_seen 15 = .ok (.iconst 0, 1) := by decide +kernel
theorem dX4_seen_16 : decode cX4_seen 16 = .ok (.goto 4, 3) := by decide +kernel
theorem dX4_seen_19 : decode cX4_seen 19 = .ok (.iconst 1, 1) := by decide +kernel
theorem dX4_seen_20 : decode cX4_seen 20 = .ok (.invokevirtual 100, 3) := by decide +kernel
theorem dX4_seen_23 : decode cX4_seen 23 = .ok (.ifCond .eq 12, 3) := by decide +kernel
theorem dX4_seen_26 : decode cX4_seen 26 = .ok (.aload_n 0, 1) := by decide +kernel
theorem dX4_seen_27 : decode cX4_seen 27 = .ok (.iload_n 1, 1) := by decide +kernel
theorem dX4_seen_28 : decode cX4_seen 28 = .ok (.iload_n 2, 1) := by decide +kernel
theorem dX4_seen_29 : decode cX4_seen 29 = .ok (.invokevirtual 38, 3) := by decide +kernel
theorem dX4_seen_32 : decode cX4_seen 32 = .ok (.goto 4, 3) := by decide +kernel
theorem dX4_seen_35 : decode cX4_seen 35 = .ok (.iconst 0, 1) := by decide +kernel
theorem dX4_seen_36 : decode cX4_seen 36 = .ok (.ireturn, 1) := by decide +kernel
set_option maxRecDepth 20000 in
theorem ggX4_clock_X4_isReplica : GoodIn wsX4_clock wsX4_isReplica := goodIn_r _ [5, 6, 7, 4, 8] (by decide +kernel) (by decide +kernel)
set_option maxRecDepth 20000 in
theorem gX4_clock_X4_isReplica : GoodIn wsX4_clock (va_wsS RX4 24 yX4_isReplica wsX4_isReplica) := goodIn_app (goodIn_of _ (by decide +kernel)) ggX4_clock_X4_isReplica
set_option maxRecDepth 20000 in
theorem ggX4_clock_X4_holds : GoodIn wsX4_clock wsX4_holds := goodIn_r _ [12, 13, 14, 15, 16, 17, 18, 19, 20, 21, 22, 23, 24, 25] (by decide +kernel) (by decide +kernel)
set_option maxRecDepth 20000 in
theorem gX4_clock_X4_holds : GoodIn wsX4_clock (wsV RX4 100 RX4 yX4_holds wsX4_holds) := goodIn_app (goodIn_of _ (by decide +kernel)) ggX4_clock_X4_holds
theorem dX4_clock_0 : decode cX4_clock 0 = .ok (.aload_n 0, 1) := by decide +kernel
theorem dX4_clock_1 : decode cX4_clock 1 = .ok (.iload_n 1, 1) := by decide +kernel
theorem dX4_clock_2 : decode cX4_clock 2 = .ok (.invokestatic 24, 3) := by decide +kernel
theorem dX4_clock_5 : decode cX4_clock 5 = .ok (.ifCond .eq 7, 3) := by decide +kernel
theorem dX4_clock_8 : decode cX4_clock 8 = .ok (.iconst 0, 1) := by decide +kernel
theorem dX4_clock_9 : decode cX4_clock 9 = .ok (.goto 4, 3) := by decide +kernel
theorem dX4_clock_12 : decode cX4_clock 12 = .ok (.iconst 1, 1) := by decide +kernel
theorem dX4_clock_13 : decode cX4_clock 13 = .ok (.invokevirtual 100, 3) := by decide +kernel
theorem dX4_clock_16 : decode cX4_clock 16 = .ok (.ifCond .eq 15, 3) := by decide +kernel
theorem dX4_clock_19 : decode cX4_clock 19 = .ok (.aload_n 0, 1) := by decide +kernel
theorem dX4_clock_20 : decode cX4_clock 20 = .ok (.getfield 7, 3) := by decide +kernel
theorem dX4_clock_23 : decode cX4_clock 23 = .ok (.bipush 16, 2) := by decide +kernel
theorem dX4_clock_25 : decode cX4_clock 25 = .ok (.iload_n 1, 1) := by decide +kernel
theorem dX4_clock_26 : decode cX4_clock 26 = .ok (.iadd, 1) := by decide +kernel
theorem dX4_clock_27 : decode cX4_clock 27 = .ok (.iaload, 1) := by decide +kernel
theorem dX4_clock_28 : decode cX4_clock 28 = .ok (.goto 4, 3) := by decide +kernel
theorem dX4_clock_31 : decode cX4_clock 31 = .ok (.iconst 0, 1) := by decide +kernel
theorem dX4_clock_32 : decode cX4_clock 32 = .ok (.ireturn, 1) := by decide +kernel
set_option maxRecDepth 20000 in
theorem ggX4_knows_X4_seenBy : GoodIn wsX4_knows wsX4_seenBy := goodIn_r _ [5, 6, 7, 8, 9, 10, 11, 12, 13, 14, 15, 16, 17, 18] (by decide +kernel) (by decide +kernel)
set_option maxRecDepth 20000 in
theorem gX4_knows_X4_seenBy : GoodIn wsX4_knows (wsV RX4 38 RX4 yX4_seenBy wsX4_seenBy) := goodIn_app (goodIn_of _ (by decide +kernel)) ggX4_knows_X4_seenBy
theorem dX4_knows_0 : decode cX4_knows 0 = .ok (.iconst 1, 1) := by decide +kernel
theorem dX4_knows_1 : decode cX4_knows 1 = .ok (.istore_n 3, 1) := by decide +kernel
theorem dX4_knows_2 : decode cX4_knows 2 = .ok (.iconst 0, 1) := by decide +kernel
theorem dX4_knows_3 : decode cX4_knows 3 = .ok (.istore 4, 2) := by decide +kernel
theorem dX4_knows_5 : decode cX4_knows 5 = .ok (.iload 4, 2) := by decide +kernel
theorem dX4_knows_7 : decode cX4_knows 7 = .ok (.iconst 4, 1) := by decide +kernel
theorem dX4_knows_8 : decode cX4_knows 8 = .ok (.if_icmp .ge 36, 3) := by decide +kernel
theorem dX4_knows_11 : decode cX4_knows 11 = .ok (.iload_n 3, 1) := by decide +kernel
theorem dX4_knows_12 : decode cX4_knows 12 = .ok (.ifCond .eq 24, 3) := by decide +kernel
theorem dX4_knows_15 : decode cX4_knows 15 = .ok (.aload_n 0, 1) := by decide +kernel
theorem dX4_knows_16 : decode cX4_knows 16 = .ok (.iload_n 1, 1) := by decide +kernel
theorem dX4_knows_17 : decode cX4_knows 17 = .ok (.iload 4, 2) := by decide +kernel
theorem dX4_knows_19 : decode cX4_knows 19 = .ok (.invokevirtual 38, 3) := by decide +kernel
theorem dX4_knows_22 : decode cX4_knows 22 = .ok (.aload_n 0, 1) := by decide +kernel
theorem dX4_knows_23 : decode cX4_knows 23 = .ok (.iload_n 2, 1) := by decide +kernel
theorem dX4_knows_24 : decode cX4_knows 24 = .ok (.iload 4, 2) := by decide +kernel
theorem dX4_knows_26 : decode cX4_knows 26 = .ok (.invokevirtual 38, 3) := by decide +kernel
theorem dX4_knows_29 : decode cX4_knows 29 = .ok (.if_icmp .lt 7, 3) := by decide +kernel
theorem dX4_knows_32 : decode cX4_knows 32 = .ok (.iconst 1, 1) := by decide +kernel
theorem dX4_knows_33 : decode cX4_knows 33 = .ok (.goto 4, 3) := by decide +kernel
theorem dX4_knows_36 : decode cX4_knows 36 = .ok (.iconst 0, 1) := by decide +kernel
theorem dX4_knows_37 : decode cX4_knows 37 = .ok (.istore_n 3, 1) := by decide +kernel
theorem dX4_knows_38 : decode cX4_knows 38 = .ok (.iinc 4 1, 3) := by decide +kernel
theorem dX4_knows_41 : decode cX4_knows 41 = .ok (.goto (-36), 3) := by decide +kernel
theorem dX4_knows_44 : decode cX4_knows 44 = .ok (.iload_n 3, 1) := by decide +kernel
theorem dX4_knows_45 : decode cX4_knows 45 = .ok (.ireturn, 1) := by decide +kernel
set_option maxRecDepth 20000 in
theorem ggX4_relation_X4_isReplica : GoodIn wsX4_relation wsX4_isReplica := goodIn_r _ [4, 5, 6, 3, 7] (by decide +kernel) (by decide +kernel)
set_option maxRecDepth 20000 in
theorem gX4_relation_X4_isReplica : GoodIn wsX4_relation (va_wsS RX4 24 yX4_isReplica wsX4_isReplica) := goodIn_app (goodIn_of _ (by decide +kernel)) ggX4_relation_X4_isReplica
set_option maxRecDepth 20000 in
theorem ggX4_relation_X4_holds : GoodIn wsX4_relation wsX4_holds := goodIn_r _ [11, 12, 22, 23, 24, 25, 26, 27, 28, 29, 30, 31, 32, 33] (by decide +kernel) (by decide +kernel)
set_option maxRecDepth 20000 in
theorem gX4_relation_X4_holds : GoodIn wsX4_relation (wsV RX4 100 RX4 yX4_holds wsX4_holds) := goodIn_app (goodIn_of _ (by decide +kernel)) ggX4_relation_X4_holds
set_option maxRecDepth 20000 in
theorem ggX4_relation_X4_knows : GoodIn wsX4_relation wsX4_knows := goodIn_r _ [16, 17, 18, 19, 3, 20, 21, 22, 23, 24, 25, 26, 27, 28, 29, 30, 31, 32, 33] (by decide +kernel) (by decide +kernel)
set_option maxRecDepth 20000 in
theorem gX4_relation_X4_knows : GoodIn wsX4_relation (wsV RX4 175 RX4 yX4_knows wsX4_knows) := goodIn_app (goodIn_of _ (by decide +kernel)) ggX4_relation_X4_knows
theorem dX4_relation_0 : decode cX4_relation 0 = .ok (.aload_n 0, 1) := by decide +kernel
theorem dX4_relation_1 : decode cX4_relation 1 = .ok (.iload_n 1, 1) := by decide +kernel
theorem dX4_relation_2 : decode cX4_relation 2 = .ok (.invokestatic 24, 3) := by decide +kernel
theorem dX4_relation_5 : decode cX4_relation 5 = .ok (.ifCond .eq 14, 3) := by decide +kernel
theorem dX4_relation_8 : decode cX4_relation 8 = .ok (.iload_n 2, 1) := by decide +kernel
theorem dX4_relation_9 : decode cX4_relation 9 = .ok (.invokestatic 24, 3) := by decide +kernel
theorem dX4_relation_12 : decode cX4_relation 12 = .ok (.ifCond .eq 7, 3) := by decide +kernel
theorem dX4_relation_15 : decode cX4_relation 15 = .ok (.iconst 0, 1) := by decide +kernel
theorem dX4_relation_16 : decode cX4_relation 16 = .ok (.goto 4, 3) := by decide +kernel
theorem dX4_relation_19 : decode cX4_relation 19 = .ok (.iconst 1, 1) := by decide +kernel
theorem dX4_relation_20 : decode cX4_relation 20 = .ok (.invokevirtual 100, 3) := by decide +kernel
theorem dX4_relation_23 : decode cX4_relation 23 = .ok (.ifCond .ne 5, 3) := by decide +kernel
theorem dX4_relation_26 : decode cX4_relation 26 = .ok (.iconst 0, 1) := by decide +kernel
theorem dX4_relation_27 : decode cX4_relation 27 = .ok (.ireturn, 1) := by decide +kernel
theorem dX4_relation_28 : decode cX4_relation 28 = .ok (.aload_n 0, 1) := by decide +kernel
theorem dX4_relation_29 : decode cX4_relation 29 = .ok (.iload_n 1, 1) := by decide +kernel
theorem dX4_relation_30 : decode cX4_relation 30 = .ok (.iload_n 2, 1) := by decide +kernel
theorem dX4_relation_31 : decode cX4_relation 31 = .ok (.invokevirtual 175, 3) := by decide +kernel
theorem dX4_relation_34 : decode cX4_relation 34 = .ok (.ifCond .eq 18, 3) := by decide +kernel
theorem dX4_relation_37 : decode cX4_relation 37 = .ok (.aload_n 0, 1) := by decide +kernel
theorem dX4_relation_38 : decode cX4_relation 38 = .ok (.iload_n 2, 1) := by decide +kernel
theorem dX4_relation_39 : decode cX4_relation 39 = .ok (.iload_n 1, 1) := by decide +kernel
theorem dX4_relation_40 : decode cX4_relation 40 = .ok (.invokevirtual 175, 3) := by decide +kernel
theorem dX4_relation_43 : decode cX4_relation 43 = .ok (.ifCond .eq 7, 3) := by decide +kernel
theorem dX4_relation_46 : decode cX4_relation 46 = .ok (.iconst 0, 1) := by decide +kernel
theorem dX4_relation_47 : decode cX4_relation 47 = .ok (.goto 4, 3) := by decide +kernel
theorem dX4_relation_50 : decode cX4_relation 50 = .ok (.iconst 2, 1) := by decide +kernel
theorem dX4_relation_51 : decode cX4_relation 51 = .ok (.ireturn, 1) := by decide +kernel
theorem dX4_relation_52 : decode cX4_relation 52 = .ok (.aload_n 0, 1) := by decide +kernel
theorem dX4_relation_53 : decode cX4_relation 53 = .ok (.iload_n 2, 1) := by decide +kernel
theorem dX4_relation_54 : decode cX4_relation 54 = .ok (.iload_n 1, 1) := by decide +kernel
theorem dX4_relation_55 : decode cX4_relation 55 = .ok (.invokevirtual 175, 3) := by decide +kernel
theorem dX4_relation_58 : decode cX4_relation 58 = .ok (.ifCond .eq 7, 3) := by decide +kernel
theorem dX4_relation_61 : decode cX4_relation 61 = .ok (.iconst 1, 1) := by decide +kernel
theorem dX4_relation_62 : decode cX4_relation 62 = .ok (.goto 4, 3) := by decide +kernel
theorem dX4_relation_65 : decode cX4_relation 65 = .ok (.iconst 3, 1) := by decide +kernel
theorem dX4_relation_66 : decode cX4_relation 66 = .ok (.ireturn, 1) := by decide +kernel
set_option maxRecDepth 20000 in
theorem ggX4_conflicts_X4_isReplica : GoodIn wsX4_conflicts wsX4_isReplica := goodIn_r _ [4, 5, 6, 3, 7] (by decide +kernel) (by decide +kernel)
set_option maxRecDepth 20000 in
theorem gX4_conflicts_X4_isReplica : GoodIn wsX4_conflicts (va_wsS RX4 24 yX4_isReplica wsX4_isReplica) := goodIn_app (goodIn_of _ (by decide +kernel)) ggX4_conflicts_X4_isReplica
set_option maxRecDepth 20000 in
theorem ggX4_conflicts_X4_holds : GoodIn wsX4_conflicts wsX4_holds := goodIn_r _ [11, 12, 28, 29, 30, 31, 32, 33, 34, 35, 36, 37, 38, 39] (by decide +kernel) (by decide +kernel)
set_option maxRecDepth 20000 in
theorem gX4_conflicts_X4_holds : GoodIn wsX4_conflicts (wsV RX4 100 RX4 yX4_holds wsX4_holds) := goodIn_app (goodIn_of _ (by decide +kernel)) ggX4_conflicts_X4_holds
set_option maxRecDepth 20000 in
theorem ggX4_conflicts_X4_entriesOf : GoodIn wsX4_conflicts wsX4_entriesOf := goodIn_r _ [16, 17, 18, 19, 3, 20, 21, 22, 23, 24, 25, 26, 27, 28, 29, 30, 31, 32, 33, 34, 35, 36, 37, 38, 39] (by decide +kernel) (by decide +kernel)
set_option maxRecDepth 20000 in
theorem gX4_conflicts_X4_entriesOf : GoodIn wsX4_conflicts (wsV RX4 172 RX4 yX4_entriesOf wsX4_entriesOf) := goodIn_app (goodIn_of _ (by decide +kernel)) ggX4_conflicts_X4_entriesOf
theorem dX4_conflicts_0 : decode cX4_conflicts 0 = .ok (.aload_n 0, 1) := by decide +kernel
theorem dX4_conflicts_1 : decode cX4_conflicts 1 = .ok (.iload_n 1, 1) := by decide +kernel
theorem dX4_conflicts_2 : decode cX4_conflicts 2 = .ok (.invokestatic 24, 3) := by decide +kernel
theorem dX4_conflicts_5 : decode cX4_conflicts 5 = .ok (.ifCond .eq 7, 3) := by decide +kernel
theorem dX4_conflicts_8 : decode cX4_conflicts 8 = .ok (.iconst 0, 1) := by decide +kernel
theorem dX4_conflicts_9 : decode cX4_conflicts 9 = .ok (.goto 4, 3) := by decide +kernel
theorem dX4_conflicts_12 : decode cX4_conflicts 12 = .ok (.iconst 1, 1) := by decide +kernel
theorem dX4_conflicts_13 : decode cX4_conflicts 13 = .ok (.invokevirtual 100, 3) := by decide +kernel
theorem dX4_conflicts_16 : decode cX4_conflicts 16 = .ok (.ifCond .ne 5, 3) := by decide +kernel
theorem dX4_conflicts_19 : decode cX4_conflicts 19 = .ok (.iconst 0, 1) := by decide +kernel
theorem dX4_conflicts_20 : decode cX4_conflicts 20 = .ok (.ireturn, 1) := by decide +kernel
theorem dX4_conflicts_21 : decode cX4_conflicts 21 = .ok (.iconst 0, 1) := by decide +kernel
theorem dX4_conflicts_22 : decode cX4_conflicts 22 = .ok (.istore_n 2, 1) := by decide +kernel
theorem dX4_conflicts_23 : decode cX4_conflicts 23 = .ok (.iconst 0, 1) := by decide +kernel
theorem dX4_conflicts_24 : decode cX4_conflicts 24 = .ok (.istore_n 3, 1) := by decide +kernel
theorem dX4_conflicts_25 : decode cX4_conflicts 25 = .ok (.iload_n 3, 1) := by decide +kernel
theorem dX4_conflicts_26 : decode cX4_conflicts 26 = .ok (.bipush 6, 2) := by decide +kernel
theorem dX4_conflicts_28 : decode cX4_conflicts 28 = .ok (.if_icmp .ge 28, 3) := by decide +kernel
theorem dX4_conflicts_31 : decode cX4_conflicts 31 = .ok (.iload_n 2, 1) := by decide +kernel
theorem dX4_conflicts_32 : decode cX4_conflicts 32 = .ok (.aload_n 0, 1) := by decide +kernel
theorem dX4_conflicts_33 : decode cX4_conflicts 33 = .ok (.iload_n 1, 1) := by decide +kernel
theorem dX4_conflicts_34 : decode cX4_conflicts 34 = .ok (.iload_n 3, 1) := by decide +kernel
theorem dX4_conflicts_35 : decode cX4_conflicts 35 = .ok (.iconst 1, 1) := by decide +kernel
theorem dX4_conflicts_36 : decode cX4_conflicts 36 = .ok (.invokevirtual 172, 3) := by decide +kernel
theorem dX4_conflicts_39 : decode cX4_conflicts 39 = .ok (.iconst 1, 1) := by decide +kernel
theorem dX4_conflicts_40 : decode cX4_conflicts 40 = .ok (.if_icmp .le 7, 3) := by decide +kernel
theorem dX4_conflicts_43 : decode cX4_conflicts 43 = .ok (.iconst 1, 1) := by decide +kernel
theorem dX4_conflicts_44 : decode cX4_conflicts 44 = .ok (.goto 4, 3) := by decide +kernel
theorem dX4_conflicts_47 : decode cX4_conflicts 47 = .ok (.iconst 0, 1) := by decide +kernel
theorem dX4_conflicts_48 : decode cX4_conflicts 48 = .ok (.iadd, 1) := by decide +kernel
theorem dX4_conflicts_49 : decode cX4_conflicts 49 = .ok (.istore_n 2, 1) := by decide +kernel
theorem dX4_conflicts_50 : decode cX4_conflicts 50 = .ok (.iinc 3 1, 3) := by decide +kernel
theorem dX4_conflicts_53 : decode cX4_conflicts 53 = .ok (.goto (-28), 3) := by decide +kernel
theorem dX4_conflicts_56 : decode cX4_conflicts 56 = .ok (.iload_n 2, 1) := by decide +kernel
theorem dX4_conflicts_57 : decode cX4_conflicts 57 = .ok (.ireturn, 1) := by decide +kernel
set_option maxRecDepth 20000 in
theorem ggX4_isLike_X4_elementPlace : GoodIn wsX4_isLike wsX4_elementPlace := goodIn_r _ [5] (by decide +kernel) (by decide +kernel)
set_option maxRecDepth 20000 in
theorem gX4_isLike_X4_elementPlace : GoodIn wsX4_isLike (va_wsS RX4 35 yX4_elementPlace wsX4_elementPlace) := goodIn_app (goodIn_of _ (by decide +kernel)) ggX4_isLike_X4_elementPlace
set_option maxRecDepth 20000 in
theorem ggX4_isLike_X4_mark : GoodIn wsX4_isLike wsX4_mark := goodIn_r _ [9, 1, 10, 11, 4, 12, 13, 14, 15, 16, 17, 18, 19, 20, 21, 22, 23, 24] (by decide +kernel) (by decide +kernel)
set_option maxRecDepth 20000 in
theorem gX4_isLike_X4_mark : GoodIn wsX4_isLike (wsV RX4 32 RX4 yX4_mark wsX4_mark) := goodIn_app (goodIn_of _ (by decide +kernel)) ggX4_isLike_X4_mark
theorem dX4_isLike_0 : decode cX4_isLike 0 = .ok (.iconst 1, 1) := by decide +kernel
theorem dX4_isLike_1 : decode cX4_isLike 1 = .ok (.istore 4, 2) := by decide +kernel
theorem dX4_isLike_3 : decode cX4_isLike 3 = .ok (.iconst 0, 1) := by decide +kernel
theorem dX4_isLike_4 : decode cX4_isLike 4 = .ok (.istore 5, 2) := by decide +kernel
theorem dX4_isLike_6 : decode cX4_isLike 6 = .ok (.iload 5, 2) := by decide +kernel
theorem dX4_isLike_8 : decode cX4_isLike 8 = .ok (.bipush 64, 2) := by decide +kernel
theorem dX4_isLike_10 : decode cX4_isLike 10 = .ok (.if_icmp .ge 108, 3) := by decide +kernel
theorem dX4_isLike_13 : decode cX4_isLike 13 = .ok (.iload 5, 2) := by decide +kernel
theorem dX4_isLike_15 : decode cX4_isLike 15 = .ok (.iconst 4, 1) := by decide +kernel
theorem dX4_isLike_16 : decode cX4_isLike 16 = .ok (.irem, 1) := by decide +kernel
theorem dX4_isLike_17 : decode cX4_isLike 17 = .ok (.istore 6, 2) := by decide +kernel
theorem dX4_isLike_19 : decode cX4_isLike 19 = .ok (.iload_n 3, 1) := by decide +kernel
theorem dX4_isLike_20 : decode cX4_isLike 20 = .ok (.iconst 4, 1) := by decide +kernel
theorem dX4_isLike_21 : decode cX4_isLike 21 = .ok (.if_icmp .ne 46, 3) := by decide +kernel
theorem dX4_isLike_24 : decode cX4_isLike 24 = .ok (.aload_n 0, 1) := by decide +kernel
theorem dX4_isLike_25 : decode cX4_isLike 25 = .ok (.getfield 7, 3) := by decide +kernel
theorem dX4_isLike_28 : decode cX4_isLike 28 = .ok (.iconst 0, 1) := by decide +kernel
theorem dX4_isLike_29 : decode cX4_isLike 29 = .ok (.iload_n 2, 1) := by decide +kernel
theorem dX4_isLike_30 : decode cX4_isLike 30 = .ok (.iload 5, 2) := by decide +kernel
theorem dX4_isLike_32 : decode cX4_isLike 32 = .ok (.iconst 4, 1) := by decide +kernel
theorem dX4_isLike_33 : decode cX4_isLike 33 = .ok (.idiv, 1) := by decide +kernel
theorem dX4_isLike_34 : decode cX4_isLike 34 = .ok (.iload 6, 2) := by decide +kernel
theorem dX4_isLike_36 : decode cX4_isLike 36 = .ok (.invokestatic 35, 3) := by decide +kernel
theorem dX4_isLike_39 : decode cX4_isLike 39 = .ok (.iaload, 1) := by decide +kernel
theorem dX4_isLike_40 : decode cX4_isLike 40 = .ok (.aload_n 0, 1) := by decide +kernel
theorem dX4_isLike_41 : decode cX4_isLike 41 = .ok (.getfield 7, 3) := by decide +kernel
theorem dX4_isLike_44 : decode cX4_isLike 44 = .ok (.iload_n 1, 1) := by decide +kernel
theorem dX4_isLike_45 : decode cX4_isLike 45 = .ok (.iload_n 2, 1) := by decide +kernel
theorem dX4_isLike_46 : decode cX4_isLike 46 = .ok (.iload 5, 2) := by decide +kernel
theorem dX4_isLike_48 : decode cX4_isLike 48 = .ok (.iconst 4, 1) := by decide +kernel
theorem dX4_isLike_49 : decode cX4_isLike 49 = .ok (.idiv, 1) := by decide +kernel
theorem dX4_isLike_50 : decode cX4_isLike 50 = .ok (.iload 6, 2) := by decide +kernel
theorem dX4_isLike_52 : decode cX4_isLike 52 = .ok (.invokestatic 35, 3) := by decide +kernel
theorem dX4_isLike_55 : decode cX4_isLike 55 = .ok (.iaload, 1) := by decide +kernel
theorem dX4_isLike_56 : decode cX4_isLike 56 = .ok (.if_icmp .ne 7, 3) := by decide +kernel
theorem dX4_isLike_59 : decode cX4_isLike 59 = .ok (.iconst 1, 1) := by decide +kernel
theorem dX4_isLike_60 : decode cX4_isLike 60 = .ok (.goto 33, 3) := by decide +kernel
theorem dX4_isLike_63 : decode cX4_isLike 63 = .ok (.iconst 0, 1) := by decide +kernel
theorem dX4_isLike_64 : decode cX4_isLike 64 = .ok (.goto 29, 3) := by decide +kernel
theorem dX4_isLike_67 : decode cX4_isLike 67 = .ok (.aload_n 0, 1) := by decide +kernel
theorem dX4_isLike_68 : decode cX4_isLike 68 = .ok (.iconst 0, 1) := by decide +kernel
theorem dX4_isLike_69 : decode cX4_isLike 69 = .ok (.iload_n 2, 1) := by decide +kernel
theorem dX4_isLike_70 : decode cX4_isLike 70 = .ok (.iload_n 3, 1) := by decide +kernel
theorem dX4_isLike_71 : decode cX4_isLike 71 = .ok (.iload 6, 2) := by decide +kernel
theorem dX4_isLike_73 : decode cX4_isLike 73 = .ok (.invokevirtual 32, 3) := by decide +kernel
theorem dX4_isLike_76 : decode cX4_isLike 76 = .ok (.aload_n 0, 1) := by decide +kernel
theorem dX4_isLike_77 : decode cX4_isLike 77 = .ok (.iload_n 1, 1) := by decide +kernel
theorem dX4_isLike_78 : decode cX4_isLike 78 = .ok (.iload_n 2, 1) := by decide +kernel
theorem dX4_isLike_79 : decode cX4_isLike 79 = .ok (.iload_n 3, 1) := by decide +kernel
theorem dX4_isLike_80 : decode cX4_isLike 80 = .ok (.iload 6, 2) := by decide +kernel
theorem dX4_isLike_82 : decode cX4_isLike 82 = .ok (.invokevirtual 32, 3) := by decide +kernel
theorem dX4_isLike_85 : decode cX4_isLike 85 = .ok (.if_icmp .ne 7, 3) := by decide +kernel
theorem dX4_isLike_88 : decode cX4_isLike 88 = .ok (.iconst 1, 1) := by decide +kernel
theorem dX4_isLike_89 : decode cX4_isLike 89 = .ok (.goto 4, 3) := by decide +kernel
theorem dX4_isLike_92 : decode cX4_isLike 92 = .ok (.iconst 0, 1) := by decide +kernel
theorem dX4_isLike_93 : decode cX4_isLike 93 = .ok (.istore 7, 2) := by decide +kernel
theorem dX4_isLike_95 : decode cX4_isLike 95 = .ok (.iload 4, 2) := by decide +kernel
theorem dX4_isLike_97 : decode cX4_isLike 97 = .ok (.ifCond .eq 12, 3) := by decide +kernel
theorem dX4_isLike_100 : decode cX4_isLike 100 = .ok (.iload 7, 2) := by decide +kernel
theorem dX4_isLike_102 : decode cX4_isLike 102 = .ok (.ifCond .eq 7, 3) := by decide +kernel
theorem dX4_isLike_105 : decode cX4_isLike 105 = .ok (.iconst 1, 1) := by decide +kernel
theorem dX4_isLike_106 : decode cX4_isLike 106 = .ok (.goto 4, 3) := by decide +kernel
theorem dX4_isLike_109 : decode cX4_isLike 109 = .ok (.iconst 0, 1) := by decide +kernel
theorem dX4_isLike_110 : decode cX4_isLike 110 = .ok (.istore 4, 2) := by decide +kernel
theorem dX4_isLike_112 : decode cX4_isLike 112 = .ok (.iinc 5 1, 3) := by decide +kernel
theorem dX4_isLike_115 : decode cX4_isLike 115 = .ok (.goto (-109), 3) := by decide +kernel
theorem dX4_isLike_118 : decode cX4_isLike 118 = .ok (.iload 4, 2) := by decide +kernel
theorem dX4_isLike_120 : decode cX4_isLike 120 = .ok (.ireturn, 1) := by decide +kernel
set_option maxRecDepth 20000 in
theorem ggX4_agreement_X4_isLike : GoodIn wsX4_agreement wsX4_isLike := goodIn_r _ [7, 8, 9, 10, 6, 11, 12, 13, 14, 15, 16, 17, 18, 19, 20, 21, 22, 23, 24, 25, 26, 27, 28, 29, 30] (by decide +kernel) (by decide +kernel)
set_option maxRecDepth 20000 in
theorem gX4_agreement_X4_isLike : GoodIn wsX4_agreement (wsV RX4 178 RX4 yX4_isLike wsX4_isLike) := goodIn_app (goodIn_of _ (by decide +kernel)) ggX4_agreement_X4_isLike
theorem dX4_agreement_0 : decode cX4_agreement 0 = .ok (.aload_n 0, 1) := by decide +kernel
theorem dX4_agreement_1 : decode cX4_agreement 1 = .ok (.iconst 0, 1) := by decide +kernel
theorem dX4_agreement_2 : decode cX4_agreement 2 = .ok (.putfield 16, 3) := by decide +kernel
theorem dX4_agreement_5 : decode cX4_agreement 5 = .ok (.iconst 0, 1) := by decide +kernel
theorem dX4_agreement_6 : decode cX4_agreement 6 = .ok (.istore_n 1, 1) := by decide +kernel
theorem dX4_agreement_7 : decode cX4_agreement 7 = .ok (.iconst 0, 1) := by decide +kernel
theorem dX4_agreement_8 : decode cX4_agreement 8 = .ok (.istore_n 2, 1) := by decide +kernel
theorem dX4_agreement_9 : decode cX4_agreement 9 = .ok (.iload_n 2, 1) := by decide +kernel
theorem dX4_agreement_10 : decode cX4_agreement 10 = .ok (.bipush 30, 2) := by decide +kernel
theorem dX4_agreement_12 : decode cX4_agreement 12 = .ok (.if_icmp .ge 59, 3) := by decide +kernel
theorem dX4_agreement_15 : decode cX4_agreement 15 = .ok (.iload_n 2, 1) := by decide +kernel
theorem dX4_agreement_16 : decode cX4_agreement 16 = .ok (.iconst 5, 1) := by decide +kernel
theorem dX4_agreement_17 : decode cX4_agreement 17 = .ok (.idiv, 1) := by decide +kernel
theorem dX4_agreement_18 : decode cX4_agreement 18 = .ok (.istore_n 3, 1) := by decide +kernel
theorem dX4_agreement_19 : decode cX4_agreement 19 = .ok (.iload_n 2, 1) := by decide +kernel
theorem dX4_agreement_20 : decode cX4_agreement 20 = .ok (.iconst 5, 1) := by decide +kernel
theorem dX4_agreement_21 : decode cX4_agreement 21 = .ok (.irem, 1) := by decide +kernel
theorem dX4_agreement_22 : decode cX4_agreement 22 = .ok (.istore 4, 2) := by decide +kernel
theorem dX4_agreement_24 : decode cX4_agreement 24 = .ok (.iload_n 1, 1) := by decide +kernel
theorem dX4_agreement_25 : decode cX4_agreement 25 = .ok (.aload_n 0, 1) := by decide +kernel
theorem dX4_agreement_26 : decode cX4_agreement 26 = .ok (.iconst 1, 1) := by decide +kernel
theorem dX4_agreement_27 : decode cX4_agreement 27 = .ok (.iload_n 3, 1) := by decide +kernel
theorem dX4_agreement_28 : decode cX4_agreement 28 = .ok (.iload 4, 2) := by decide +kernel
theorem dX4_agreement_30 : decode cX4_agreement 30 = .ok (.invokevirtual 178, 3) := by decide +kernel
theorem dX4_agreement_33 : decode cX4_agreement 33 = .ok (.ifCond .eq 29, 3) := by decide +kernel
theorem dX4_agreement_36 : decode cX4_agreement 36 = .ok (.aload_n 0, 1) := by decide +kernel
theorem dX4_agreement_37 : decode cX4_agreement 37 = .ok (.iconst 2, 1) := by decide +kernel
theorem dX4_agreement_38 : decode cX4_agreement 38 = .ok (.iload_n 3, 1) := by decide +kernel
theorem dX4_agreement_39 : decode cX4_agreement 39 = .ok (.iload 4, 2) := by decide +kernel
theorem dX4_agreement_41 : decode cX4_agreement 41 = .ok (.invokevirtual 178, 3) := by decide +kernel
theorem dX4_agreement_44 : decode cX4_agreement 44 = .ok (.ifCond .eq 18, 3) := by decide +kernel
theorem dX4_agreement_47 : decode cX4_agreement 47 = .ok (.aload_n 0, 1) := by decide +kernel
theorem dX4_agreement_48 : decode cX4_agreement 48 = .ok (.iconst 3, 1) := by decide +kernel
theorem dX4_agreement_49 : decode cX4_agreement 49 = .ok (.iload_n 3, 1) := by decide +kernel
theorem dX4_agreement_50 : decode cX4_agreement 50 = .ok (.iload 4, 2) := by decide +kernel
theorem dX4_agreement_52 : decode cX4_agreement 52 = .ok (.invokevirtual 178, 3) := by decide +kernel
theorem dX4_agreement_55 : decode cX4_agreement 55 = .ok (.ifCond .eq 7, 3) := by decide +kernel
theorem dX4_agreement_58 : decode cX4_agreement 58 = .ok (.iconst 1, 1) := by decide +kernel
theorem dX4_agreement_59 : decode cX4_agreement 59 = .ok (.goto 4, 3) := by decide +kernel
theorem dX4_agreement_62 : decode cX4_agreement 62 = .ok (.iconst 0, 1) := by decide +kernel
theorem dX4_agreement_63 : decode cX4_agreement 63 = .ok (.iadd, 1) := by decide +kernel
theorem dX4_agreement_64 : decode cX4_agreement 64 = .ok (.istore_n 1, 1) := by decide +kernel
theorem dX4_agreement_65 : decode cX4_agreement 65 = .ok (.iinc 2 1, 3) := by decide +kernel
theorem dX4_agreement_68 : decode cX4_agreement 68 = .ok (.goto (-59), 3) := by decide +kernel
theorem dX4_agreement_71 : decode cX4_agreement 71 = .ok (.iload_n 1, 1) := by decide +kernel
theorem dX4_agreement_72 : decode cX4_agreement 72 = .ok (.i2d, 1) := by decide +kernel
theorem dX4_agreement_73 : decode cX4_agreement 73 = .ok (.ldc2_w 181, 3) := by decide +kernel
theorem dX4_agreement_76 : decode cX4_agreement 76 = .ok (.ddiv, 1) := by decide +kernel
theorem dX4_agreement_77 : decode cX4_agreement 77 = .ok (.dreturn, 1) := by decide +kernel
set_option maxRecDepth 20000 in
theorem ggX4_latestMerge_X4_in : GoodIn wsX4_latestMerge wsX4_in := goodIn_r _ [5] (by decide +kernel) (by decide +kernel)
set_option maxRecDepth 20000 in
theorem gX4_latestMerge_X4_in : GoodIn wsX4_latestMerge (va_wsS RX4 20 yX4_in wsX4_in) := goodIn_app (goodIn_of _ (by decide +kernel)) ggX4_latestMerge_X4_in
set_option maxRecDepth 20000 in
theorem ggX4_latestMerge_X4_holds : GoodIn wsX4_latestMerge wsX4_holds := goodIn_r _ [9, 10, 11, 12, 13, 14, 15, 16, 17, 18, 19, 20, 21, 22] (by decide +kernel) (by decide +kernel)
set_option maxRecDepth 20000 in
theorem gX4_latestMerge_X4_holds : GoodIn wsX4_latestMerge (wsV RX4 100 RX4 yX4_holds wsX4_holds) := goodIn_app (goodIn_of _ (by decide +kernel)) ggX4_latestMerge_X4_holds
theorem dX4_latestMerge_0 : decode cX4_latestMerge 0 = .ok (.aload_n 0, 1) := by decide +kernel
theorem dX4_latestMerge_1 : decode cX4_latestMerge 1 = .ok (.iload_n 1, 1) := by decide +kernel
theorem dX4_latestMerge_2 : decode cX4_latestMerge 2 = .ok (.iconst 0, 1) := by decide +kernel
theorem dX4_latestMerge_3 : decode cX4_latestMerge 3 = .ok (.iconst 3, 1) := by decide +kernel
theorem dX4_latestMerge_4 : decode cX4_latestMerge 4 = .ok (.invokestatic 20, 3) := by decide +kernel
theorem dX4_latestMerge_7 : decode cX4_latestMerge 7 = .ok (.ifCond .eq 7, 3) := by decide +kernel
theorem dX4_latestMerge_10 : decode cX4_latestMerge 10 = .ok (.iconst 0, 1) := by decide +kernel
theorem dX4_latestMerge_11 : decode cX4_latestMerge 11 = .ok (.goto 4, 3) := by decide +kernel
theorem dX4_latestMerge_14 : decode cX4_latestMerge 14 = .ok (.iconst 1, 1) := by decide +kernel
theorem dX4_latestMerge_15 : decode cX4_latestMerge 15 = .ok (.invokevirtual 100, 3) := by decide +kernel
theorem dX4_latestMerge_18 : decode cX4_latestMerge 18 = .ok (.ifCond .eq 15, 3) := by decide +kernel
theorem dX4_latestMerge_21 : decode cX4_latestMerge 21 = .ok (.aload_n 0, 1) := by decide +kernel
theorem dX4_latestMerge_22 : decode cX4_latestMerge 22 = .ok (.getfield 7, 3) := by decide +kernel
theorem dX4_latestMerge_25 : decode cX4_latestMerge 25 = .ok (.bipush 20, 2) := by decide +kernel
theorem dX4_latestMerge_27 : decode cX4_latestMerge 27 = .ok (.iload_n 1, 1) := by decide +kernel
theorem dX4_latestMerge_28 : decode cX4_latestMerge 28 = .ok (.iadd, 1) := by decide +kernel
theorem dX4_latestMerge_29 : decode cX4_latestMerge 29 = .ok (.iaload, 1) := by decide +kernel
theorem dX4_latestMerge_30 : decode cX4_latestMerge 30 = .ok (.goto 4, 3) := by decide +kernel
theorem dX4_latestMerge_33 : decode cX4_latestMerge 33 = .ok (.iconst 0, 1) := by decide +kernel
theorem dX4_latestMerge_34 : decode cX4_latestMerge 34 = .ok (.ireturn, 1) := by decide +kernel
set_option maxRecDepth 20000 in
theorem ggX4_ifMerged_X4_isReplica : GoodIn wsX4_ifMerged wsX4_isReplica := goodIn_r _ [6, 7, 8, 5, 9] (by decide +kernel) (by decide +kernel)
set_option maxRecDepth 20000 in
theorem gX4_ifMerged_X4_isReplica : GoodIn wsX4_ifMerged (va_wsS RX4 24 yX4_isReplica wsX4_isReplica) := goodIn_app (goodIn_of _ (by decide +kernel)) ggX4_ifMerged_X4_isReplica
set_option maxRecDepth 20000 in
theorem ggX4_ifMerged_X4_in : GoodIn wsX4_ifMerged wsX4_in := goodIn_r _ [9] (by decide +kernel) (by decide +kernel)
set_option maxRecDepth 20000 in
theorem gX4_ifMerged_X4_in : GoodIn wsX4_ifMerged (va_wsS RX4 20 yX4_in wsX4_in) := goodIn_app (goodIn_of _ (by decide +kernel)) ggX4_ifMerged_X4_in
set_option maxRecDepth 20000 in
theorem ggX4_ifMerged_X4_holds : GoodIn wsX4_ifMerged wsX4_holds := goodIn_r _ [13, 14, 39, 40, 41, 42, 43, 44, 45, 46, 47, 48, 49, 50] (by decide +kernel) (by decide +kernel)
set_option maxRecDepth 20000 in
theorem gX4_ifMerged_X4_holds : GoodIn wsX4_ifMerged (wsV RX4 100 RX4 yX4_holds wsX4_holds) := goodIn_app (goodIn_of _ (by decide +kernel)) ggX4_ifMerged_X4_holds
set_option maxRecDepth 20000 in
theorem ggX4_ifMerged_X4_looks : GoodIn wsX4_ifMerged wsX4_looks := goodIn_r _ [18, 1, 2, 19, 20, 21, 5, 22, 23, 24, 25, 26, 27, 28, 29, 30, 31, 32, 33, 34, 35, 36, 37, 38, 39, 40, 41, 42, 43, 44, 45, 46, 47, 48, 49, 50] (by decide +kernel) (by decide +kernel)
set_option maxRecDepth 20000 in
theorem gX4_ifMerged_X4_looks : GoodIn wsX4_ifMerged (wsV RX4 86 RX4 yX4_looks wsX4_looks) := goodIn_app (goodIn_of _ (by decide +kernel)) ggX4_ifMerged_X4_looks
theorem dX4_ifMerged_0 : decode cX4_ifMerged 0 = .ok (.iload_n 1, 1) := by decide +kernel
theorem dX4_ifMerged_1 : decode cX4_ifMerged 1 = .ok (.invokestatic 24, 3) := by decide +kernel
theorem dX4_ifMerged_4 : decode cX4_ifMerged 4 = .ok (.ifCond .eq 14, 3) := by decide +kernel
theorem dX4_ifMerged_7 : decode cX4_ifMerged 7 = .ok (.iload_n 2, 1) := by decide +kernel
theorem dX4_ifMerged_8 : decode cX4_ifMerged 8 = .ok (.invokestatic 24, 3) := by decide +kernel
theorem dX4_ifMerged_11 : decode cX4_ifMerged 11 = .ok (.ifCond .eq 7, 3) := by decide +kernel
theorem dX4_ifMerged_14 : decode cX4_ifMerged 14 = .ok (.iconst 1, 1) := by decide +kernel
theorem dX4_ifMerged_15 : decode cX4_ifMerged 15 = .ok (.goto 4, 3) := by decide +kernel
theorem dX4_ifMerged_18 : decode cX4_ifMerged 18 = .ok (.iconst 0, 1) := by decide +kernel
theorem dX4_ifMerged_19 : decode cX4_ifMerged 19 = .ok (.istore 4, 2) := by decide +kernel
theorem dX4_ifMerged_21 : decode cX4_ifMerged 21 = .ok (.aload_n 0, 1) := by decide +kernel
theorem dX4_ifMerged_22 : decode cX4_ifMerged 22 = .ok (.iload 4, 2) := by decide +kernel
theorem dX4_ifMerged_24 : decode cX4_ifMerged 24 = .ok (.ifCond .ne 7, 3) := by decide +kernel
theorem dX4_ifMerged_27 : decode cX4_ifMerged 27 = .ok (.iconst 1, 1) := by decide +kernel
theorem dX4_ifMerged_28 : decode cX4_ifMerged 28 = .ok (.goto 22, 3) := by decide +kernel
theorem dX4_ifMerged_31 : decode cX4_ifMerged 31 = .ok (.iload_n 1, 1) := by decide +kernel
theorem dX4_ifMerged_32 : decode cX4_ifMerged 32 = .ok (.iload_n 2, 1) := by decide +kernel
theorem dX4_ifMerged_33 : decode cX4_ifMerged 33 = .ok (.if_icmp .eq 12, 3) := by decide +kernel
theorem dX4_ifMerged_36 : decode cX4_ifMerged 36 = .ok (.iload_n 3, 1) := by decide +kernel
theorem dX4_ifMerged_37 : decode cX4_ifMerged 37 = .ok (.iconst 2, 1) := by decide +kernel
theorem dX4_ifMerged_38 : decode cX4_ifMerged 38 = .ok (.iconst 3, 1) := by decide +kernel
theorem dX4_ifMerged_39 : decode cX4_ifMerged 39 = .ok (.invokestatic 20, 3) := by decide +kernel
theorem dX4_ifMerged_42 : decode cX4_ifMerged 42 = .ok (.ifCond .ne 7, 3) := by decide +kernel
theorem dX4_ifMerged_45 : decode cX4_ifMerged 45 = .ok (.iconst 2, 1) := by decide +kernel
theorem dX4_ifMerged_46 : decode cX4_ifMerged 46 = .ok (.goto 4, 3) := by decide +kernel
theorem dX4_ifMerged_49 : decode cX4_ifMerged 49 = .ok (.iconst 0, 1) := by decide +kernel
theorem dX4_ifMerged_50 : decode cX4_ifMerged 50 = .ok (.invokevirtual 100, 3) := by decide +kernel
theorem dX4_ifMerged_53 : decode cX4_ifMerged 53 = .ok (.ifCond .ne 5, 3) := by decide +kernel
theorem dX4_ifMerged_56 : decode cX4_ifMerged 56 = .ok (.iconst 0, 1) := by decide +kernel
theorem dX4_ifMerged_57 : decode cX4_ifMerged 57 = .ok (.ireturn, 1) := by decide +kernel
theorem dX4_ifMerged_58 : decode cX4_ifMerged 58 = .ok (.aload_n 0, 1) := by decide +kernel
theorem dX4_ifMerged_59 : decode cX4_ifMerged 59 = .ok (.iload_n 1, 1) := by decide +kernel
theorem dX4_ifMerged_60 : decode cX4_ifMerged 60 = .ok (.iload_n 2, 1) := by decide +kernel
theorem dX4_ifMerged_61 : decode cX4_ifMerged 61 = .ok (.iconst 0, 1) := by decide +kernel
theorem dX4_ifMerged_62 : decode cX4_ifMerged 62 = .ok (.invokevirtual 86, 3) := by decide +kernel
theorem dX4_ifMerged_65 : decode cX4_ifMerged 65 = .ok (.iload_n 3, 1) := by decide +kernel
theorem dX4_ifMerged_66 : decode cX4_ifMerged 66 = .ok (.iconst 2, 1) := by decide +kernel
theorem dX4_ifMerged_67 : decode cX4_ifMerged 67 = .ok (.if_icmp .ne 10, 3) := by decide +kernel
theorem dX4_ifMerged_70 : decode cX4_ifMerged 70 = .ok (.aload_n 0, 1) := by decide +kernel
theorem dX4_ifMerged_71 : decode cX4_ifMerged 71 = .ok (.getfield 72, 3) := by decide +kernel
theorem dX4_ifMerged_74 : decode cX4_ifMerged 74 = .ok (.goto 7, 3) := by decide +kernel
theorem dX4_ifMerged_77 : decode cX4_ifMerged 77 = .ok (.aload_n 0, 1) := by decide +kernel
theorem dX4_ifMerged_78 : decode cX4_ifMerged 78 = .ok (.getfield 69, 3) := by decide +kernel
theorem dX4_ifMerged_81 : decode cX4_ifMerged 81 = .ok (.ireturn, 1) := by decide +kernel
theorem dX4_savedStates_0 : decode cX4_savedStates 0 = .ok (.aload_n 0, 1) := by decide +kernel
theorem dX4_savedStates_1 : decode cX4_savedStates 1 = .ok (.iconst 0, 1) := by decide +kernel
theorem dX4_savedStates_2 : decode cX4_savedStates 2 = .ok (.putfield 16, 3) := by decide +kernel
theorem dX4_savedStates_5 : decode cX4_savedStates 5 = .ok (.aload_n 0, 1) := by decide +kernel
theorem dX4_savedStates_6 : decode cX4_savedStates 6 = .ok (.getfield 89, 3) := by decide +kernel
theorem dX4_savedStates_9 : decode cX4_savedStates 9 = .ok (.ireturn, 1) := by decide +kernel
theorem dX4_textLength_0 : decode cX4_textLength 0 = .ok (.aload_n 0, 1) := by decide +kernel
theorem dX4_textLength_1 : decode cX4_textLength 1 = .ok (.iconst 0, 1) := by decide +kernel
theorem dX4_textLength_2 : decode cX4_textLength 2 = .ok (.putfield 16, 3) := by decide +kernel
theorem dX4_textLength_5 : decode cX4_textLength 5 = .ok (.aload_n 0, 1) := by decide +kernel
theorem dX4_textLength_6 : decode cX4_textLength 6 = .ok (.getfield 124, 3) := by decide +kernel
theorem dX4_textLength_9 : decode cX4_textLength 9 = .ok (.ireturn, 1) := by decide +kernel
theorem dJ9_max_7cf53_0 : decode cJ9_max_7cf53 0 = .ok (.iload_n 0, 1) := by decide +kernel
theorem dJ9_max_7cf53_1 : decode cJ9_max_7cf53 1 = .ok (.iload_n 1, 1) := by decide +kernel
theorem dJ9_max_7cf53_2 : decode cJ9_max_7cf53 2 = .ok (.if_icmp .lt 7, 3) := by decide +kernel
theorem dJ9_max_7cf53_5 : decode cJ9_max_7cf53 5 = .ok (.iload_n 0, 1) := by decide +kernel
theorem dJ9_max_7cf53_6 : decode cJ9_max_7cf53 6 = .ok (.goto 4, 3) := by decide +kernel
theorem dJ9_max_7cf53_9 : decode cJ9_max_7cf53 9 = .ok (.iload_n 1, 1) := by decide +kernel
theorem dJ9_max_7cf53_10 : decode cJ9_max_7cf53 10 = .ok (.ireturn, 1) := by decide +kernel
set_option maxRecDepth 20000 in
theorem ggL_put_X3_put : GoodIn wsL_put wsX3_put := goodIn_ca (goodIn_ca (goodIn_r _ [7, 8, 9, 10, 11, 12, 13, 14, 15, 6, 16, 17, 18, 19, 20, 21, 22, 23, 24, 25, 26, 27, 28, 29, 30, 31, 32, 33, 34, 35, 36, 37, 38, 39, 40, 41, 42, 43, 44, 45, 46, 47, 48, 49, 50, 51, 52, 53, 54, 55, 56, 57, 58, 59, 60, 61, 62, 63, 64, 65, 66, 67, 68, 69, 70, 71, 72, 73, 74, 75, 76, 77, 78, 79, 80, 81, 82, 83, 84, 85, 86, 87, 88, 89, 90, 91, 92, 93, 94, 95, 96, 97, 98, 99, 100, 101, 102, 103, 104, 105, 106, 107] (by decide +kernel) (by decide +kernel)) (goodIn_sub (fun _ h => List.mem_cons_of_mem _ (List.mem_append_left _ (List.mem_append_right _ h))) (by decide +kernel))) (goodIn_sub (fun _ h => List.mem_cons_of_mem _ (List.mem_append_right _ h)) (by decide +kernel))
set_option maxRecDepth 20000 in
theorem gL_put_X3_put : GoodIn wsL_put (wsV RL 7 RX3 yX3_put wsX3_put) := goodIn_app (goodIn_of _ (by decide +kernel)) ggL_put_X3_put
