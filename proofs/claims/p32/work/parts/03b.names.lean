theorem dX0_init_0 : decode cX0_init 0 = .ok (.aload_n 0, 1) := by decide +kernel
theorem dX0_init_1 : decode cX0_init 1 = .ok (.invokespecial 3, 3) := by decide +kernel
theorem dX0_init_4 : decode cX0_init 4 = .ok (.aload_n 0, 1) := by decide +kernel
theorem dX0_init_5 : decode cX0_init 5 = .ok (.bipush 6, 2) := by decide +kernel
theorem dX0_init_7 : decode cX0_init 7 = .ok (.anewarray 9, 3) := by decide +kernel
theorem dX0_init_10 : decode cX0_init 10 = .ok (.putfield 11, 3) := by decide +kernel
theorem dX0_init_13 : decode cX0_init 13 = .ok (.aload_n 0, 1) := by decide +kernel
theorem dX0_init_14 : decode cX0_init 14 = .ok (.iconst 0, 1) := by decide +kernel
theorem dX0_init_15 : decode cX0_init 15 = .ok (.putfield 17, 3) := by decide +kernel
theorem dX0_init_18 : decode cX0_init 18 = .ok (.aload_n 0, 1) := by decide +kernel
theorem dX0_init_19 : decode cX0_init 19 = .ok (.iconst 0, 1) := by decide +kernel
theorem dX0_init_20 : decode cX0_init 20 = .ok (.putfield 21, 3) := by decide +kernel
theorem dX0_init_23 : decode cX0_init 23 = .ok (.return_, 1) := by decide +kernel
set_option maxRecDepth 20000 in
theorem ggX0_save_X1_init : GoodIn wsX0_save wsX1_init := goodIn_r _ [8, 9, 10, 11, 12, 13, 14, 15, 16, 17, 18, 30, 31, 32, 33, 34, 35] (by decide +kernel) (by decide +kernel)
set_option maxRecDepth 20000 in
theorem gX0_save_X1_init_n24 : GoodIn wsX0_save (wsX1_init) := ggX0_save_X1_init
set_option maxRecDepth 20000 in
theorem ggX0_save_X1_copyFrom : GoodIn wsX0_save wsX1_copyFrom := goodIn_r _ [22, 13, 23, 24, 25, 26, 14, 15, 16, 17, 18, 30, 31, 32, 33, 34, 35] (by decide +kernel) (by decide +kernel)
set_option maxRecDepth 20000 in
theorem gX0_save_X1_copyFrom : GoodIn wsX0_save (wsV RX0 25 RX1 yX1_copyFrom wsX1_copyFrom) := goodIn_app (goodIn_of _ (by decide +kernel)) ggX0_save_X1_copyFrom
theorem dX0_save_0 : decode cX0_save 0 = .ok (.aload_n 0, 1) := by decide +kernel
theorem dX0_save_1 : decode cX0_save 1 = .ok (.getfield 21, 3) := by decide +kernel
theorem dX0_save_4 : decode cX0_save 4 = .ok (.bipush 6, 2) := by decide +kernel
theorem dX0_save_6 : decode cX0_save 6 = .ok (.if_icmp .ne 26, 3) := by decide +kernel
theorem dX0_save_9 : decode cX0_save 9 = .ok (.aload_n 0, 1) := by decide +kernel
theorem dX0_save_10 : decode cX0_save 10 = .ok (.aload_n 0, 1) := by decide +kernel
theorem dX0_save_11 : decode cX0_save 11 = .ok (.getfield 17, 3) := by decide +kernel
theorem dX0_save_14 : decode cX0_save 14 = .ok (.iconst 1, 1) := by decide +kernel
theorem dX0_save_15 : decode cX0_save 15 = .ok (.iadd, 1) := by decide +kernel
theorem dX0_save_16 : decode cX0_save 16 = .ok (.bipush 6, 2) := by decide +kernel
theorem dX0_save_18 : decode cX0_save 18 = .ok (.irem, 1) := by decide +kernel
theorem dX0_save_19 : decode cX0_save 19 = .ok (.putfield 17, 3) := by decide +kernel
theorem dX0_save_22 : decode cX0_save 22 = .ok (.aload_n 0, 1) := by decide +kernel
theorem dX0_save_23 : decode cX0_save 23 = .ok (.dup, 1) := by decide +kernel
theorem dX0_save_24 : decode cX0_save 24 = .ok (.getfield 21, 3) := by decide +kernel
theorem dX0_save_27 : decode cX0_save 27 = .ok (.iconst 1, 1) := by decide +kernel
theorem dX0_save_28 : decode cX0_save 28 = .ok (.isub, 1) := by decide +kernel
theorem dX0_save_29 : decode cX0_save 29 = .ok (.putfield 21, 3) := by decide +kernel
theorem dX0_save_32 : decode cX0_save 32 = .ok (.aload_n 0, 1) := by decide +kernel
theorem dX0_save_33 : decode cX0_save 33 = .ok (.getfield 17, 3) := by decide +kernel
theorem dX0_save_36 : decode cX0_save 36 = .ok (.aload_n 0, 1) := by decide +kernel
theorem dX0_save_37 : decode cX0_save 37 = .ok (.getfield 21, 3) := by decide +kernel
theorem dX0_save_40 : decode cX0_save 40 = .ok (.iadd, 1) := by decide +kernel
theorem dX0_save_41 : decode cX0_save 41 = .ok (.bipush 6, 2) := by decide +kernel
theorem dX0_save_43 : decode cX0_save 43 = .ok (.irem, 1) := by decide +kernel
theorem dX0_save_44 : decode cX0_save 44 = .ok (.istore_n 2, 1) := by decide +kernel
theorem dX0_save_45 : decode cX0_save 45 = .ok (.aload_n 0, 1) := by decide +kernel
theorem dX0_save_46 : decode cX0_save 46 = .ok (.getfield 11, 3) := by decide +kernel
theorem dX0_save_49 : decode cX0_save 49 = .ok (.iload_n 2, 1) := by decide +kernel
theorem dX0_save_50 : decode cX0_save 50 = .ok (.aaload, 1) := by decide +kernel
theorem dX0_save_51 : decode cX0_save 51 = .ok (.astore_n 3, 1) := by decide +kernel
theorem dX0_save_52 : decode cX0_save 52 = .ok (.aload_n 3, 1) := by decide +kernel
theorem dX0_save_53 : decode cX0_save 53 = .ok (.ifnonnull 18, 3) := by decide +kernel
theorem dX0_save_56 : decode cX0_save 56 = .ok (.new 9, 3) := by decide +kernel
theorem dX0_save_59 : decode cX0_save 59 = .ok (.dup, 1) := by decide +kernel
theorem dX0_save_60 : decode cX0_save 60 = .ok (.invokespecial 24, 3) := by decide +kernel
theorem dX0_save_63 : decode cX0_save 63 = .ok (.astore_n 3, 1) := by decide +kernel
theorem dX0_save_64 : decode cX0_save 64 = .ok (.aload_n 0, 1) := by decide +kernel
theorem dX0_save_65 : decode cX0_save 65 = .ok (.getfield 11, 3) := by decide +kernel
theorem dX0_save_68 : decode cX0_save 68 = .ok (.iload_n 2, 1) := by decide +kernel
theorem dX0_save_69 : decode cX0_save 69 = .ok (.aload_n 3, 1) := by decide +kernel
theorem dX0_save_70 : decode cX0_save 70 = .ok (.aastore, 1) := by decide +kernel
theorem dX0_save_71 : decode cX0_save 71 = .ok (.aload_n 3, 1) := by decide +kernel
theorem dX0_save_72 : decode cX0_save 72 = .ok (.aload_n 1, 1) := by decide +kernel
theorem dX0_save_73 : decode cX0_save 73 = .ok (.invokevirtual 25, 3) := by decide +kernel
theorem dX0_save_76 : decode cX0_save 76 = .ok (.aload_n 0, 1) := by decide +kernel
theorem dX0_save_77 : decode cX0_save 77 = .ok (.dup, 1) := by decide +kernel
theorem dX0_save_78 : decode cX0_save 78 = .ok (.getfield 21, 3) := by decide +kernel
theorem dX0_save_81 : decode cX0_save 81 = .ok (.iconst 1, 1) := by decide +kernel
theorem dX0_save_82 : decode cX0_save 82 = .ok (.iadd, 1) := by decide +kernel
theorem dX0_save_83 : decode cX0_save 83 = .ok (.putfield 21, 3) := by decide +kernel
theorem dX0_save_86 : decode cX0_save 86 = .ok (.return_, 1) := by decide +kernel
set_option maxRecDepth 20000 in
theorem ggX0_restore_X1_copyFrom : GoodIn wsX0_restore wsX1_copyFrom := goodIn_r _ [8, 9, 10, 11, 12, 13, 14, 15, 16, 17, 18, 22, 23, 24, 25, 26, 27] (by decide +kernel) (by decide +kernel)
set_option maxRecDepth 20000 in
theorem gX0_restore_X1_copyFrom : GoodIn wsX0_restore (wsV RX0 25 RX1 yX1_copyFrom wsX1_copyFrom) := goodIn_app (goodIn_of _ (by decide +kernel)) ggX0_restore_X1_copyFrom
theorem dX0_restore_0 : decode cX0_restore 0 = .ok (.aload_n 0, 1) := by decide +kernel
theorem dX0_restore_1 : decode cX0_restore 1 = .ok (.getfield 21, 3) := by decide +kernel
theorem dX0_restore_4 : decode cX0_restore 4 = .ok (.ifCond .ne 4, 3) := by decide +kernel
theorem dX0_restore_7 : decode cX0_restore 7 = .ok (.return_, 1) := by decide +kernel
theorem dX0_restore_8 : decode cX0_restore 8 = .ok (.aload_n 0, 1) := by decide +kernel
theorem dX0_restore_9 : decode cX0_restore 9 = .ok (.dup, 1) := by decide +kernel
theorem dX0_restore_10 : decode cX0_restore 10 = .ok (.getfield 21, 3) := by decide +kernel
theorem dX0_restore_13 : decode cX0_restore 13 = .ok (.iconst 1, 1) := by decide +kernel
theorem dX0_restore_14 : decode cX0_restore 14 = .ok (.isub, 1) := by decide +kernel
theorem dX0_restore_15 : decode cX0_restore 15 = .ok (.putfield 21, 3) := by decide +kernel
theorem dX0_restore_18 : decode cX0_restore 18 = .ok (.aload_n 0, 1) := by decide +kernel
theorem dX0_restore_19 : decode cX0_restore 19 = .ok (.getfield 11, 3) := by decide +kernel
theorem dX0_restore_22 : decode cX0_restore 22 = .ok (.aload_n 0, 1) := by decide +kernel
theorem dX0_restore_23 : decode cX0_restore 23 = .ok (.getfield 17, 3) := by decide +kernel
theorem dX0_restore_26 : decode cX0_restore 26 = .ok (.aload_n 0, 1) := by decide +kernel
theorem dX0_restore_27 : decode cX0_restore 27 = .ok (.getfield 21, 3) := by decide +kernel
theorem dX0_restore_30 : decode cX0_restore 30 = .ok (.iadd, 1) := by decide +kernel
theorem dX0_restore_31 : decode cX0_restore 31 = .ok (.bipush 6, 2) := by decide +kernel
theorem dX0_restore_33 : decode cX0_restore 33 = .ok (.irem, 1) := by decide +kernel
theorem dX0_restore_34 : decode cX0_restore 34 = .ok (.aaload, 1) := by decide +kernel
theorem dX0_restore_35 : decode cX0_restore 35 = .ok (.astore_n 2, 1) := by decide +kernel
theorem dX0_restore_36 : decode cX0_restore 36 = .ok (.aload_n 2, 1) := by decide +kernel
theorem dX0_restore_37 : decode cX0_restore 37 = .ok (.ifnull 8, 3) := by decide +kernel
theorem dX0_restore_40 : decode cX0_restore 40 = .ok (.aload_n 1, 1) := by decide +kernel
theorem dX0_restore_41 : decode cX0_restore 41 = .ok (.aload_n 2, 1) := by decide +kernel
theorem dX0_restore_42 : decode cX0_restore 42 = .ok (.invokevirtual 25, 3) := by decide +kernel
theorem dX0_restore_45 : decode cX0_restore 45 = .ok (.return_, 1) := by decide +kernel
theorem dX1_init_0 : decode cX1_init 0 = .ok (.aload_n 0, 1) := by decide +kernel
theorem dX1_init_1 : decode cX1_init 1 = .ok (.invokespecial 5, 3) := by decide +kernel
theorem dX1_init_4 : decode cX1_init 4 = .ok (.aload_n 0, 1) := by decide +kernel
theorem dX1_init_5 : decode cX1_init 5 = .ok (.sipush 1920, 3) := by decide +kernel
theorem dX1_init_8 : decode cX1_init 8 = .ok (.newarray .int, 2) := by decide +kernel
theorem dX1_init_10 : decode cX1_init 10 = .ok (.putfield 11, 3) := by decide +kernel
theorem dX1_init_13 : decode cX1_init 13 = .ok (.aload_n 0, 1) := by decide +kernel
theorem dX1_init_14 : decode cX1_init 14 = .ok (.sipush 1920, 3) := by decide +kernel
theorem dX1_init_17 : decode cX1_init 17 = .ok (.newarray .int, 2) := by decide +kernel
theorem dX1_init_19 : decode cX1_init 19 = .ok (.putfield 15, 3) := by decide +kernel
theorem dX1_init_22 : decode cX1_init 22 = .ok (.aload_n 0, 1) := by decide +kernel
theorem dX1_init_23 : decode cX1_init 23 = .ok (.sipush 1920, 3) := by decide +kernel
theorem dX1_init_26 : decode cX1_init 26 = .ok (.newarray .int, 2) := by decide +kernel
theorem dX1_init_28 : decode cX1_init 28 = .ok (.putfield 18, 3) := by decide +kernel
theorem dX1_init_31 : decode cX1_init 31 = .ok (.aload_n 0, 1) := by decide +kernel
theorem dX1_init_32 : decode cX1_init 32 = .ok (.bipush 16, 2) := by decide +kernel
theorem dX1_init_34 : decode cX1_init 34 = .ok (.newarray .int, 2) := by decide +kernel
theorem dX1_init_36 : decode cX1_init 36 = .ok (.putfield 21, 3) := by decide +kernel
theorem dX1_init_39 : decode cX1_init 39 = .ok (.aload_n 0, 1) := by decide +kernel
theorem dX1_init_40 : decode cX1_init 40 = .ok (.iconst 4, 1) := by decide +kernel
theorem dX1_init_41 : decode cX1_init 41 = .ok (.newarray .int, 2) := by decide +kernel
theorem dX1_init_43 : decode cX1_init 43 = .ok (.putfield 24, 3) := by decide +kernel
theorem dX1_init_46 : decode cX1_init 46 = .ok (.aload_n 0, 1) := by decide +kernel
theorem dX1_init_47 : decode cX1_init 47 = .ok (.iconst 4, 1) := by decide +kernel
theorem dX1_init_48 : decode cX1_init 48 = .ok (.newarray .int, 2) := by decide +kernel
theorem dX1_init_50 : decode cX1_init 50 = .ok (.dup, 1) := by decide +kernel
theorem dX1_init_51 : decode cX1_init 51 = .ok (.iconst 0, 1) := by decide +kernel
theorem dX1_init_52 : decode cX1_init 52 = .ok (.iconst (-1), 1) := by decide +kernel
theorem dX1_init_53 : decode cX1_init 53 = .ok (.iastore, 1) := by decide +kernel
theorem dX1_init_54 : decode cX1_init 54 = .ok (.dup, 1) := by decide +kernel
theorem dX1_init_55 : decode cX1_init 55 = .ok (.iconst 1, 1) := by decide +kernel
theorem dX1_init_56 : decode cX1_init 56 = .ok (.iconst (-1), 1) := by decide +kernel
theorem dX1_init_57 : decode cX1_init 57 = .ok (.iastore, 1) := by decide +kernel
theorem dX1_init_58 : decode cX1_init 58 = .ok (.dup, 1) := by decide +kernel
theorem dX1_init_59 : decode cX1_init 59 = .ok (.iconst 2, 1) := by decide +kernel
theorem dX1_init_60 : decode cX1_init 60 = .ok (.iconst (-1), 1) := by decide +kernel
theorem dX1_init_61 : decode cX1_init 61 = .ok (.iastore, 1) := by decide +kernel
theorem dX1_init_62 : decode cX1_init 62 = .ok (.dup, 1) := by decide +kernel
theorem dX1_init_63 : decode cX1_init 63 = .ok (.iconst 3, 1) := by decide +kernel
theorem dX1_init_64 : decode cX1_init 64 = .ok (.iconst (-1), 1) := by decide +kernel
theorem dX1_init_65 : decode cX1_init 65 = .ok (.iastore, 1) := by decide +kernel
theorem dX1_init_66 : decode cX1_init 66 = .ok (.putfield 27, 3) := by decide +kernel
theorem dX1_init_69 : decode cX1_init 69 = .ok (.return_, 1) := by decide +kernel
theorem dX1_copyFrom_0 : decode cX1_copyFrom 0 = .ok (.aload_n 1, 1) := by decide +kernel
theorem dX1_copyFrom_1 : decode cX1_copyFrom 1 = .ok (.getfield 11, 3) := by decide +kernel
theorem dX1_copyFrom_4 : decode cX1_copyFrom 4 = .ok (.iconst 0, 1) := by decide +kernel
theorem dX1_copyFrom_5 : decode cX1_copyFrom 5 = .ok (.aload_n 0, 1) := by decide +kernel
theorem dX1_copyFrom_6 : decode cX1_copyFrom 6 = .ok (.getfield 11, 3) := by decide +kernel
theorem dX1_copyFrom_9 : decode cX1_copyFrom 9 = .ok (.iconst 0, 1) := by decide +kernel
theorem dX1_copyFrom_10 : decode cX1_copyFrom 10 = .ok (.sipush 1920, 3) := by decide +kernel
theorem dX1_copyFrom_13 : decode cX1_copyFrom 13 = .ok (.invokestatic 30, 3) := by decide +kernel
theorem dX1_copyFrom_16 : decode cX1_copyFrom 16 = .ok (.aload_n 1, 1) := by decide +kernel
theorem dX1_copyFrom_17 : decode cX1_copyFrom 17 = .ok (.getfield 15, 3) := by decide +kernel
theorem dX1_copyFrom_20 : decode cX1_copyFrom 20 = .ok (.iconst 0, 1) := by decide +kernel
theorem dX1_copyFrom_21 : decode cX1_copyFrom 21 = .ok (.aload_n 0, 1) := by decide +kernel
theorem dX1_copyFrom_22 : decode cX1_copyFrom 22 = .ok (.getfield 15, 3) := by decide +kernel
theorem dX1_copyFrom_25 : decode cX1_copyFrom 25 = .ok (.iconst 0, 1) := by decide +kernel
theorem dX1_copyFrom_26 : decode cX1_copyFrom 26 = .ok (.sipush 1920, 3) := by decide +kernel
theorem dX1_copyFrom_29 : decode cX1_copyFrom 29 = .ok (.invokestatic 30, 3) := by decide +kernel
theorem dX1_copyFrom_32 : decode cX1_copyFrom 32 = .ok (.aload_n 1, 1) := by decide +kernel
theorem dX1_copyFrom_33 : decode cX1_copyFrom 33 = .ok (.getfield 18, 3) := by decide +kernel
theorem dX1_copyFrom_36 : decode cX1_copyFrom 36 = .ok (.iconst 0, 1) := by decide +kernel
theorem dX1_copyFrom_37 : decode cX1_copyFrom 37 = .ok (.aload_n 0, 1) := by decide +kernel
theorem dX1_copyFrom_38 : decode cX1_copyFrom 38 = .ok (.getfield 18, 3) := by decide +kernel
theorem dX1_copyFrom_41 : decode cX1_copyFrom 41 = .ok (.iconst 0, 1) := by decide +kernel
theorem dX1_copyFrom_42 : decode cX1_copyFrom 42 = .ok (.sipush 1920, 3) := by decide +kernel
theorem dX1_copyFrom_45 : decode cX1_copyFrom 45 = .ok (.invokestatic 30, 3) := by decide +kernel
theorem dX1_copyFrom_48 : decode cX1_copyFrom 48 = .ok (.aload_n 1, 1) := by decide +kernel
theorem dX1_copyFrom_49 : decode cX1_copyFrom 49 = .ok (.getfield 21, 3) := by decide +kernel
theorem dX1_copyFrom_52 : decode cX1_copyFrom 52 = .ok (.iconst 0, 1) := by decide +kernel
theorem dX1_copyFrom_53 : decode cX1_copyFrom 53 = .ok (.aload_n 0, 1) := by decide +kernel
theorem dX1_copyFrom_54 : decode cX1_copyFrom 54 = .ok (.getfield 21, 3) := by decide +kernel
theorem dX1_copyFrom_57 : decode cX1_copyFrom 57 = .ok (.iconst 0, 1) := by decide +kernel
theorem dX1_copyFrom_58 : decode cX1_copyFrom 58 = .ok (.bipush 16, 2) := by decide +kernel
theorem dX1_copyFrom_60 : decode cX1_copyFrom 60 = .ok (.invokestatic 30, 3) := by decide +kernel
theorem dX1_copyFrom_63 : decode cX1_copyFrom 63 = .ok (.aload_n 1, 1) := by decide +kernel
theorem dX1_copyFrom_64 : decode cX1_copyFrom 64 = .ok (.getfield 24, 3) := by decide +kernel
theorem dX1_copyFrom_67 : decode cX1_copyFrom 67 = .ok (.iconst 0, 1) := by decide +kernel
theorem dX1_copyFrom_68 : decode cX1_copyFrom 68 = .ok (.aload_n 0, 1) := by decide +kernel
theorem dX1_copyFrom_69 : decode cX1_copyFrom 69 = .ok (.getfield 24, 3) := by decide +kernel
theorem dX1_copyFrom_72 : decode cX1_copyFrom 72 = .ok (.iconst 0, 1) := by decide +kernel
theorem dX1_copyFrom_73 : decode cX1_copyFrom 73 = .ok (.iconst 4, 1) := by decide +kernel
theorem dX1_copyFrom_74 : decode cX1_copyFrom 74 = .ok (.invokestatic 30, 3) := by decide +kernel
theorem dX1_copyFrom_77 : decode cX1_copyFrom 77 = .ok (.aload_n 1, 1) := by decide +kernel
theorem dX1_copyFrom_78 : decode cX1_copyFrom 78 = .ok (.getfield 27, 3) := by decide +kernel
theorem dX1_copyFrom_81 : decode cX1_copyFrom 81 = .ok (.iconst 0, 1) := by decide +kernel
theorem dX1_copyFrom_82 : decode cX1_copyFrom 82 = .ok (.aload_n 0, 1) := by decide +kernel
theorem dX1_copyFrom_83 : decode cX1_copyFrom 83 = .ok (.getfield 27, 3) := by decide +kernel
theorem dX1_copyFrom_86 : decode cX1_copyFrom 86 = .ok (.iconst 0, 1) := by decide +kernel
theorem dX1_copyFrom_87 : decode cX1_copyFrom 87 = .ok (.iconst 4, 1) := by decide +kernel
theorem dX1_copyFrom_88 : decode cX1_copyFrom 88 = .ok (.invokestatic 30, 3) := by decide +kernel
theorem dX1_copyFrom_91 : decode cX1_copyFrom 91 = .ok (.return_, 1) := by decide +kernel
theorem dX1_slotOf_0 : decode cX1_slotOf 0 = .ok (.iload_n 0, 1) := by decide +kernel
theorem dX1_slotOf_1 : decode cX1_slotOf 1 = .ok (.sipush 480, 3) := by decide +kernel
theorem dX1_slotOf_4 : decode cX1_slotOf 4 = .ok (.imul, 1) := by decide +kernel
theorem dX1_slotOf_5 : decode cX1_slotOf 5 = .ok (.iload_n 1, 1) := by decide +kernel
theorem dX1_slotOf_6 : decode cX1_slotOf 6 = .ok (.bipush 80, 2) := by decide +kernel
theorem dX1_slotOf_8 : decode cX1_slotOf 8 = .ok (.imul, 1) := by decide +kernel
theorem dX1_slotOf_9 : decode cX1_slotOf 9 = .ok (.iadd, 1) := by decide +kernel
theorem dX1_slotOf_10 : decode cX1_slotOf 10 = .ok (.iload_n 2, 1) := by decide +kernel
theorem dX1_slotOf_11 : decode cX1_slotOf 11 = .ok (.iconst 4, 1) := by decide +kernel
theorem dX1_slotOf_12 : decode cX1_slotOf 12 = .ok (.imul, 1) := by decide +kernel
theorem dX1_slotOf_13 : decode cX1_slotOf 13 = .ok (.iadd, 1) := by decide +kernel
theorem dX1_slotOf_14 : decode cX1_slotOf 14 = .ok (.ireturn, 1) := by decide +kernel
set_option maxRecDepth 20000 in
theorem ggX1_cellStart_X1_slotOf : GoodIn wsX1_cellStart wsX1_slotOf := goodIn_r _ [4] (by decide +kernel) (by decide +kernel)
set_option maxRecDepth 20000 in
theorem gX1_cellStart_X1_slotOf : GoodIn wsX1_cellStart (va_wsS RX1 36 yX1_slotOf wsX1_slotOf) := goodIn_app (goodIn_of _ (by decide +kernel)) ggX1_cellStart_X1_slotOf
theorem dX1_cellStart_0 : decode cX1_cellStart 0 = .ok (.iload_n 0, 1) := by decide +kernel
theorem dX1_cellStart_1 : decode cX1_cellStart 1 = .ok (.iload_n 1, 1) := by decide +kernel
theorem dX1_cellStart_2 : decode cX1_cellStart 2 = .ok (.iload_n 2, 1) := by decide +kernel
theorem dX1_cellStart_3 : decode cX1_cellStart 3 = .ok (.invokestatic 36, 3) := by decide +kernel
theorem dX1_cellStart_6 : decode cX1_cellStart 6 = .ok (.ireturn, 1) := by decide +kernel
set_option maxRecDepth 20000 in
theorem ggX1_cellEnd_X1_slotOf : GoodIn wsX1_cellEnd wsX1_slotOf := goodIn_r _ [4] (by decide +kernel) (by decide +kernel)
set_option maxRecDepth 20000 in
theorem gX1_cellEnd_X1_slotOf : GoodIn wsX1_cellEnd (va_wsS RX1 36 yX1_slotOf wsX1_slotOf) := goodIn_app (goodIn_of _ (by decide +kernel)) ggX1_cellEnd_X1_slotOf
theorem dX1_cellEnd_0 : decode cX1_cellEnd 0 = .ok (.iload_n 0, 1) := by decide +kernel
theorem dX1_cellEnd_1 : decode cX1_cellEnd 1 = .ok (.iload_n 1, 1) := by decide +kernel
theorem dX1_cellEnd_2 : decode cX1_cellEnd 2 = .ok (.iload_n 2, 1) := by decide +kernel
theorem dX1_cellEnd_3 : decode cX1_cellEnd 3 = .ok (.iconst 4, 1) := by decide +kernel
theorem dX1_cellEnd_4 : decode cX1_cellEnd 4 = .ok (.if_icmp .ne 8, 3) := by decide +kernel
theorem dX1_cellEnd_7 : decode cX1_cellEnd 7 = .ok (.bipush 20, 2) := by decide +kernel
theorem dX1_cellEnd_9 : decode cX1_cellEnd 9 = .ok (.goto 6, 3) := by decide +kernel
theorem dX1_cellEnd_12 : decode cX1_cellEnd 12 = .ok (.iload_n 2, 1) := by decide +kernel
theorem dX1_cellEnd_13 : decode cX1_cellEnd 13 = .ok (.iconst 1, 1) := by decide +kernel
theorem dX1_cellEnd_14 : decode cX1_cellEnd 14 = .ok (.iadd, 1) := by decide +kernel
theorem dX1_cellEnd_15 : decode cX1_cellEnd 15 = .ok (.invokestatic 36, 3) := by decide +kernel
theorem dX1_cellEnd_18 : decode cX1_cellEnd 18 = .ok (.ireturn, 1) := by decide +kernel
theorem dX1_groupOfElement_0 : decode cX1_groupOfElement 0 = .ok (.iconst 4, 1) := by decide +kernel
theorem dX1_groupOfElement_1 : decode cX1_groupOfElement 1 = .ok (.iload_n 0, 1) := by decide +kernel
theorem dX1_groupOfElement_2 : decode cX1_groupOfElement 2 = .ok (.iadd, 1) := by decide +kernel
theorem dX1_groupOfElement_3 : decode cX1_groupOfElement 3 = .ok (.ireturn, 1) := by decide +kernel
theorem dX1_countEntries_0 : decode cX1_countEntries 0 = .ok (.iconst 0, 1) := by decide +kernel
theorem dX1_countEntries_1 : decode cX1_countEntries 1 = .ok (.istore_n 3, 1) := by decide +kernel
theorem dX1_countEntries_2 : decode cX1_countEntries 2 = .ok (.iload_n 1, 1) := by decide +kernel
theorem dX1_countEntries_3 : decode cX1_countEntries 3 = .ok (.istore 4, 2) := by decide +kernel
theorem dX1_countEntries_5 : decode cX1_countEntries 5 = .ok (.iload 4, 2) := by decide +kernel
theorem dX1_countEntries_7 : decode cX1_countEntries 7 = .ok (.iload_n 2, 1) := by decide +kernel
theorem dX1_countEntries_8 : decode cX1_countEntries 8 = .ok (.if_icmp .ge 22, 3) := by decide +kernel
theorem dX1_countEntries_11 : decode cX1_countEntries 11 = .ok (.aload_n 0, 1) := by decide +kernel
theorem dX1_countEntries_12 : decode cX1_countEntries 12 = .ok (.getfield 11, 3) := by decide +kernel
theorem dX1_countEntries_15 : decode cX1_countEntries 15 = .ok (.iload 4, 2) := by decide +kernel
theorem dX1_countEntries_17 : decode cX1_countEntries 17 = .ok (.iaload, 1) := by decide +kernel
theorem dX1_countEntries_18 : decode cX1_countEntries 18 = .ok (.ifCond .eq 6, 3) := by decide +kernel
theorem dX1_countEntries_21 : decode cX1_countEntries 21 = .ok (.iinc 3 1, 3) := by decide +kernel
theorem dX1_countEntries_24 : decode cX1_countEntries 24 = .ok (.iinc 4 1, 3) := by decide +kernel
theorem dX1_countEntries_27 : decode cX1_countEntries 27 = .ok (.goto (-22), 3) := by decide +kernel
theorem dX1_countEntries_30 : decode cX1_countEntries 30 = .ok (.iload_n 3, 1) := by decide +kernel
theorem dX1_countEntries_31 : decode cX1_countEntries 31 = .ok (.ireturn, 1) := by decide +kernel
set_option maxRecDepth 20000 in
theorem ggX1_removeEntries_X1_countEntries : GoodIn wsX1_removeEntries wsX1_countEntries := goodIn_r _ [6, 1, 7, 8, 9, 10, 11, 12] (by decide +kernel) (by decide +kernel)
set_option maxRecDepth 20000 in
theorem gX1_removeEntries_X1_countEntries : GoodIn wsX1_removeEntries (wsV RX1 40 RX1 yX1_countEntries wsX1_countEntries) := goodIn_app (goodIn_of _ (by decide +kernel)) ggX1_removeEntries_X1_countEntries
theorem dX1_removeEntries_0 : decode cX1_removeEntries 0 = .ok (.aload_n 0, 1) := by decide +kernel
theorem dX1_removeEntries_1 : decode cX1_removeEntries 1 = .ok (.iload_n 1, 1) := by decide +kernel
theorem dX1_removeEntries_2 : decode cX1_removeEntries 2 = .ok (.iload_n 2, 1) := by decide +kernel
theorem dX1_removeEntries_3 : decode cX1_removeEntries 3 = .ok (.invokevirtual 40, 3) := by decide +kernel
theorem dX1_removeEntries_6 : decode cX1_removeEntries 6 = .ok (.istore_n 3, 1) := by decide +kernel
theorem dX1_removeEntries_7 : decode cX1_removeEntries 7 = .ok (.iload_n 1, 1) := by decide +kernel
theorem dX1_removeEntries_8 : decode cX1_removeEntries 8 = .ok (.istore 4, 2) := by decide +kernel
theorem dX1_removeEntries_10 : decode cX1_removeEntries 10 = .ok (.iload 4, 2) := by decide +kernel
theorem dX1_removeEntries_12 : decode cX1_removeEntries 12 = .ok (.iload_n 2, 1) := by decide +kernel
theorem dX1_removeEntries_13 : decode cX1_removeEntries 13 = .ok (.if_icmp .ge 17, 3) := by decide +kernel
theorem dX1_removeEntries_16 : decode cX1_removeEntries 16 = .ok (.aload_n 0, 1) := by decide +kernel
theorem dX1_removeEntries_17 : decode cX1_removeEntries 17 = .ok (.getfield 11, 3) := by decide +kernel
theorem dX1_removeEntries_20 : decode cX1_removeEntries 20 = .ok (.iload 4, 2) := by decide +kernel
theorem dX1_removeEntries_22 : decode cX1_removeEntries 22 = .ok (.iconst 0, 1) := by decide +kernel
theorem dX1_removeEntries_23 : decode cX1_removeEntries 23 = .ok (.iastore, 1) := by decide +kernel
theorem dX1_removeEntries_24 : decode cX1_removeEntries 24 = .ok (.iinc 4 1, 3) := by decide +kernel
theorem dX1_removeEntries_27 : decode cX1_removeEntries 27 = .ok (.goto (-17), 3) := by decide +kernel
theorem dX1_removeEntries_30 : decode cX1_removeEntries 30 = .ok (.iload_n 3, 1) := by decide +kernel
theorem dX1_removeEntries_31 : decode cX1_removeEntries 31 = .ok (.ireturn, 1) := by decide +kernel
set_option maxRecDepth 20000 in
theorem ggX1_removeGroup_X1_slotOf : GoodIn wsX1_removeGroup wsX1_slotOf := goodIn_r _ [4] (by decide +kernel) (by decide +kernel)
set_option maxRecDepth 20000 in
theorem gX1_removeGroup_X1_slotOf : GoodIn wsX1_removeGroup (va_wsS RX1 36 yX1_slotOf wsX1_slotOf) := goodIn_app (goodIn_of _ (by decide +kernel)) ggX1_removeGroup_X1_slotOf
set_option maxRecDepth 20000 in
theorem ggX1_removeGroup_X1_removeEntries : GoodIn wsX1_removeGroup wsX1_removeEntries := goodIn_r _ [8, 9, 10, 11, 12, 3, 13, 14, 15, 16, 17, 18, 19] (by decide +kernel) (by decide +kernel)
set_option maxRecDepth 20000 in
theorem gX1_removeGroup_X1_removeEntries : GoodIn wsX1_removeGroup (wsV RX1 44 RX1 yX1_removeEntries wsX1_removeEntries) := goodIn_app (goodIn_of _ (by decide +kernel)) ggX1_removeGroup_X1_removeEntries
theorem dX1_removeGroup_0 : decode cX1_removeGroup 0 = .ok (.aload_n 0, 1) := by decide +kernel
theorem dX1_removeGroup_1 : decode cX1_removeGroup 1 = .ok (.iload_n 1, 1) := by decide +kernel
theorem dX1_removeGroup_2 : decode cX1_removeGroup 2 = .ok (.iload_n 2, 1) := by decide +kernel
theorem dX1_removeGroup_3 : decode cX1_removeGroup 3 = .ok (.iload_n 3, 1) := by decide +kernel
theorem dX1_removeGroup_4 : decode cX1_removeGroup 4 = .ok (.invokestatic 36, 3) := by decide +kernel
theorem dX1_removeGroup_7 : decode cX1_removeGroup 7 = .ok (.iload_n 1, 1) := by decide +kernel
theorem dX1_removeGroup_8 : decode cX1_removeGroup 8 = .ok (.iload_n 2, 1) := by decide +kernel
theorem dX1_removeGroup_9 : decode cX1_removeGroup 9 = .ok (.iload_n 3, 1) := by decide +kernel
theorem dX1_removeGroup_10 : decode cX1_removeGroup 10 = .ok (.iconst 1, 1) := by decide +kernel
theorem dX1_removeGroup_11 : decode cX1_removeGroup 11 = .ok (.iadd, 1) := by decide +kernel
theorem dX1_removeGroup_12 : decode cX1_removeGroup 12 = .ok (.invokestatic 36, 3) := by decide +kernel
theorem dX1_removeGroup_15 : decode cX1_removeGroup 15 = .ok (.invokevirtual 44, 3) := by decide +kernel
theorem dX1_removeGroup_18 : decode cX1_removeGroup 18 = .ok (.ireturn, 1) := by decide +kernel
theorem dX1_seenNumber_0 : decode cX1_seenNumber 0 = .ok (.aload_n 0, 1) := by decide +kernel
theorem dX1_seenNumber_1 : decode cX1_seenNumber 1 = .ok (.getfield 21, 3) := by decide +kernel
theorem dX1_seenNumber_4 : decode cX1_seenNumber 4 = .ok (.iload_n 1, 1) := by decide +kernel
theorem dX1_seenNumber_5 : decode cX1_seenNumber 5 = .ok (.iconst 4, 1) := by decide +kernel
theorem dX1_seenNumber_6 : decode cX1_seenNumber 6 = .ok (.imul, 1) := by decide +kernel
theorem dX1_seenNumber_7 : decode cX1_seenNumber 7 = .ok (.iload_n 2, 1) := by decide +kernel
theorem dX1_seenNumber_8 : decode cX1_seenNumber 8 = .ok (.iadd, 1) := by decide +kernel
theorem dX1_seenNumber_9 : decode cX1_seenNumber 9 = .ok (.iaload, 1) := by decide +kernel
theorem dX1_seenNumber_10 : decode cX1_seenNumber 10 = .ok (.ireturn, 1) := by decide +kernel
theorem dX1_beginUpdate_0 : decode cX1_beginUpdate 0 = .ok (.aload_n 0, 1) := by decide +kernel
theorem dX1_beginUpdate_1 : decode cX1_beginUpdate 1 = .ok (.getfield 24, 3) := by decide +kernel
theorem dX1_beginUpdate_4 : decode cX1_beginUpdate 4 = .ok (.iload_n 1, 1) := by decide +kernel
theorem dX1_beginUpdate_5 : decode cX1_beginUpdate 5 = .ok (.dup2, 1) := by decide +kernel
theorem dX1_beginUpdate_6 : decode cX1_beginUpdate 6 = .ok (.iaload, 1) := by decide +kernel
theorem dX1_beginUpdate_7 : decode cX1_beginUpdate 7 = .ok (.iconst 1, 1) := by decide +kernel
theorem dX1_beginUpdate_8 : decode cX1_beginUpdate 8 = .ok (.iadd, 1) := by decide +kernel
theorem dX1_beginUpdate_9 : decode cX1_beginUpdate 9 = .ok (.iastore, 1) := by decide +kernel
theorem dX1_beginUpdate_10 : decode cX1_beginUpdate 10 = .ok (.aload_n 0, 1) := by decide +kernel
theorem dX1_beginUpdate_11 : decode cX1_beginUpdate 11 = .ok (.getfield 21, 3) := by decide +kernel
theorem dX1_beginUpdate_14 : decode cX1_beginUpdate 14 = .ok (.iload_n 1, 1) := by decide +kernel
theorem dX1_beginUpdate_15 : decode cX1_beginUpdate 15 = .ok (.iconst 4, 1) := by decide +kernel
theorem dX1_beginUpdate_16 : decode cX1_beginUpdate 16 = .ok (.imul, 1) := by decide +kernel
theorem dX1_beginUpdate_17 : decode cX1_beginUpdate 17 = .ok (.iload_n 1, 1) := by decide +kernel
theorem dX1_beginUpdate_18 : decode cX1_beginUpdate 18 = .ok (.iadd, 1) := by decide +kernel
theorem dX1_beginUpdate_19 : decode cX1_beginUpdate 19 = .ok (.dup2, 1) := by decide +kernel
theorem dX1_beginUpdate_20 : decode cX1_beginUpdate 20 = .ok (.iaload, 1) := by decide +kernel
theorem dX1_beginUpdate_21 : decode cX1_beginUpdate 21 = .ok (.iconst 1, 1) := by decide +kernel
theorem dX1_beginUpdate_22 : decode cX1_beginUpdate 22 = .ok (.iadd, 1) := by decide +kernel
theorem dX1_beginUpdate_23 : decode cX1_beginUpdate 23 = .ok (.iastore, 1) := by decide +kernel
theorem dX1_beginUpdate_24 : decode cX1_beginUpdate 24 = .ok (.return_, 1) := by decide +kernel
set_option maxRecDepth 20000 in
theorem ggX1_makeEntry_X1_slotOf : GoodIn wsX1_makeEntry wsX1_slotOf := goodIn_r _ [8] (by decide +kernel) (by decide +kernel)
set_option maxRecDepth 20000 in
theorem gX1_makeEntry_X1_slotOf : GoodIn wsX1_makeEntry (va_wsS RX1 36 yX1_slotOf wsX1_slotOf) := goodIn_app (goodIn_of _ (by decide +kernel)) ggX1_makeEntry_X1_slotOf
set_option maxRecDepth 20000 in
theorem ggX1_makeEntry_X1_seenNumber : GoodIn wsX1_makeEntry wsX1_seenNumber := goodIn_r _ [12, 13, 14, 15, 16, 17, 18, 19] (by decide +kernel) (by decide +kernel)
set_option maxRecDepth 20000 in
theorem gX1_makeEntry_X1_seenNumber : GoodIn wsX1_makeEntry (wsV RX1 47 RX1 yX1_seenNumber wsX1_seenNumber) := goodIn_app (goodIn_of _ (by decide +kernel)) ggX1_makeEntry_X1_seenNumber
theorem dX1_makeEntry_0 : decode cX1_makeEntry 0 = .ok (.iload_n 1, 1) := by decide +kernel
theorem dX1_makeEntry_1 : decode cX1_makeEntry 1 = .ok (.iload_n 2, 1) := by decide +kernel
theorem dX1_makeEntry_2 : decode cX1_makeEntry 2 = .ok (.iload_n 3, 1) := by decide +kernel
theorem dX1_makeEntry_3 : decode cX1_makeEntry 3 = .ok (.invokestatic 36, 3) := by decide +kernel
theorem dX1_makeEntry_6 : decode cX1_makeEntry 6 = .ok (.iload_n 1, 1) := by decide +kernel
theorem dX1_makeEntry_7 : decode cX1_makeEntry 7 = .ok (.iadd, 1) := by decide +kernel
theorem dX1_makeEntry_8 : decode cX1_makeEntry 8 = .ok (.istore 5, 2) := by decide +kernel
theorem dX1_makeEntry_10 : decode cX1_makeEntry 10 = .ok (.aload_n 0, 1) := by decide +kernel
theorem dX1_makeEntry_11 : decode cX1_makeEntry 11 = .ok (.getfield 11, 3) := by decide +kernel
theorem dX1_makeEntry_14 : decode cX1_makeEntry 14 = .ok (.iload 5, 2) := by decide +kernel
theorem dX1_makeEntry_16 : decode cX1_makeEntry 16 = .ok (.aload_n 0, 1) := by decide +kernel
theorem dX1_makeEntry_17 : decode cX1_makeEntry 17 = .ok (.iload_n 1, 1) := by decide +kernel
theorem dX1_makeEntry_18 : decode cX1_makeEntry 18 = .ok (.iload_n 1, 1) := by decide +kernel
theorem dX1_makeEntry_19 : decode cX1_makeEntry 19 = .ok (.invokevirtual 47, 3) := by decide +kernel
theorem dX1_makeEntry_22 : decode cX1_makeEntry 22 = .ok (.iastore, 1) := by decide +kernel
theorem dX1_makeEntry_23 : decode cX1_makeEntry 23 = .ok (.aload_n 0, 1) := by decide +kernel
theorem dX1_makeEntry_24 : decode cX1_makeEntry 24 = .ok (.getfield 15, 3) := by decide +kernel
theorem dX1_makeEntry_27 : decode cX1_makeEntry 27 = .ok (.iload 5, 2) := by decide +kernel
theorem dX1_makeEntry_29 : decode cX1_makeEntry 29 = .ok (.aload_n 0, 1) := by decide +kernel
theorem dX1_makeEntry_30 : decode cX1_makeEntry 30 = .ok (.getfield 24, 3) := by decide +kernel
theorem dX1_makeEntry_33 : decode cX1_makeEntry 33 = .ok (.iload_n 1, 1) := by decide +kernel
theorem dX1_makeEntry_34 : decode cX1_makeEntry 34 = .ok (.iaload, 1) := by decide +kernel
theorem dX1_makeEntry_35 : decode cX1_makeEntry 35 = .ok (.iastore, 1) := by decide +kernel
theorem dX1_makeEntry_36 : decode cX1_makeEntry 36 = .ok (.aload_n 0, 1) := by decide +kernel
theorem dX1_makeEntry_37 : decode cX1_makeEntry 37 = .ok (.getfield 18, 3) := by decide +kernel
theorem dX1_makeEntry_40 : decode cX1_makeEntry 40 = .ok (.iload 5, 2) := by decide +kernel
theorem dX1_makeEntry_42 : decode cX1_makeEntry 42 = .ok (.iload 4, 2) := by decide +kernel
theorem dX1_makeEntry_44 : decode cX1_makeEntry 44 = .ok (.iastore, 1) := by decide +kernel
theorem dX1_makeEntry_45 : decode cX1_makeEntry 45 = .ok (.return_, 1) := by decide +kernel
set_option maxRecDepth 20000 in
theorem ggX1_putValue_X1_beginUpdate : GoodIn wsX1_putValue wsX1_beginUpdate := goodIn_r _ [9, 10, 11, 48, 49, 50, 51, 52, 53] (by decide +kernel) (by decide +kernel)
set_option maxRecDepth 20000 in
theorem gX1_putValue_X1_beginUpdate : GoodIn wsX1_putValue (wsV RX1 50 RX1 yX1_beginUpdate wsX1_beginUpdate) := goodIn_app (goodIn_of _ (by decide +kernel)) ggX1_putValue_X1_beginUpdate
set_option maxRecDepth 20000 in
theorem ggX1_putValue_X1_greatestValue : GoodIn wsX1_putValue wsX1_greatestValue := goodIn_r _ [15, 16, 17, 1, 2, 3, 4, 18, 19, 8, 20, 21, 22, 23, 24, 25, 26, 48, 49, 50, 51, 52, 53] (by decide +kernel) (by decide +kernel)
set_option maxRecDepth 20000 in
theorem gX1_putValue_X1_greatestValue : GoodIn wsX1_putValue (wsV RX1 54 RX1 yX1_greatestValue wsX1_greatestValue) := goodIn_app (goodIn_of _ (by decide +kernel)) ggX1_putValue_X1_greatestValue
set_option maxRecDepth 20000 in
theorem ggX1_putValue_X1_removeGroup : GoodIn wsX1_putValue wsX1_removeGroup := goodIn_r _ [30, 21, 22, 8, 23, 31, 32, 33, 34, 16, 35, 36, 37, 38, 48, 49, 50, 51, 52, 53] (by decide +kernel) (by decide +kernel)
set_option maxRecDepth 20000 in
theorem gX1_putValue_X1_removeGroup : GoodIn wsX1_putValue (wsV RX1 62 RX1 yX1_removeGroup wsX1_removeGroup) := goodIn_app (goodIn_of _ (by decide +kernel)) ggX1_putValue_X1_removeGroup
set_option maxRecDepth 20000 in
theorem ggX1_putValue_X1_makeEntry : GoodIn wsX1_putValue wsX1_makeEntry := goodIn_r _ [42, 16, 43, 10, 17, 21, 22, 8, 23, 44, 45, 46, 47, 11, 48, 49, 50, 51, 52, 53] (by decide +kernel) (by decide +kernel)
set_option maxRecDepth 20000 in
theorem gX1_putValue_X1_makeEntry : GoodIn wsX1_putValue (wsV RX1 65 RX1 yX1_makeEntry wsX1_makeEntry) := goodIn_app (goodIn_of _ (by decide +kernel)) ggX1_putValue_X1_makeEntry
theorem dX1_putValue_0 : decode cX1_putValue 0 = .ok (.aload_n 0, 1) := by decide +kernel
theorem dX1_putValue_1 : decode cX1_putValue 1 = .ok (.iload_n 1, 1) := by decide +kernel
theorem dX1_putValue_2 : decode cX1_putValue 2 = .ok (.invokevirtual 50, 3) := by decide +kernel
theorem dX1_putValue_5 : decode cX1_putValue 5 = .ok (.iload 4, 2) := by decide +kernel
theorem dX1_putValue_7 : decode cX1_putValue 7 = .ok (.istore 5, 2) := by decide +kernel
theorem dX1_putValue_9 : decode cX1_putValue 9 = .ok (.iload_n 3, 1) := by decide +kernel
theorem dX1_putValue_10 : decode cX1_putValue 10 = .ok (.iconst 2, 1) := by decide +kernel
theorem dX1_putValue_11 : decode cX1_putValue 11 = .ok (.if_icmp .ne 16, 3) := by decide +kernel
theorem dX1_putValue_14 : decode cX1_putValue 14 = .ok (.iload 4, 2) := by decide +kernel
theorem dX1_putValue_16 : decode cX1_putValue 16 = .ok (.aload_n 0, 1) := by decide +kernel
theorem dX1_putValue_17 : decode cX1_putValue 17 = .ok (.iload_n 1, 1) := by decide +kernel
theorem dX1_putValue_18 : decode cX1_putValue 18 = .ok (.iload_n 2, 1) := by decide +kernel
theorem dX1_putValue_19 : decode cX1_putValue 19 = .ok (.invokevirtual 54, 3) := by decide +kernel
theorem dX1_putValue_22 : decode cX1_putValue 22 = .ok (.invokestatic 57, 3) := by decide +kernel
theorem dX1_putValue_25 : decode cX1_putValue 25 = .ok (.istore 5, 2) := by decide +kernel
theorem dX1_putValue_27 : decode cX1_putValue 27 = .ok (.aload_n 0, 1) := by decide +kernel
theorem dX1_putValue_28 : decode cX1_putValue 28 = .ok (.iload_n 1, 1) := by decide +kernel
theorem dX1_putValue_29 : decode cX1_putValue 29 = .ok (.iload_n 2, 1) := by decide +kernel
theorem dX1_putValue_30 : decode cX1_putValue 30 = .ok (.iload_n 3, 1) := by decide +kernel
theorem dX1_putValue_31 : decode cX1_putValue 31 = .ok (.invokevirtual 62, 3) := by decide +kernel
theorem dX1_putValue_34 : decode cX1_putValue 34 = .ok (.istore 6, 2) := by decide +kernel
theorem dX1_putValue_36 : decode cX1_putValue 36 = .ok (.aload_n 0, 1) := by decide +kernel
theorem dX1_putValue_37 : decode cX1_putValue 37 = .ok (.iload_n 1, 1) := by decide +kernel
theorem dX1_putValue_38 : decode cX1_putValue 38 = .ok (.iload_n 2, 1) := by decide +kernel
theorem dX1_putValue_39 : decode cX1_putValue 39 = .ok (.iload_n 3, 1) := by decide +kernel
theorem dX1_putValue_40 : decode cX1_putValue 40 = .ok (.iload 5, 2) := by decide +kernel
theorem dX1_putValue_42 : decode cX1_putValue 42 = .ok (.invokevirtual 65, 3) := by decide +kernel
theorem dX1_putValue_45 : decode cX1_putValue 45 = .ok (.iload 6, 2) := by decide +kernel
theorem dX1_putValue_47 : decode cX1_putValue 47 = .ok (.ireturn, 1) := by decide +kernel
set_option maxRecDepth 20000 in
theorem ggX1_addAmount_X1_beginUpdate : GoodIn wsX1_addAmount wsX1_beginUpdate := goodIn_r _ [7, 8, 9, 22, 23, 24, 25, 26, 27] (by decide +kernel) (by decide +kernel)
set_option maxRecDepth 20000 in
theorem gX1_addAmount_X1_beginUpdate : GoodIn wsX1_addAmount (wsV RX1 50 RX1 yX1_beginUpdate wsX1_beginUpdate) := goodIn_app (goodIn_of _ (by decide +kernel)) ggX1_addAmount_X1_beginUpdate
set_option maxRecDepth 20000 in
theorem ggX1_addAmount_X1_slotOf : GoodIn wsX1_addAmount wsX1_slotOf := goodIn_r _ [12] (by decide +kernel) (by decide +kernel)
set_option maxRecDepth 20000 in
theorem gX1_addAmount_X1_slotOf : GoodIn wsX1_addAmount (va_wsS RX1 36 yX1_slotOf wsX1_slotOf) := goodIn_app (goodIn_of _ (by decide +kernel)) ggX1_addAmount_X1_slotOf
set_option maxRecDepth 20000 in
theorem ggX1_addAmount_X1_makeEntry : GoodIn wsX1_addAmount wsX1_makeEntry := goodIn_r _ [16, 1, 17, 8, 2, 10, 11, 6, 12, 18, 19, 20, 21, 9, 22, 23, 24, 25, 26, 27] (by decide +kernel) (by decide +kernel)
set_option maxRecDepth 20000 in
theorem gX1_addAmount_X1_makeEntry : GoodIn wsX1_addAmount (wsV RX1 65 RX1 yX1_makeEntry wsX1_makeEntry) := goodIn_app (goodIn_of _ (by decide +kernel)) ggX1_addAmount_X1_makeEntry
theorem dX1_addAmount_0 : decode cX1_addAmount 0 = .ok (.aload_n 0, 1) := by decide +kernel
theorem dX1_addAmount_1 : decode cX1_addAmount 1 = .ok (.iload_n 1, 1) := by decide +kernel
theorem dX1_addAmount_2 : decode cX1_addAmount 2 = .ok (.invokevirtual 50, 3) := by decide +kernel
theorem dX1_addAmount_5 : decode cX1_addAmount 5 = .ok (.iload_n 1, 1) := by decide +kernel
theorem dX1_addAmount_6 : decode cX1_addAmount 6 = .ok (.iload_n 2, 1) := by decide +kernel
theorem dX1_addAmount_7 : decode cX1_addAmount 7 = .ok (.iconst 3, 1) := by decide +kernel
theorem dX1_addAmount_8 : decode cX1_addAmount 8 = .ok (.invokestatic 36, 3) := by decide +kernel
theorem dX1_addAmount_11 : decode cX1_addAmount 11 = .ok (.iload_n 1, 1) := by decide +kernel
theorem dX1_addAmount_12 : decode cX1_addAmount 12 = .ok (.iadd, 1) := by decide +kernel
theorem dX1_addAmount_13 : decode cX1_addAmount 13 = .ok (.istore 4, 2) := by decide +kernel
theorem dX1_addAmount_15 : decode cX1_addAmount 15 = .ok (.aload_n 0, 1) := by decide +kernel
theorem dX1_addAmount_16 : decode cX1_addAmount 16 = .ok (.getfield 11, 3) := by decide +kernel
theorem dX1_addAmount_19 : decode cX1_addAmount 19 = .ok (.iload 4, 2) := by decide +kernel
theorem dX1_addAmount_21 : decode cX1_addAmount 21 = .ok (.iaload, 1) := by decide +kernel
theorem dX1_addAmount_22 : decode cX1_addAmount 22 = .ok (.ifCond .eq 13, 3) := by decide +kernel
theorem dX1_addAmount_25 : decode cX1_addAmount 25 = .ok (.aload_n 0, 1) := by decide +kernel
theorem dX1_addAmount_26 : decode cX1_addAmount 26 = .ok (.getfield 18, 3) := by decide +kernel
theorem dX1_addAmount_29 : decode cX1_addAmount 29 = .ok (.iload 4, 2) := by decide +kernel
theorem dX1_addAmount_31 : decode cX1_addAmount 31 = .ok (.iaload, 1) := by decide +kernel
theorem dX1_addAmount_32 : decode cX1_addAmount 32 = .ok (.goto 4, 3) := by decide +kernel
theorem dX1_addAmount_35 : decode cX1_addAmount 35 = .ok (.iconst 0, 1) := by decide +kernel
theorem dX1_addAmount_36 : decode cX1_addAmount 36 = .ok (.istore 5, 2) := by decide +kernel
theorem dX1_addAmount_38 : decode cX1_addAmount 38 = .ok (.aload_n 0, 1) := by decide +kernel
theorem dX1_addAmount_39 : decode cX1_addAmount 39 = .ok (.iload_n 1, 1) := by decide +kernel
theorem dX1_addAmount_40 : decode cX1_addAmount 40 = .ok (.iload_n 2, 1) := by decide +kernel
theorem dX1_addAmount_41 : decode cX1_addAmount 41 = .ok (.iconst 3, 1) := by decide +kernel
theorem dX1_addAmount_42 : decode cX1_addAmount 42 = .ok (.iload 5, 2) := by decide +kernel
theorem dX1_addAmount_44 : decode cX1_addAmount 44 = .ok (.iload_n 3, 1) := by decide +kernel
theorem dX1_addAmount_45 : decode cX1_addAmount 45 = .ok (.iadd, 1) := by decide +kernel
theorem dX1_addAmount_46 : decode cX1_addAmount 46 = .ok (.invokevirtual 65, 3) := by decide +kernel
theorem dX1_addAmount_49 : decode cX1_addAmount 49 = .ok (.return_, 1) := by decide +kernel
set_option maxRecDepth 20000 in
theorem ggX1_includeElement_X1_beginUpdate : GoodIn wsX1_includeElement wsX1_beginUpdate := goodIn_r _ [5, 6, 7, 37, 38, 39, 40, 41, 42] (by decide +kernel) (by decide +kernel)
set_option maxRecDepth 20000 in
theorem gX1_includeElement_X1_beginUpdate : GoodIn wsX1_includeElement (wsV RX1 50 RX1 yX1_beginUpdate wsX1_beginUpdate) := goodIn_app (goodIn_of _ (by decide +kernel)) ggX1_includeElement_X1_beginUpdate
set_option maxRecDepth 20000 in
theorem ggX1_includeElement_X1_groupOfElement : GoodIn wsX1_includeElement wsX1_groupOfElement := goodIn_r _ [10] (by decide +kernel) (by decide +kernel)
set_option maxRecDepth 20000 in
theorem gX1_includeElement_X1_groupOfElement : GoodIn wsX1_includeElement (va_wsS RX1 69 yX1_groupOfElement wsX1_groupOfElement) := goodIn_app (goodIn_of _ (by decide +kernel)) ggX1_includeElement_X1_groupOfElement
set_option maxRecDepth 20000 in
theorem ggX1_includeElement_X1_removeGroup : GoodIn wsX1_includeElement wsX1_removeGroup := goodIn_r _ [14, 15, 16, 4, 17, 18, 19, 20, 21, 22, 23, 24, 25, 26, 37, 38, 39, 40, 41, 42] (by decide +kernel) (by decide +kernel)
set_option maxRecDepth 20000 in
theorem gX1_includeElement_X1_removeGroup : GoodIn wsX1_includeElement (wsV RX1 62 RX1 yX1_removeGroup wsX1_removeGroup) := goodIn_app (goodIn_of _ (by decide +kernel)) ggX1_includeElement_X1_removeGroup
set_option maxRecDepth 20000 in
theorem ggX1_includeElement_X1_makeEntry : GoodIn wsX1_includeElement wsX1_makeEntry := goodIn_r _ [30, 22, 31, 6, 32, 15, 16, 4, 17, 33, 34, 35, 36, 7, 37, 38, 39, 40, 41, 42] (by decide +kernel) (by decide +kernel)
set_option maxRecDepth 20000 in
theorem gX1_includeElement_X1_makeEntry : GoodIn wsX1_includeElement (wsV RX1 65 RX1 yX1_makeEntry wsX1_makeEntry) := goodIn_app (goodIn_of _ (by decide +kernel)) ggX1_includeElement_X1_makeEntry
theorem dX1_includeElement_0 : decode cX1_includeElement 0 = .ok (.aload_n 0, 1) := by decide +kernel
theorem dX1_includeElement_1 : decode cX1_includeElement 1 = .ok (.iload_n 1, 1) := by decide +kernel
theorem dX1_includeElement_2 : decode cX1_includeElement 2 = .ok (.invokevirtual 50, 3) := by decide +kernel
theorem dX1_includeElement_5 : decode cX1_includeElement 5 = .ok (.aload_n 0, 1) := by decide +kernel
theorem dX1_includeElement_6 : decode cX1_includeElement 6 = .ok (.iload_n 1, 1) := by decide +kernel
theorem dX1_includeElement_7 : decode cX1_includeElement 7 = .ok (.iload_n 2, 1) := by decide +kernel
theorem dX1_includeElement_8 : decode cX1_includeElement 8 = .ok (.iload_n 3, 1) := by decide +kernel
theorem dX1_includeElement_9 : decode cX1_includeElement 9 = .ok (.invokestatic 69, 3) := by decide +kernel
theorem dX1_includeElement_12 : decode cX1_includeElement 12 = .ok (.invokevirtual 62, 3) := by decide +kernel
theorem dX1_includeElement_15 : decode cX1_includeElement 15 = .ok (.istore 4, 2) := by decide +kernel
theorem dX1_includeElement_17 : decode cX1_includeElement 17 = .ok (.aload_n 0, 1) := by decide +kernel
theorem dX1_includeElement_18 : decode cX1_includeElement 18 = .ok (.iload_n 1, 1) := by decide +kernel
theorem dX1_includeElement_19 : decode cX1_includeElement 19 = .ok (.iload_n 2, 1) := by decide +kernel
theorem dX1_includeElement_20 : decode cX1_includeElement 20 = .ok (.iload_n 3, 1) := by decide +kernel
theorem dX1_includeElement_21 : decode cX1_includeElement 21 = .ok (.invokestatic 69, 3) := by decide +kernel
theorem dX1_includeElement_24 : decode cX1_includeElement 24 = .ok (.iload_n 3, 1) := by decide +kernel
theorem dX1_includeElement_25 : decode cX1_includeElement 25 = .ok (.invokevirtual 65, 3) := by decide +kernel
theorem dX1_includeElement_28 : decode cX1_includeElement 28 = .ok (.iload 4, 2) := by decide +kernel
theorem dX1_includeElement_30 : decode cX1_includeElement 30 = .ok (.ireturn, 1) := by decide +kernel
set_option maxRecDepth 20000 in
theorem ggX1_excludeElement_X1_beginUpdate : GoodIn wsX1_excludeElement wsX1_beginUpdate := goodIn_r _ [5, 6, 7, 27, 28, 29, 30, 31, 32] (by decide +kernel) (by decide +kernel)
set_option maxRecDepth 20000 in
theorem gX1_excludeElement_X1_beginUpdate : GoodIn wsX1_excludeElement (wsV RX1 50 RX1 yX1_beginUpdate wsX1_beginUpdate) := goodIn_app (goodIn_of _ (by decide +kernel)) ggX1_excludeElement_X1_beginUpdate
set_option maxRecDepth 20000 in
theorem ggX1_excludeElement_X1_groupOfElement : GoodIn wsX1_excludeElement wsX1_groupOfElement := goodIn_r _ [10] (by decide +kernel) (by decide +kernel)
set_option maxRecDepth 20000 in
theorem gX1_excludeElement_X1_groupOfElement : GoodIn wsX1_excludeElement (va_wsS RX1 69 yX1_groupOfElement wsX1_groupOfElement) := goodIn_app (goodIn_of _ (by decide +kernel)) ggX1_excludeElement_X1_groupOfElement
set_option maxRecDepth 20000 in
theorem ggX1_excludeElement_X1_removeGroup : GoodIn wsX1_excludeElement wsX1_removeGroup := goodIn_r _ [14, 15, 16, 4, 17, 18, 19, 20, 21, 22, 23, 24, 25, 26, 27, 28, 29, 30, 31, 32] (by decide +kernel) (by decide +kernel)
set_option maxRecDepth 20000 in
theorem gX1_excludeElement_X1_removeGroup : GoodIn wsX1_excludeElement (wsV RX1 62 RX1 yX1_removeGroup wsX1_removeGroup) := goodIn_app (goodIn_of _ (by decide +kernel)) ggX1_excludeElement_X1_removeGroup
theorem dX1_excludeElement_0 : decode cX1_excludeElement 0 = .ok (.aload_n 0, 1) := by decide +kernel
theorem dX1_excludeElement_1 : decode cX1_excludeElement 1 = .ok (.iload_n 1, 1) := by decide +kernel
theorem dX1_excludeElement_2 : decode cX1_excludeElement 2 = .ok (.invokevirtual 50, 3) := by decide +kernel
theorem dX1_excludeElement_5 : decode cX1_excludeElement 5 = .ok (.aload_n 0, 1) := by decide +kernel
theorem dX1_excludeElement_6 : decode cX1_excludeElement 6 = .ok (.iload_n 1, 1) := by decide +kernel
theorem dX1_excludeElement_7 : decode cX1_excludeElement 7 = .ok (.iload_n 2, 1) := by decide +kernel
theorem dX1_excludeElement_8 : decode cX1_excludeElement 8 = .ok (.iload_n 3, 1) := by decide +kernel
theorem dX1_excludeElement_9 : decode cX1_excludeElement 9 = .ok (.invokestatic 69, 3) := by decide +kernel
theorem dX1_excludeElement_12 : decode cX1_excludeElement 12 = .ok (.invokevirtual 62, 3) := by decide +kernel
theorem dX1_excludeElement_15 : decode cX1_excludeElement 15 = .ok (.ireturn, 1) := by decide +kernel
set_option maxRecDepth 20000 in
theorem ggX1_deleteRow_X1_beginUpdate : GoodIn wsX1_deleteRow wsX1_beginUpdate := goodIn_r _ [5, 6, 7, 20, 21, 22, 23, 24, 25] (by decide +kernel) (by decide +kernel)
set_option maxRecDepth 20000 in
theorem gX1_deleteRow_X1_beginUpdate : GoodIn wsX1_deleteRow (wsV RX1 50 RX1 yX1_beginUpdate wsX1_beginUpdate) := goodIn_app (goodIn_of _ (by decide +kernel)) ggX1_deleteRow_X1_beginUpdate
set_option maxRecDepth 20000 in
theorem ggX1_deleteRow_X1_slotOf : GoodIn wsX1_deleteRow wsX1_slotOf := goodIn_r _ [10] (by decide +kernel) (by decide +kernel)
set_option maxRecDepth 20000 in
theorem gX1_deleteRow_X1_slotOf : GoodIn wsX1_deleteRow (va_wsS RX1 36 yX1_slotOf wsX1_slotOf) := goodIn_app (goodIn_of _ (by decide +kernel)) ggX1_deleteRow_X1_slotOf
set_option maxRecDepth 20000 in
theorem ggX1_deleteRow_X1_removeEntries : GoodIn wsX1_deleteRow wsX1_removeEntries := goodIn_r _ [14, 15, 16, 17, 18, 4, 19, 20, 21, 22, 23, 24, 25] (by decide +kernel) (by decide +kernel)
set_option maxRecDepth 20000 in
theorem gX1_deleteRow_X1_removeEntries : GoodIn wsX1_deleteRow (wsV RX1 44 RX1 yX1_removeEntries wsX1_removeEntries) := goodIn_app (goodIn_of _ (by decide +kernel)) ggX1_deleteRow_X1_removeEntries
theorem dX1_deleteRow_0 : decode cX1_deleteRow 0 = .ok (.aload_n 0, 1) := by decide +kernel
theorem dX1_deleteRow_1 : decode cX1_deleteRow 1 = .ok (.iload_n 1, 1) := by decide +kernel
theorem dX1_deleteRow_2 : decode cX1_deleteRow 2 = .ok (.invokevirtual 50, 3) := by decide +kernel
theorem dX1_deleteRow_5 : decode cX1_deleteRow 5 = .ok (.aload_n 0, 1) := by decide +kernel
theorem dX1_deleteRow_6 : decode cX1_deleteRow 6 = .ok (.iload_n 1, 1) := by decide +kernel
theorem dX1_deleteRow_7 : decode cX1_deleteRow 7 = .ok (.iload_n 2, 1) := by decide +kernel
theorem dX1_deleteRow_8 : decode cX1_deleteRow 8 = .ok (.iconst 0, 1) := by decide +kernel
theorem dX1_deleteRow_9 : decode cX1_deleteRow 9 = .ok (.invokestatic 36, 3) := by decide +kernel
theorem dX1_deleteRow_12 : decode cX1_deleteRow 12 = .ok (.iload_n 1, 1) := by decide +kernel
theorem dX1_deleteRow_13 : decode cX1_deleteRow 13 = .ok (.iload_n 2, 1) := by decide +kernel
theorem dX1_deleteRow_14 : decode cX1_deleteRow 14 = .ok (.bipush 20, 2) := by decide +kernel
theorem dX1_deleteRow_16 : decode cX1_deleteRow 16 = .ok (.invokestatic 36, 3) := by decide +kernel
theorem dX1_deleteRow_19 : decode cX1_deleteRow 19 = .ok (.invokevirtual 44, 3) := by decide +kernel
theorem dX1_deleteRow_22 : decode cX1_deleteRow 22 = .ok (.ireturn, 1) := by decide +kernel
set_option maxRecDepth 20000 in
theorem ggX1_mergeReplica_X1_countAdded : GoodIn wsX1_mergeReplica wsX1_countAdded := goodIn_r _ [6, 7, 8, 9, 5, 10, 11, 12, 13, 14, 15, 16, 40, 41, 42, 43, 44, 45] (by decide +kernel) (by decide +kernel)
set_option maxRecDepth 20000 in
theorem gX1_mergeReplica_X1_countAdded : GoodIn wsX1_mergeReplica (wsV RX1 73 RX1 yX1_countAdded wsX1_countAdded) := goodIn_app (goodIn_of _ (by decide +kernel)) ggX1_mergeReplica_X1_countAdded
set_option maxRecDepth 20000 in
theorem ggX1_mergeReplica_X1_countRemoved : GoodIn wsX1_mergeReplica wsX1_countRemoved := goodIn_r _ [20, 21, 22, 23, 5, 24, 11, 12, 13, 14, 15, 16, 40, 41, 42, 43, 44, 45] (by decide +kernel) (by decide +kernel)
set_option maxRecDepth 20000 in
theorem gX1_mergeReplica_X1_countRemoved : GoodIn wsX1_mergeReplica (wsV RX1 76 RX1 yX1_countRemoved wsX1_countRemoved) := goodIn_app (goodIn_of _ (by decide +kernel)) ggX1_mergeReplica_X1_countRemoved
set_option maxRecDepth 20000 in
theorem ggX1_mergeReplica_X1_mergeSlot : GoodIn wsX1_mergeReplica wsX1_mergeSlot := goodIn_r _ [28, 11, 29, 30, 7, 8, 9, 5, 10, 12, 13, 14, 15, 16, 21, 22, 23, 24, 40, 41, 42, 43, 44, 45] (by decide +kernel) (by decide +kernel)
set_option maxRecDepth 20000 in
theorem gX1_mergeReplica_X1_mergeSlot : GoodIn wsX1_mergeReplica (wsV RX1 79 RX1 yX1_mergeSlot wsX1_mergeSlot) := goodIn_app (goodIn_of _ (by decide +kernel)) ggX1_mergeReplica_X1_mergeSlot
set_option maxRecDepth 20000 in
theorem ggX1_mergeReplica_X1_mergeKnowledge : GoodIn wsX1_mergeReplica wsX1_mergeKnowledge := goodIn_r _ [34, 16, 35, 36, 37, 38, 39, 12, 13, 14, 5, 15, 40, 41, 42, 43, 44, 45] (by decide +kernel) (by decide +kernel)
set_option maxRecDepth 20000 in
theorem gX1_mergeReplica_X1_mergeKnowledge : GoodIn wsX1_mergeReplica (wsV RX1 83 RX1 yX1_mergeKnowledge wsX1_mergeKnowledge) := goodIn_app (goodIn_of _ (by decide +kernel)) ggX1_mergeReplica_X1_mergeKnowledge
theorem dX1_mergeReplica_0 : decode cX1_mergeReplica 0 = .ok (.aload_n 0, 1) := by decide +kernel
theorem dX1_mergeReplica_1 : decode cX1_mergeReplica 1 = .ok (.iload_n 1, 1) := by decide +kernel
theorem dX1_mergeReplica_2 : decode cX1_mergeReplica 2 = .ok (.iload_n 2, 1) := by decide +kernel
theorem dX1_mergeReplica_3 : decode cX1_mergeReplica 3 = .ok (.invokevirtual 73, 3) := by decide +kernel
theorem dX1_mergeReplica_6 : decode cX1_mergeReplica 6 = .ok (.istore_n 3, 1) := by decide +kernel
theorem dX1_mergeReplica_7 : decode cX1_mergeReplica 7 = .ok (.aload_n 0, 1) := by decide +kernel
theorem dX1_mergeReplica_8 : decode cX1_mergeReplica 8 = .ok (.iload_n 1, 1) := by decide +kernel
theorem dX1_mergeReplica_9 : decode cX1_mergeReplica 9 = .ok (.iload_n 2, 1) := by decide +kernel
theorem dX1_mergeReplica_10 : decode cX1_mergeReplica 10 = .ok (.invokevirtual 76, 3) := by decide +kernel
theorem dX1_mergeReplica_13 : decode cX1_mergeReplica 13 = .ok (.istore 4, 2) := by decide +kernel
theorem dX1_mergeReplica_15 : decode cX1_mergeReplica 15 = .ok (.iconst 0, 1) := by decide +kernel
theorem dX1_mergeReplica_16 : decode cX1_mergeReplica 16 = .ok (.istore 5, 2) := by decide +kernel
theorem dX1_mergeReplica_18 : decode cX1_mergeReplica 18 = .ok (.iload 5, 2) := by decide +kernel
theorem dX1_mergeReplica_20 : decode cX1_mergeReplica 20 = .ok (.sipush 480, 3) := by decide +kernel
theorem dX1_mergeReplica_23 : decode cX1_mergeReplica 23 = .ok (.if_icmp .ge 17, 3) := by decide +kernel
theorem dX1_mergeReplica_26 : decode cX1_mergeReplica 26 = .ok (.aload_n 0, 1) := by decide +kernel
theorem dX1_mergeReplica_27 : decode cX1_mergeReplica 27 = .ok (.iload_n 1, 1) := by decide +kernel
theorem dX1_mergeReplica_28 : decode cX1_mergeReplica 28 = .ok (.iload_n 2, 1) := by decide +kernel
theorem dX1_mergeReplica_29 : decode cX1_mergeReplica 29 = .ok (.iload 5, 2) := by decide +kernel
theorem dX1_mergeReplica_31 : decode cX1_mergeReplica 31 = .ok (.invokevirtual 79, 3) := by decide +kernel
theorem dX1_mergeReplica_34 : decode cX1_mergeReplica 34 = .ok (.iinc 5 1, 3) := by decide +kernel
theorem dX1_mergeReplica_37 : decode cX1_mergeReplica 37 = .ok (.goto (-19), 3) := by decide +kernel
theorem dX1_mergeReplica_40 : decode cX1_mergeReplica 40 = .ok (.aload_n 0, 1) := by decide +kernel
theorem dX1_mergeReplica_41 : decode cX1_mergeReplica 41 = .ok (.iload_n 1, 1) := by decide +kernel
theorem dX1_mergeReplica_42 : decode cX1_mergeReplica 42 = .ok (.iload_n 2, 1) := by decide +kernel
theorem dX1_mergeReplica_43 : decode cX1_mergeReplica 43 = .ok (.invokevirtual 83, 3) := by decide +kernel
theorem dX1_mergeReplica_46 : decode cX1_mergeReplica 46 = .ok (.aload_n 0, 1) := by decide +kernel
theorem dX1_mergeReplica_47 : decode cX1_mergeReplica 47 = .ok (.getfield 27, 3) := by decide +kernel
theorem dX1_mergeReplica_50 : decode cX1_mergeReplica 50 = .ok (.iconst 0, 1) := by decide +kernel
theorem dX1_mergeReplica_51 : decode cX1_mergeReplica 51 = .ok (.iload_n 1, 1) := by decide +kernel
theorem dX1_mergeReplica_52 : decode cX1_mergeReplica 52 = .ok (.iastore, 1) := by decide +kernel
theorem dX1_mergeReplica_53 : decode cX1_mergeReplica 53 = .ok (.aload_n 0, 1) := by decide +kernel
theorem dX1_mergeReplica_54 : decode cX1_mergeReplica 54 = .ok (.getfield 27, 3) := by decide +kernel
theorem dX1_mergeReplica_57 : decode cX1_mergeReplica 57 = .ok (.iconst 1, 1) := by decide +kernel
theorem dX1_mergeReplica_58 : decode cX1_mergeReplica 58 = .ok (.iload_n 2, 1) := by decide +kernel
theorem dX1_mergeReplica_59 : decode cX1_mergeReplica 59 = .ok (.iastore, 1) := by decide +kernel
theorem dX1_mergeReplica_60 : decode cX1_mergeReplica 60 = .ok (.aload_n 0, 1) := by decide +kernel
theorem dX1_mergeReplica_61 : decode cX1_mergeReplica 61 = .ok (.getfield 27, 3) := by decide +kernel
theorem dX1_mergeReplica_64 : decode cX1_mergeReplica 64 = .ok (.iconst 2, 1) := by decide +kernel
theorem dX1_mergeReplica_65 : decode cX1_mergeReplica 65 = .ok (.iload_n 3, 1) := by decide +kernel
theorem dX1_mergeReplica_66 : decode cX1_mergeReplica 66 = .ok (.iastore, 1) := by decide +kernel
theorem dX1_mergeReplica_67 : decode cX1_mergeReplica 67 = .ok (.aload_n 0, 1) := by decide +kernel
theorem dX1_mergeReplica_68 : decode cX1_mergeReplica 68 = .ok (.getfield 27, 3) := by decide +kernel
theorem dX1_mergeReplica_71 : decode cX1_mergeReplica 71 = .ok (.iconst 3, 1) := by decide +kernel
theorem dX1_mergeReplica_72 : decode cX1_mergeReplica 72 = .ok (.iload 4, 2) := by decide +kernel
theorem dX1_mergeReplica_74 : decode cX1_mergeReplica 74 = .ok (.iastore, 1) := by decide +kernel
theorem dX1_mergeReplica_75 : decode cX1_mergeReplica 75 = .ok (.iload_n 3, 1) := by decide +kernel
theorem dX1_mergeReplica_76 : decode cX1_mergeReplica 76 = .ok (.iload 4, 2) := by decide +kernel
theorem dX1_mergeReplica_78 : decode cX1_mergeReplica 78 = .ok (.iadd, 1) := by decide +kernel
theorem dX1_mergeReplica_79 : decode cX1_mergeReplica 79 = .ok (.ireturn, 1) := by decide +kernel
set_option maxRecDepth 20000 in
theorem ggX1_countAdded_X1_isAdded : GoodIn wsX1_countAdded wsX1_isAdded := goodIn_r _ [5, 6, 7, 8, 9, 4, 10, 11, 12, 13, 14, 15, 16, 17] (by decide +kernel) (by decide +kernel)
set_option maxRecDepth 20000 in
theorem gX1_countAdded_X1_isAdded : GoodIn wsX1_countAdded (wsV RX1 87 RX1 yX1_isAdded wsX1_isAdded) := goodIn_app (goodIn_of _ (by decide +kernel)) ggX1_countAdded_X1_isAdded
theorem dX1_countAdded_0 : decode cX1_countAdded 0 = .ok (.iconst 0, 1) := by decide +kernel
theorem dX1_countAdded_1 : decode cX1_countAdded 1 = .ok (.istore_n 3, 1) := by decide +kernel
theorem dX1_countAdded_2 : decode cX1_countAdded 2 = .ok (.iconst 0, 1) := by decide +kernel
theorem dX1_countAdded_3 : decode cX1_countAdded 3 = .ok (.istore 4, 2) := by decide +kernel
theorem dX1_countAdded_5 : decode cX1_countAdded 5 = .ok (.iload 4, 2) := by decide +kernel
theorem dX1_countAdded_7 : decode cX1_countAdded 7 = .ok (.sipush 480, 3) := by decide +kernel
theorem dX1_countAdded_10 : decode cX1_countAdded 10 = .ok (.if_icmp .ge 23, 3) := by decide +kernel
theorem dX1_countAdded_13 : decode cX1_countAdded 13 = .ok (.aload_n 0, 1) := by decide +kernel
theorem dX1_countAdded_14 : decode cX1_countAdded 14 = .ok (.iload_n 1, 1) := by decide +kernel
theorem dX1_countAdded_15 : decode cX1_countAdded 15 = .ok (.iload_n 2, 1) := by decide +kernel
theorem dX1_countAdded_16 : decode cX1_countAdded 16 = .ok (.iload 4, 2) := by decide +kernel
theorem dX1_countAdded_18 : decode cX1_countAdded 18 = .ok (.invokevirtual 87, 3) := by decide +kernel
theorem dX1_countAdded_21 : decode cX1_countAdded 21 = .ok (.ifCond .eq 6, 3) := by decide +kernel
theorem dX1_countAdded_24 : decode cX1_countAdded 24 = .ok (.iinc 3 1, 3) := by decide +kernel
theorem dX1_countAdded_27 : decode cX1_countAdded 27 = .ok (.iinc 4 1, 3) := by decide +kernel
theorem dX1_countAdded_30 : decode cX1_countAdded 30 = .ok (.goto (-25), 3) := by decide +kernel
theorem dX1_countAdded_33 : decode cX1_countAdded 33 = .ok (.iload_n 3, 1) := by decide +kernel
theorem dX1_countAdded_34 : decode cX1_countAdded 34 = .ok (.ireturn, 1) := by decide +kernel
set_option maxRecDepth 20000 in
theorem ggX1_countRemoved_X1_isRemoved : GoodIn wsX1_countRemoved wsX1_isRemoved := goodIn_r _ [5, 6, 7, 8, 9, 4, 10, 11, 12, 13, 14, 15, 16, 17] (by decide +kernel) (by decide +kernel)
set_option maxRecDepth 20000 in
theorem gX1_countRemoved_X1_isRemoved : GoodIn wsX1_countRemoved (wsV RX1 91 RX1 yX1_isRemoved wsX1_isRemoved) := goodIn_app (goodIn_of _ (by decide +kernel)) ggX1_countRemoved_X1_isRemoved
theorem dX1_countRemoved_0 : decode cX1_countRemoved 0 = .ok (.iconst 0, 1) := by decide +kernel
theorem dX1_countRemoved_1 : decode cX1_countRemoved 1 = .ok (.istore_n 3, 1) := by decide +kernel
theorem dX1_countRemoved_2 : decode cX1_countRemoved 2 = .ok (.iconst 0, 1) := by decide +kernel
theorem dX1_countRemoved_3 : decode cX1_countRemoved 3 = .ok (.istore 4, 2) := by decide +kernel
theorem dX1_countRemoved_5 : decode cX1_countRemoved 5 = .ok (.iload 4, 2) := by decide +kernel
theorem dX1_countRemoved_7 : decode cX1_countRemoved 7 = .ok (.sipush 480, 3) := by decide +kernel
theorem dX1_countRemoved_10 : decode cX1_countRemoved 10 = .ok (.if_icmp .ge 23, 3) := by decide +kernel
theorem dX1_countRemoved_13 : decode cX1_countRemoved 13 = .ok (.aload_n 0, 1) := by decide +kernel
theorem dX1_countRemoved_14 : decode cX1_countRemoved 14 = .ok (.iload_n 1, 1) := by decide +kernel
theorem dX1_countRemoved_15 : decode cX1_countRemoved 15 = .ok (.iload_n 2, 1) := by decide +kernel
theorem dX1_countRemoved_16 : decode cX1_countRemoved 16 = .ok (.iload 4, 2) := by decide +kernel
theorem dX1_countRemoved_18 : decode cX1_countRemoved 18 = .ok (.invokevirtual 91, 3) := by decide +kernel
theorem dX1_countRemoved_21 : decode cX1_countRemoved 21 = .ok (.ifCond .eq 6, 3) := by decide +kernel
theorem dX1_countRemoved_24 : decode cX1_countRemoved 24 = .ok (.iinc 3 1, 3) := by decide +kernel
theorem dX1_countRemoved_27 : decode cX1_countRemoved 27 = .ok (.iinc 4 1, 3) := by decide +kernel
theorem dX1_countRemoved_30 : decode cX1_countRemoved 30 = .ok (.goto (-25), 3) := by decide +kernel
theorem dX1_countRemoved_33 : decode cX1_countRemoved 33 = .ok (.iload_n 3, 1) := by decide +kernel
theorem dX1_countRemoved_34 : decode cX1_countRemoved 34 = .ok (.ireturn, 1) := by decide +kernel
set_option maxRecDepth 20000 in
theorem ggX1_isAdded_X1_seenNumber : GoodIn wsX1_isAdded wsX1_seenNumber := goodIn_r _ [6, 7, 8, 9, 10, 11, 12, 13] (by decide +kernel) (by decide +kernel)
set_option maxRecDepth 20000 in
theorem gX1_isAdded_X1_seenNumber : GoodIn wsX1_isAdded (wsV RX1 47 RX1 yX1_seenNumber wsX1_seenNumber) := goodIn_app (goodIn_of _ (by decide +kernel)) ggX1_isAdded_X1_seenNumber
theorem dX1_isAdded_0 : decode cX1_isAdded 0 = .ok (.aload_n 0, 1) := by decide +kernel
theorem dX1_isAdded_1 : decode cX1_isAdded 1 = .ok (.getfield 11, 3) := by decide +kernel
theorem dX1_isAdded_4 : decode cX1_isAdded 4 = .ok (.iload_n 1, 1) := by decide +kernel
theorem dX1_isAdded_5 : decode cX1_isAdded 5 = .ok (.sipush 480, 3) := by decide +kernel
theorem dX1_isAdded_8 : decode cX1_isAdded 8 = .ok (.imul, 1) := by decide +kernel
theorem dX1_isAdded_9 : decode cX1_isAdded 9 = .ok (.iload_n 3, 1) := by decide +kernel
theorem dX1_isAdded_10 : decode cX1_isAdded 10 = .ok (.iadd, 1) := by decide +kernel
theorem dX1_isAdded_11 : decode cX1_isAdded 11 = .ok (.iaload, 1) := by decide +kernel
theorem dX1_isAdded_12 : decode cX1_isAdded 12 = .ok (.istore 4, 2) := by decide +kernel
theorem dX1_isAdded_14 : decode cX1_isAdded 14 = .ok (.iload 4, 2) := by decide +kernel
theorem dX1_isAdded_16 : decode cX1_isAdded 16 = .ok (.ifCond .eq 37, 3) := by decide +kernel
theorem dX1_isAdded_19 : decode cX1_isAdded 19 = .ok (.iload 4, 2) := by decide +kernel
theorem dX1_isAdded_21 : decode cX1_isAdded 21 = .ok (.aload_n 0, 1) := by decide +kernel
theorem dX1_isAdded_22 : decode cX1_isAdded 22 = .ok (.getfield 11, 3) := by decide +kernel
theorem dX1_isAdded_25 : decode cX1_isAdded 25 = .ok (.iload_n 2, 1) := by decide +kernel
theorem dX1_isAdded_26 : decode cX1_isAdded 26 = .ok (.sipush 480, 3) := by decide +kernel
theorem dX1_isAdded_29 : decode cX1_isAdded 29 = .ok (.imul, 1) := by decide +kernel
theorem dX1_isAdded_30 : decode cX1_isAdded 30 = .ok (.iload_n 3, 1) := by decide +kernel
theorem dX1_isAdded_31 : decode cX1_isAdded 31 = .ok (.iadd, 1) := by decide +kernel
theorem dX1_isAdded_32 : decode cX1_isAdded 32 = .ok (.iaload, 1) := by decide +kernel
theorem dX1_isAdded_33 : decode cX1_isAdded 33 = .ok (.if_icmp .eq 20, 3) := by decide +kernel
theorem dX1_isAdded_36 : decode cX1_isAdded 36 = .ok (.iload 4, 2) := by decide +kernel
theorem dX1_isAdded_38 : decode cX1_isAdded 38 = .ok (.aload_n 0, 1) := by decide +kernel
theorem dX1_isAdded_39 : decode cX1_isAdded 39 = .ok (.iload_n 2, 1) := by decide +kernel
theorem dX1_isAdded_40 : decode cX1_isAdded 40 = .ok (.iload_n 3, 1) := by decide +kernel
theorem dX1_isAdded_41 : decode cX1_isAdded 41 = .ok (.iconst 4, 1) := by decide +kernel
theorem dX1_isAdded_42 : decode cX1_isAdded 42 = .ok (.irem, 1) := by decide +kernel
theorem dX1_isAdded_43 : decode cX1_isAdded 43 = .ok (.invokevirtual 47, 3) := by decide +kernel
theorem dX1_isAdded_46 : decode cX1_isAdded 46 = .ok (.if_icmp .le 7, 3) := by decide +kernel
theorem dX1_isAdded_49 : decode cX1_isAdded 49 = .ok (.iconst 1, 1) := by decide +kernel
theorem dX1_isAdded_50 : decode cX1_isAdded 50 = .ok (.goto 4, 3) := by decide +kernel
theorem dX1_isAdded_53 : decode cX1_isAdded 53 = .ok (.iconst 0, 1) := by decide +kernel
theorem dX1_isAdded_54 : decode cX1_isAdded 54 = .ok (.ireturn, 1) := by decide +kernel
set_option maxRecDepth 20000 in
theorem ggX1_isRemoved_X1_seenNumber : GoodIn wsX1_isRemoved wsX1_seenNumber := goodIn_r _ [6, 7, 8, 9, 10, 11, 12, 13] (by decide +kernel) (by decide +kernel)
set_option maxRecDepth 20000 in
theorem gX1_isRemoved_X1_seenNumber : GoodIn wsX1_isRemoved (wsV RX1 47 RX1 yX1_seenNumber wsX1_seenNumber) := goodIn_app (goodIn_of _ (by decide +kernel)) ggX1_isRemoved_X1_seenNumber
theorem dX1_isRemoved_0 : decode cX1_isRemoved 0 = .ok (.aload_n 0, 1) := by decide +kernel
theorem dX1_isRemoved_1 : decode cX1_isRemoved 1 = .ok (.getfield 11, 3) := by decide +kernel
theorem dX1_isRemoved_4 : decode cX1_isRemoved 4 = .ok (.iload_n 2, 1) := by decide +kernel
theorem dX1_isRemoved_5 : decode cX1_isRemoved 5 = .ok (.sipush 480, 3) := by decide +kernel
theorem dX1_isRemoved_8 : decode cX1_isRemoved 8 = .ok (.imul, 1) := by decide +kernel
theorem dX1_isRemoved_9 : decode cX1_isRemoved 9 = .ok (.iload_n 3, 1) := by decide +kernel
theorem dX1_isRemoved_10 : decode cX1_isRemoved 10 = .ok (.iadd, 1) := by decide +kernel
theorem dX1_isRemoved_11 : decode cX1_isRemoved 11 = .ok (.iaload, 1) := by decide +kernel
theorem dX1_isRemoved_12 : decode cX1_isRemoved 12 = .ok (.istore 4, 2) := by decide +kernel
theorem dX1_isRemoved_14 : decode cX1_isRemoved 14 = .ok (.iload 4, 2) := by decide +kernel
theorem dX1_isRemoved_16 : decode cX1_isRemoved 16 = .ok (.ifCond .eq 37, 3) := by decide +kernel
theorem dX1_isRemoved_19 : decode cX1_isRemoved 19 = .ok (.iload 4, 2) := by decide +kernel
theorem dX1_isRemoved_21 : decode cX1_isRemoved 21 = .ok (.aload_n 0, 1) := by decide +kernel
theorem dX1_isRemoved_22 : decode cX1_isRemoved 22 = .ok (.getfield 11, 3) := by decide +kernel
theorem dX1_isRemoved_25 : decode cX1_isRemoved 25 = .ok (.iload_n 1, 1) := by decide +kernel
theorem dX1_isRemoved_26 : decode cX1_isRemoved 26 = .ok (.sipush 480, 3) := by decide +kernel
theorem dX1_isRemoved_29 : decode cX1_isRemoved 29 = .ok (.imul, 1) := by decide +kernel
theorem dX1_isRemoved_30 : decode cX1_isRemoved 30 = .ok (.iload_n 3, 1) := by decide +kernel
theorem dX1_isRemoved_31 : decode cX1_isRemoved 31 = .ok (.iadd, 1) := by decide +kernel
theorem dX1_isRemoved_32 : decode cX1_isRemoved 32 = .ok (.iaload, 1) := by decide +kernel
theorem dX1_isRemoved_33 : decode cX1_isRemoved 33 = .ok (.if_icmp .eq 20, 3) := by decide +kernel
theorem dX1_isRemoved_36 : decode cX1_isRemoved 36 = .ok (.iload 4, 2) := by decide +kernel
theorem dX1_isRemoved_38 : decode cX1_isRemoved 38 = .ok (.aload_n 0, 1) := by decide +kernel
theorem dX1_isRemoved_39 : decode cX1_isRemoved 39 = .ok (.iload_n 1, 1) := by decide +kernel
theorem dX1_isRemoved_40 : decode cX1_isRemoved 40 = .ok (.iload_n 3, 1) := by decide +kernel
theorem dX1_isRemoved_41 : decode cX1_isRemoved 41 = .ok (.iconst 4, 1) := by decide +kernel
theorem dX1_isRemoved_42 : decode cX1_isRemoved 42 = .ok (.irem, 1) := by decide +kernel
theorem dX1_isRemoved_43 : decode cX1_isRemoved 43 = .ok (.invokevirtual 47, 3) := by decide +kernel
theorem dX1_isRemoved_46 : decode cX1_isRemoved 46 = .ok (.if_icmp .gt 7, 3) := by decide +kernel
theorem dX1_isRemoved_49 : decode cX1_isRemoved 49 = .ok (.iconst 1, 1) := by decide +kernel
theorem dX1_isRemoved_50 : decode cX1_isRemoved 50 = .ok (.goto 4, 3) := by decide +kernel
theorem dX1_isRemoved_53 : decode cX1_isRemoved 53 = .ok (.iconst 0, 1) := by decide +kernel
theorem dX1_isRemoved_54 : decode cX1_isRemoved 54 = .ok (.ireturn, 1) := by decide +kernel
set_option maxRecDepth 20000 in
theorem ggX1_mergeSlot_X1_isAdded : GoodIn wsX1_mergeSlot wsX1_isAdded := goodIn_r _ [8, 1, 9, 10, 11, 7, 12, 13, 18, 19, 20, 21, 22, 23] (by decide +kernel) (by decide +kernel)
set_option maxRecDepth 20000 in
theorem gX1_mergeSlot_X1_isAdded : GoodIn wsX1_mergeSlot (wsV RX1 87 RX1 yX1_isAdded wsX1_isAdded) := goodIn_app (goodIn_of _ (by decide +kernel)) ggX1_mergeSlot_X1_isAdded
set_option maxRecDepth 20000 in
theorem ggX1_mergeSlot_X1_isRemoved : GoodIn wsX1_mergeSlot wsX1_isRemoved := goodIn_r _ [17, 1, 9, 10, 11, 7, 12, 13, 18, 19, 20, 21, 22, 23] (by decide +kernel) (by decide +kernel)
set_option maxRecDepth 20000 in
theorem gX1_mergeSlot_X1_isRemoved : GoodIn wsX1_mergeSlot (wsV RX1 91 RX1 yX1_isRemoved wsX1_isRemoved) := goodIn_app (goodIn_of _ (by decide +kernel)) ggX1_mergeSlot_X1_isRemoved
theorem dX1_mergeSlot_0 : decode cX1_mergeSlot 0 = .ok (.iload_n 1, 1) := by decide +kernel
theorem dX1_mergeSlot_1 : decode cX1_mergeSlot 1 = .ok (.sipush 480, 3) := by decide +kernel
theorem dX1_mergeSlot_4 : decode cX1_mergeSlot 4 = .ok (.imul, 1) := by decide +kernel
theorem dX1_mergeSlot_5 : decode cX1_mergeSlot 5 = .ok (.iload_n 3, 1) := by decide +kernel
theorem dX1_mergeSlot_6 : decode cX1_mergeSlot 6 = .ok (.iadd, 1) := by decide +kernel
theorem dX1_mergeSlot_7 : decode cX1_mergeSlot 7 = .ok (.istore 4, 2) := by decide +kernel
theorem dX1_mergeSlot_9 : decode cX1_mergeSlot 9 = .ok (.iload_n 2, 1) := by decide +kernel
theorem dX1_mergeSlot_10 : decode cX1_mergeSlot 10 = .ok (.sipush 480, 3) := by decide +kernel
theorem dX1_mergeSlot_13 : decode cX1_mergeSlot 13 = .ok (.imul, 1) := by decide +kernel
theorem dX1_mergeSlot_14 : decode cX1_mergeSlot 14 = .ok (.iload_n 3, 1) := by decide +kernel
theorem dX1_mergeSlot_15 : decode cX1_mergeSlot 15 = .ok (.iadd, 1) := by decide +kernel
theorem dX1_mergeSlot_16 : decode cX1_mergeSlot 16 = .ok (.istore 5, 2) := by decide +kernel
theorem dX1_mergeSlot_18 : decode cX1_mergeSlot 18 = .ok (.aload_n 0, 1) := by decide +kernel
theorem dX1_mergeSlot_19 : decode cX1_mergeSlot 19 = .ok (.iload_n 1, 1) := by decide +kernel
theorem dX1_mergeSlot_20 : decode cX1_mergeSlot 20 = .ok (.iload_n 2, 1) := by decide +kernel
theorem dX1_mergeSlot_21 : decode cX1_mergeSlot 21 = .ok (.iload_n 3, 1) := by decide +kernel
theorem dX1_mergeSlot_22 : decode cX1_mergeSlot 22 = .ok (.invokevirtual 87, 3) := by decide +kernel
theorem dX1_mergeSlot_25 : decode cX1_mergeSlot 25 = .ok (.ifCond .eq 48, 3) := by decide +kernel
theorem dX1_mergeSlot_28 : decode cX1_mergeSlot 28 = .ok (.aload_n 0, 1) := by decide +kernel
theorem dX1_mergeSlot_29 : decode cX1_mergeSlot 29 = .ok (.getfield 11, 3) := by decide +kernel
theorem dX1_mergeSlot_32 : decode cX1_mergeSlot 32 = .ok (.iload 5, 2) := by decide +kernel
theorem dX1_mergeSlot_34 : decode cX1_mergeSlot 34 = .ok (.aload_n 0, 1) := by decide +kernel
theorem dX1_mergeSlot_35 : decode cX1_mergeSlot 35 = .ok (.getfield 11, 3) := by decide +kernel
theorem dX1_mergeSlot_38 : decode cX1_mergeSlot 38 = .ok (.iload 4, 2) := by decide +kernel
theorem dX1_mergeSlot_40 : decode cX1_mergeSlot 40 = .ok (.iaload, 1) := by decide +kernel
theorem dX1_mergeSlot_41 : decode cX1_mergeSlot 41 = .ok (.iastore, 1) := by decide +kernel
theorem dX1_mergeSlot_42 : decode cX1_mergeSlot 42 = .ok (.aload_n 0, 1) := by decide +kernel
theorem dX1_mergeSlot_43 : decode cX1_mergeSlot 43 = .ok (.getfield 15, 3) := by decide +kernel
theorem dX1_mergeSlot_46 : decode cX1_mergeSlot 46 = .ok (.iload 5, 2) := by decide +kernel
theorem dX1_mergeSlot_48 : decode cX1_mergeSlot 48 = .ok (.aload_n 0, 1) := by decide +kernel
theorem dX1_mergeSlot_49 : decode cX1_mergeSlot 49 = .ok (.getfield 15, 3) := by decide +kernel
theorem dX1_mergeSlot_52 : decode cX1_mergeSlot 52 = .ok (.iload 4, 2) := by decide +kernel
theorem dX1_mergeSlot_54 : decode cX1_mergeSlot 54 = .ok (.iaload, 1) := by decide +kernel
theorem dX1_mergeSlot_55 : decode cX1_mergeSlot 55 = .ok (.iastore, 1) := by decide +kernel
theorem dX1_mergeSlot_56 : decode cX1_mergeSlot 56 = .ok (.aload_n 0, 1) := by decide +kernel
theorem dX1_mergeSlot_57 : decode cX1_mergeSlot 57 = .ok (.getfield 18, 3) := by decide +kernel
theorem dX1_mergeSlot_60 : decode cX1_mergeSlot 60 = .ok (.iload 5, 2) := by decide +kernel
theorem dX1_mergeSlot_62 : decode cX1_mergeSlot 62 = .ok (.aload_n 0, 1) := by decide +kernel
theorem dX1_mergeSlot_63 : decode cX1_mergeSlot 63 = .ok (.getfield 18, 3) := by decide +kernel
theorem dX1_mergeSlot_66 : decode cX1_mergeSlot 66 = .ok (.iload 4, 2) := by decide +kernel
theorem dX1_mergeSlot_68 : decode cX1_mergeSlot 68 = .ok (.iaload, 1) := by decide +kernel
theorem dX1_mergeSlot_69 : decode cX1_mergeSlot 69 = .ok (.iastore, 1) := by decide +kernel
theorem dX1_mergeSlot_70 : decode cX1_mergeSlot 70 = .ok (.goto 21, 3) := by decide +kernel
theorem dX1_mergeSlot_73 : decode cX1_mergeSlot 73 = .ok (.aload_n 0, 1) := by decide +kernel
theorem dX1_mergeSlot_74 : decode cX1_mergeSlot 74 = .ok (.iload_n 1, 1) := by decide +kernel
theorem dX1_mergeSlot_75 : decode cX1_mergeSlot 75 = .ok (.iload_n 2, 1) := by decide +kernel
theorem dX1_mergeSlot_76 : decode cX1_mergeSlot 76 = .ok (.iload_n 3, 1) := by decide +kernel
theorem dX1_mergeSlot_77 : decode cX1_mergeSlot 77 = .ok (.invokevirtual 91, 3) := by decide +kernel
theorem dX1_mergeSlot_80 : decode cX1_mergeSlot 80 = .ok (.ifCond .eq 11, 3) := by decide +kernel
theorem dX1_mergeSlot_83 : decode cX1_mergeSlot 83 = .ok (.aload_n 0, 1) := by decide +kernel
theorem dX1_mergeSlot_84 : decode cX1_mergeSlot 84 = .ok (.getfield 11, 3) := by decide +kernel
theorem dX1_mergeSlot_87 : decode cX1_mergeSlot 87 = .ok (.iload 5, 2) := by decide +kernel
theorem dX1_mergeSlot_89 : decode cX1_mergeSlot 89 = .ok (.iconst 0, 1) := by decide +kernel
theorem dX1_mergeSlot_90 : decode cX1_mergeSlot 90 = .ok (.iastore, 1) := by decide +kernel
theorem dX1_mergeSlot_91 : decode cX1_mergeSlot 91 = .ok (.return_, 1) := by decide +kernel
set_option maxRecDepth 20000 in
theorem ggX1_mergeKnowledge_X1_seenNumber : GoodIn wsX1_mergeKnowledge wsX1_seenNumber := goodIn_r _ [11, 1, 12, 13, 14, 15, 16, 17] (by decide +kernel) (by decide +kernel)
set_option maxRecDepth 20000 in
theorem gX1_mergeKnowledge_X1_seenNumber : GoodIn wsX1_mergeKnowledge (wsV RX1 47 RX1 yX1_seenNumber wsX1_seenNumber) := goodIn_app (goodIn_of _ (by decide +kernel)) ggX1_mergeKnowledge_X1_seenNumber
theorem dX1_mergeKnowledge_0 : decode cX1_mergeKnowledge 0 = .ok (.iconst 0, 1) := by decide +kernel
theorem dX1_mergeKnowledge_1 : decode cX1_mergeKnowledge 1 = .ok (.istore_n 3, 1) := by decide +kernel
theorem dX1_mergeKnowledge_2 : decode cX1_mergeKnowledge 2 = .ok (.iload_n 3, 1) := by decide +kernel
theorem dX1_mergeKnowledge_3 : decode cX1_mergeKnowledge 3 = .ok (.iconst 4, 1) := by decide +kernel
theorem dX1_mergeKnowledge_4 : decode cX1_mergeKnowledge 4 = .ok (.if_icmp .ge 34, 3) := by decide +kernel
theorem dX1_mergeKnowledge_7 : decode cX1_mergeKnowledge 7 = .ok (.aload_n 0, 1) := by decide +kernel
theorem dX1_mergeKnowledge_8 : decode cX1_mergeKnowledge 8 = .ok (.getfield 21, 3) := by decide +kernel
theorem dX1_mergeKnowledge_11 : decode cX1_mergeKnowledge 11 = .ok (.iload_n 2, 1) := by decide +kernel
theorem dX1_mergeKnowledge_12 : decode cX1_mergeKnowledge 12 = .ok (.iconst 4, 1) := by decide +kernel
theorem dX1_mergeKnowledge_13 : decode cX1_mergeKnowledge 13 = .ok (.imul, 1) := by decide +kernel
theorem dX1_mergeKnowledge_14 : decode cX1_mergeKnowledge 14 = .ok (.iload_n 3, 1) := by decide +kernel
theorem dX1_mergeKnowledge_15 : decode cX1_mergeKnowledge 15 = .ok (.iadd, 1) := by decide +kernel
theorem dX1_mergeKnowledge_16 : decode cX1_mergeKnowledge 16 = .ok (.aload_n 0, 1) := by decide +kernel
theorem dX1_mergeKnowledge_17 : decode cX1_mergeKnowledge 17 = .ok (.iload_n 1, 1) := by decide +kernel
theorem dX1_mergeKnowledge_18 : decode cX1_mergeKnowledge 18 = .ok (.iload_n 3, 1) := by decide +kernel
theorem dX1_mergeKnowledge_19 : decode cX1_mergeKnowledge 19 = .ok (.invokevirtual 47, 3) := by decide +kernel
theorem dX1_mergeKnowledge_22 : decode cX1_mergeKnowledge 22 = .ok (.aload_n 0, 1) := by decide +kernel
theorem dX1_mergeKnowledge_23 : decode cX1_mergeKnowledge 23 = .ok (.iload_n 2, 1) := by decide +kernel
theorem dX1_mergeKnowledge_24 : decode cX1_mergeKnowledge 24 = .ok (.iload_n 3, 1) := by decide +kernel
theorem dX1_mergeKnowledge_25 : decode cX1_mergeKnowledge 25 = .ok (.invokevirtual 47, 3) := by decide +kernel
theorem dX1_mergeKnowledge_28 : decode cX1_mergeKnowledge 28 = .ok (.invokestatic 57, 3) := by decide +kernel
theorem dX1_mergeKnowledge_31 : decode cX1_mergeKnowledge 31 = .ok (.iastore, 1) := by decide +kernel
theorem dX1_mergeKnowledge_32 : decode cX1_mergeKnowledge 32 = .ok (.iinc 3 1, 3) := by decide +kernel
theorem dX1_mergeKnowledge_35 : decode cX1_mergeKnowledge 35 = .ok (.goto (-33), 3) := by decide +kernel
theorem dX1_mergeKnowledge_38 : decode cX1_mergeKnowledge 38 = .ok (.aload_n 0, 1) := by decide +kernel
theorem dX1_mergeKnowledge_39 : decode cX1_mergeKnowledge 39 = .ok (.getfield 24, 3) := by decide +kernel
theorem dX1_mergeKnowledge_42 : decode cX1_mergeKnowledge 42 = .ok (.iload_n 2, 1) := by decide +kernel
theorem dX1_mergeKnowledge_43 : decode cX1_mergeKnowledge 43 = .ok (.aload_n 0, 1) := by decide +kernel
theorem dX1_mergeKnowledge_44 : decode cX1_mergeKnowledge 44 = .ok (.getfield 24, 3) := by decide +kernel
theorem dX1_mergeKnowledge_47 : decode cX1_mergeKnowledge 47 = .ok (.iload_n 1, 1) := by decide +kernel
theorem dX1_mergeKnowledge_48 : decode cX1_mergeKnowledge 48 = .ok (.iaload, 1) := by decide +kernel
theorem dX1_mergeKnowledge_49 : decode cX1_mergeKnowledge 49 = .ok (.aload_n 0, 1) := by decide +kernel
theorem dX1_mergeKnowledge_50 : decode cX1_mergeKnowledge 50 = .ok (.getfield 24, 3) := by decide +kernel
theorem dX1_mergeKnowledge_53 : decode cX1_mergeKnowledge 53 = .ok (.iload_n 2, 1) := by decide +kernel
theorem dX1_mergeKnowledge_54 : decode cX1_mergeKnowledge 54 = .ok (.iaload, 1) := by decide +kernel
theorem dX1_mergeKnowledge_55 : decode cX1_mergeKnowledge 55 = .ok (.invokestatic 57, 3) := by decide +kernel
theorem dX1_mergeKnowledge_58 : decode cX1_mergeKnowledge 58 = .ok (.iastore, 1) := by decide +kernel
theorem dX1_mergeKnowledge_59 : decode cX1_mergeKnowledge 59 = .ok (.return_, 1) := by decide +kernel
set_option maxRecDepth 20000 in
theorem ggX1_latestValue_X1_cellStart : GoodIn wsX1_latestValue wsX1_cellStart := goodIn_r _ [7, 8, 9, 6, 10] (by decide +kernel) (by decide +kernel)
set_option maxRecDepth 20000 in
theorem gX1_latestValue_X1_cellStart : GoodIn wsX1_latestValue (va_wsS RX1 94 yX1_cellStart wsX1_cellStart) := goodIn_app (goodIn_of _ (by decide +kernel)) ggX1_latestValue_X1_cellStart
set_option maxRecDepth 20000 in
theorem ggX1_latestValue_X1_cellEnd : GoodIn wsX1_latestValue wsX1_cellEnd := goodIn_r _ [13, 8, 9, 6, 10] (by decide +kernel) (by decide +kernel)
set_option maxRecDepth 20000 in
theorem gX1_latestValue_X1_cellEnd : GoodIn wsX1_latestValue (va_wsS RX1 97 yX1_cellEnd wsX1_cellEnd) := goodIn_app (goodIn_of _ (by decide +kernel)) ggX1_latestValue_X1_cellEnd
theorem dX1_latestValue_0 : decode cX1_latestValue 0 = .ok (.iload_n 1, 1) := by decide +kernel
theorem dX1_latestValue_1 : decode cX1_latestValue 1 = .ok (.iload_n 2, 1) := by decide +kernel
theorem dX1_latestValue_2 : decode cX1_latestValue 2 = .ok (.iconst 0, 1) := by decide +kernel
theorem dX1_latestValue_3 : decode cX1_latestValue 3 = .ok (.invokestatic 94, 3) := by decide +kernel
theorem dX1_latestValue_6 : decode cX1_latestValue 6 = .ok (.istore_n 3, 1) := by decide +kernel
theorem dX1_latestValue_7 : decode cX1_latestValue 7 = .ok (.iload_n 1, 1) := by decide +kernel
theorem dX1_latestValue_8 : decode cX1_latestValue 8 = .ok (.iload_n 2, 1) := by decide +kernel
