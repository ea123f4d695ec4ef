theorem dX2_init_0 : decode cX2_init 0 = .ok (.aload_n 0, 1) := by decide +kernel
theorem dX2_init_1 : decode cX2_init 1 = .ok (.invokespecial 3, 3) := by decide +kernel
theorem dX2_init_4 : decode cX2_init 4 = .ok (.aload_n 0, 1) := by decide +kernel
theorem dX2_init_5 : decode cX2_init 5 = .ok (.bipush 80, 2) := by decide +kernel
theorem dX2_init_7 : decode cX2_init 7 = .ok (.newarray .char, 2) := by decide +kernel
theorem dX2_init_9 : decode cX2_init 9 = .ok (.putfield 9, 3) := by decide +kernel
theorem dX2_init_12 : decode cX2_init 12 = .ok (.aload_n 0, 1) := by decide +kernel
theorem dX2_init_13 : decode cX2_init 13 = .ok (.iconst 0, 1) := by decide +kernel
theorem dX2_init_14 : decode cX2_init 14 = .ok (.putfield 15, 3) := by decide +kernel
theorem dX2_init_17 : decode cX2_init 17 = .ok (.aload_n 0, 1) := by decide +kernel
theorem dX2_init_18 : decode cX2_init 18 = .ok (.iconst 0, 1) := by decide +kernel
theorem dX2_init_19 : decode cX2_init 19 = .ok (.putfield 19, 3) := by decide +kernel
theorem dX2_init_22 : decode cX2_init 22 = .ok (.aload_n 0, 1) := by decide +kernel
theorem dX2_init_23 : decode cX2_init 23 = .ok (.iconst 0, 1) := by decide +kernel
theorem dX2_init_24 : decode cX2_init 24 = .ok (.putfield 22, 3) := by decide +kernel
theorem dX2_init_27 : decode cX2_init 27 = .ok (.aload_n 0, 1) := by decide +kernel
theorem dX2_init_28 : decode cX2_init 28 = .ok (.iconst 0, 1) := by decide +kernel
theorem dX2_init_29 : decode cX2_init 29 = .ok (.putfield 25, 3) := by decide +kernel
theorem dX2_init_32 : decode cX2_init 32 = .ok (.aload_n 0, 1) := by decide +kernel
theorem dX2_init_33 : decode cX2_init 33 = .ok (.iconst 0, 1) := by decide +kernel
theorem dX2_init_34 : decode cX2_init 34 = .ok (.putfield 28, 3) := by decide +kernel
theorem dX2_init_37 : decode cX2_init 37 = .ok (.aload_n 0, 1) := by decide +kernel
theorem dX2_init_38 : decode cX2_init 38 = .ok (.iconst 0, 1) := by decide +kernel
theorem dX2_init_39 : decode cX2_init 39 = .ok (.putfield 31, 3) := by decide +kernel
theorem dX2_init_42 : decode cX2_init 42 = .ok (.return_, 1) := by decide +kernel
theorem dX2_append_0 : decode cX2_append 0 = .ok (.aload_n 0, 1) := by decide +kernel
theorem dX2_append_1 : decode cX2_append 1 = .ok (.getfield 15, 3) := by decide +kernel
theorem dX2_append_4 : decode cX2_append 4 = .ok (.bipush 80, 2) := by decide +kernel
theorem dX2_append_6 : decode cX2_append 6 = .ok (.if_icmp .ge 23, 3) := by decide +kernel
theorem dX2_append_9 : decode cX2_append 9 = .ok (.aload_n 0, 1) := by decide +kernel
theorem dX2_append_10 : decode cX2_append 10 = .ok (.getfield 9, 3) := by decide +kernel
theorem dX2_append_13 : decode cX2_append 13 = .ok (.aload_n 0, 1) := by decide +kernel
theorem dX2_append_14 : decode cX2_append 14 = .ok (.getfield 15, 3) := by decide +kernel
theorem dX2_append_17 : decode cX2_append 17 = .ok (.iload_n 1, 1) := by decide +kernel
theorem dX2_append_18 : decode cX2_append 18 = .ok (.castore, 1) := by decide +kernel
theorem dX2_append_19 : decode cX2_append 19 = .ok (.aload_n 0, 1) := by decide +kernel
theorem dX2_append_20 : decode cX2_append 20 = .ok (.dup, 1) := by decide +kernel
theorem dX2_append_21 : decode cX2_append 21 = .ok (.getfield 15, 3) := by decide +kernel
theorem dX2_append_24 : decode cX2_append 24 = .ok (.iconst 1, 1) := by decide +kernel
theorem dX2_append_25 : decode cX2_append 25 = .ok (.iadd, 1) := by decide +kernel
theorem dX2_append_26 : decode cX2_append 26 = .ok (.putfield 15, 3) := by decide +kernel
theorem dX2_append_29 : decode cX2_append 29 = .ok (.return_, 1) := by decide +kernel
set_option maxRecDepth 20000 in
theorem ggX2_findError_X2_rewind : GoodIn wsX2_findError wsX2_rewind := goodIn_r _ [7, 1, 57, 58, 59, 60, 61, 62, 63] (by decide +kernel) (by decide +kernel)
set_option maxRecDepth 20000 in
theorem gX2_findError_X2_rewind : GoodIn wsX2_findError (wsV RX2 34 RX2 yX2_rewind wsX2_rewind) := goodIn_app (goodIn_of _ (by decide +kernel)) ggX2_findError_X2_rewind
set_option maxRecDepth 20000 in
theorem ggX2_findError_X2_readNext : GoodIn wsX2_findError wsX2_readNext := goodIn_r _ [11, 1, 12, 13, 14, 6, 15, 16, 17, 18, 19, 2, 20, 21, 22, 23, 24, 25, 26, 27, 28, 29, 30, 31, 32, 33, 34, 35, 36, 37, 38, 39, 40, 41, 42, 43, 44, 45, 46, 47, 48, 49, 50, 51, 52, 53, 54, 55, 56, 57, 58, 59, 60, 61, 62, 63] (by decide +kernel) (by decide +kernel)
set_option maxRecDepth 20000 in
theorem gX2_findError_X2_readNext : GoodIn wsX2_findError (wsV RX2 37 RX2 yX2_readNext wsX2_readNext) := goodIn_app (goodIn_of _ (by decide +kernel)) ggX2_findError_X2_readNext
theorem dX2_findError_0 : decode cX2_findError 0 = .ok (.aload_n 0, 1) := by decide +kernel
theorem dX2_findError_1 : decode cX2_findError 1 = .ok (.invokevirtual 34, 3) := by decide +kernel
theorem dX2_findError_4 : decode cX2_findError 4 = .ok (.iconst 0, 1) := by decide +kernel
theorem dX2_findError_5 : decode cX2_findError 5 = .ok (.istore_n 1, 1) := by decide +kernel
theorem dX2_findError_6 : decode cX2_findError 6 = .ok (.iload_n 1, 1) := by decide +kernel
theorem dX2_findError_7 : decode cX2_findError 7 = .ok (.bipush 80, 2) := by decide +kernel
theorem dX2_findError_9 : decode cX2_findError 9 = .ok (.if_icmp .ge 34, 3) := by decide +kernel
theorem dX2_findError_12 : decode cX2_findError 12 = .ok (.aload_n 0, 1) := by decide +kernel
theorem dX2_findError_13 : decode cX2_findError 13 = .ok (.invokevirtual 37, 3) := by decide +kernel
theorem dX2_findError_16 : decode cX2_findError 16 = .ok (.ifCond .ne 8, 3) := by decide +kernel
theorem dX2_findError_19 : decode cX2_findError 19 = .ok (.aload_n 0, 1) := by decide +kernel
theorem dX2_findError_20 : decode cX2_findError 20 = .ok (.getfield 19, 3) := by decide +kernel
theorem dX2_findError_23 : decode cX2_findError 23 = .ok (.ireturn, 1) := by decide +kernel
theorem dX2_findError_24 : decode cX2_findError 24 = .ok (.aload_n 0, 1) := by decide +kernel
theorem dX2_findError_25 : decode cX2_findError 25 = .ok (.getfield 19, 3) := by decide +kernel
theorem dX2_findError_28 : decode cX2_findError 28 = .ok (.aload_n 0, 1) := by decide +kernel
theorem dX2_findError_29 : decode cX2_findError 29 = .ok (.getfield 15, 3) := by decide +kernel
theorem dX2_findError_32 : decode cX2_findError 32 = .ok (.if_icmp .ne 5, 3) := by decide +kernel
theorem dX2_findError_35 : decode cX2_findError 35 = .ok (.iconst (-1), 1) := by decide +kernel
theorem dX2_findError_36 : decode cX2_findError 36 = .ok (.ireturn, 1) := by decide +kernel
theorem dX2_findError_37 : decode cX2_findError 37 = .ok (.iinc 1 1, 3) := by decide +kernel
theorem dX2_findError_40 : decode cX2_findError 40 = .ok (.goto (-34), 3) := by decide +kernel
theorem dX2_findError_43 : decode cX2_findError 43 = .ok (.aload_n 0, 1) := by decide +kernel
theorem dX2_findError_44 : decode cX2_findError 44 = .ok (.getfield 19, 3) := by decide +kernel
theorem dX2_findError_47 : decode cX2_findError 47 = .ok (.ireturn, 1) := by decide +kernel
theorem dX2_rewind_0 : decode cX2_rewind 0 = .ok (.aload_n 0, 1) := by decide +kernel
theorem dX2_rewind_1 : decode cX2_rewind 1 = .ok (.iconst 0, 1) := by decide +kernel
theorem dX2_rewind_2 : decode cX2_rewind 2 = .ok (.putfield 19, 3) := by decide +kernel
theorem dX2_rewind_5 : decode cX2_rewind 5 = .ok (.return_, 1) := by decide +kernel
set_option maxRecDepth 20000 in
theorem ggX2_readNext_X2_readCharacter : GoodIn wsX2_readNext wsX2_readCharacter := goodIn_r _ [6, 1, 7, 8, 9, 5, 10, 11, 12, 49, 50, 51, 52, 53, 54, 55] (by decide +kernel) (by decide +kernel)
set_option maxRecDepth 20000 in
theorem gX2_readNext_X2_readCharacter : GoodIn wsX2_readNext (wsV RX2 41 RX2 yX2_readCharacter wsX2_readCharacter) := goodIn_app (goodIn_of _ (by decide +kernel)) ggX2_readNext_X2_readCharacter
set_option maxRecDepth 20000 in
theorem ggX2_readNext_X2_readCommand : GoodIn wsX2_readNext wsX2_readCommand := goodIn_r _ [16, 17, 18, 19, 20, 21, 22, 23, 5, 24, 1, 7, 8, 9, 10, 11, 12, 25, 26, 27, 28, 29, 30, 31, 32, 33, 34, 35, 36, 2, 3, 4, 6, 37, 38, 39, 40, 41, 42, 43, 44, 45, 46, 47, 48, 49, 50, 51, 52, 53, 54, 55] (by decide +kernel) (by decide +kernel)
set_option maxRecDepth 20000 in
theorem gX2_readNext_X2_readCommand : GoodIn wsX2_readNext (wsV RX2 45 RX2 yX2_readCommand wsX2_readCommand) := goodIn_app (goodIn_of _ (by decide +kernel)) ggX2_readNext_X2_readCommand
theorem dX2_readNext_0 : decode cX2_readNext 0 = .ok (.aload_n 0, 1) := by decide +kernel
theorem dX2_readNext_1 : decode cX2_readNext 1 = .ok (.getfield 19, 3) := by decide +kernel
theorem dX2_readNext_4 : decode cX2_readNext 4 = .ok (.ifCond .eq 12, 3) := by decide +kernel
theorem dX2_readNext_7 : decode cX2_readNext 7 = .ok (.aload_n 0, 1) := by decide +kernel
theorem dX2_readNext_8 : decode cX2_readNext 8 = .ok (.bipush 59, 2) := by decide +kernel
theorem dX2_readNext_10 : decode cX2_readNext 10 = .ok (.invokevirtual 41, 3) := by decide +kernel
theorem dX2_readNext_13 : decode cX2_readNext 13 = .ok (.ifCond .eq 14, 3) := by decide +kernel
theorem dX2_readNext_16 : decode cX2_readNext 16 = .ok (.aload_n 0, 1) := by decide +kernel
theorem dX2_readNext_17 : decode cX2_readNext 17 = .ok (.invokevirtual 45, 3) := by decide +kernel
theorem dX2_readNext_20 : decode cX2_readNext 20 = .ok (.ifCond .eq 7, 3) := by decide +kernel
theorem dX2_readNext_23 : decode cX2_readNext 23 = .ok (.iconst 1, 1) := by decide +kernel
theorem dX2_readNext_24 : decode cX2_readNext 24 = .ok (.goto 4, 3) := by decide +kernel
theorem dX2_readNext_27 : decode cX2_readNext 27 = .ok (.iconst 0, 1) := by decide +kernel
theorem dX2_readNext_28 : decode cX2_readNext 28 = .ok (.ireturn, 1) := by decide +kernel
set_option maxRecDepth 20000 in
theorem ggX2_readCommand_X2_readKind : GoodIn wsX2_readCommand wsX2_readKind := goodIn_r _ [9, 3, 10, 11, 12, 13, 8, 14, 15, 16, 45, 46, 47, 48, 49, 50, 51] (by decide +kernel) (by decide +kernel)
set_option maxRecDepth 20000 in
theorem gX2_readCommand_X2_readKind : GoodIn wsX2_readCommand (wsV RX2 48 RX2 yX2_readKind wsX2_readKind) := goodIn_app (goodIn_of _ (by decide +kernel)) ggX2_readCommand_X2_readKind
set_option maxRecDepth 20000 in
theorem ggX2_readCommand_X2_readDigit : GoodIn wsX2_readCommand wsX2_readDigit := goodIn_r _ [20, 10, 21, 22, 23, 8, 24, 15, 16, 45, 46, 47, 48, 49, 50, 51] (by decide +kernel) (by decide +kernel)
set_option maxRecDepth 20000 in
theorem gX2_readCommand_X2_readDigit : GoodIn wsX2_readCommand (wsV RX2 51 RX2 yX2_readDigit wsX2_readDigit) := goodIn_app (goodIn_of _ (by decide +kernel)) ggX2_readCommand_X2_readDigit
set_option maxRecDepth 20000 in
theorem ggX2_readCommand_X2_readOtherReplica : GoodIn wsX2_readCommand wsX2_readOtherReplica := goodIn_r _ [28, 2, 4, 21, 22, 23, 8, 24, 10, 15, 16, 17, 18, 19, 20, 45, 46, 47, 48, 49, 50, 51] (by decide +kernel) (by decide +kernel)
set_option maxRecDepth 20000 in
theorem gX2_readCommand_X2_readOtherReplica : GoodIn wsX2_readCommand (wsV RX2 55 RX2 yX2_readOtherReplica wsX2_readOtherReplica) := goodIn_app (goodIn_of _ (by decide +kernel)) ggX2_readCommand_X2_readOtherReplica
set_option maxRecDepth 20000 in
theorem ggX2_readCommand_X2_readCharacter : GoodIn wsX2_readCommand wsX2_readCharacter := goodIn_r _ [32, 10, 11, 12, 13, 8, 14, 15, 16, 45, 46, 47, 48, 49, 50, 51] (by decide +kernel) (by decide +kernel)
set_option maxRecDepth 20000 in
theorem gX2_readCommand_X2_readCharacter : GoodIn wsX2_readCommand (wsV RX2 41 RX2 yX2_readCharacter wsX2_readCharacter) := goodIn_app (goodIn_of _ (by decide +kernel)) ggX2_readCommand_X2_readCharacter
set_option maxRecDepth 20000 in
theorem ggX2_readCommand_X2_readArgument : GoodIn wsX2_readCommand wsX2_readArgument := goodIn_r _ [36, 3, 1, 29, 30, 31, 8, 32, 10, 11, 12, 13, 14, 15, 16, 37, 38, 39, 40, 21, 22, 23, 24, 41, 42, 43, 44, 45, 46, 47, 48, 49, 50, 51] (by decide +kernel) (by decide +kernel)
set_option maxRecDepth 20000 in
theorem gX2_readCommand_X2_readArgument : GoodIn wsX2_readCommand (wsV RX2 58 RX2 yX2_readArgument wsX2_readArgument) := goodIn_app (goodIn_of _ (by decide +kernel)) ggX2_readCommand_X2_readArgument
theorem dX2_readCommand_0 : decode cX2_readCommand 0 = .ok (.aload_n 0, 1) := by decide +kernel
theorem dX2_readCommand_1 : decode cX2_readCommand 1 = .ok (.iconst 0, 1) := by decide +kernel
theorem dX2_readCommand_2 : decode cX2_readCommand 2 = .ok (.putfield 31, 3) := by decide +kernel
theorem dX2_readCommand_5 : decode cX2_readCommand 5 = .ok (.aload_n 0, 1) := by decide +kernel
theorem dX2_readCommand_6 : decode cX2_readCommand 6 = .ok (.invokevirtual 48, 3) := by decide +kernel
theorem dX2_readCommand_9 : decode cX2_readCommand 9 = .ok (.ifCond .ne 5, 3) := by decide +kernel
theorem dX2_readCommand_12 : decode cX2_readCommand 12 = .ok (.iconst 0, 1) := by decide +kernel
theorem dX2_readCommand_13 : decode cX2_readCommand 13 = .ok (.ireturn, 1) := by decide +kernel
theorem dX2_readCommand_14 : decode cX2_readCommand 14 = .ok (.aload_n 0, 1) := by decide +kernel
theorem dX2_readCommand_15 : decode cX2_readCommand 15 = .ok (.aload_n 0, 1) := by decide +kernel
theorem dX2_readCommand_16 : decode cX2_readCommand 16 = .ok (.iconst 3, 1) := by decide +kernel
theorem dX2_readCommand_17 : decode cX2_readCommand 17 = .ok (.invokevirtual 51, 3) := by decide +kernel
theorem dX2_readCommand_20 : decode cX2_readCommand 20 = .ok (.putfield 25, 3) := by decide +kernel
theorem dX2_readCommand_23 : decode cX2_readCommand 23 = .ok (.aload_n 0, 1) := by decide +kernel
theorem dX2_readCommand_24 : decode cX2_readCommand 24 = .ok (.getfield 25, 3) := by decide +kernel
theorem dX2_readCommand_27 : decode cX2_readCommand 27 = .ok (.iconst (-1), 1) := by decide +kernel
theorem dX2_readCommand_28 : decode cX2_readCommand 28 = .ok (.if_icmp .ne 5, 3) := by decide +kernel
theorem dX2_readCommand_31 : decode cX2_readCommand 31 = .ok (.iconst 0, 1) := by decide +kernel
theorem dX2_readCommand_32 : decode cX2_readCommand 32 = .ok (.ireturn, 1) := by decide +kernel
theorem dX2_readCommand_33 : decode cX2_readCommand 33 = .ok (.aload_n 0, 1) := by decide +kernel
theorem dX2_readCommand_34 : decode cX2_readCommand 34 = .ok (.getfield 22, 3) := by decide +kernel
theorem dX2_readCommand_37 : decode cX2_readCommand 37 = .ok (.bipush 109, 2) := by decide +kernel
theorem dX2_readCommand_39 : decode cX2_readCommand 39 = .ok (.if_icmp .ne 8, 3) := by decide +kernel
theorem dX2_readCommand_42 : decode cX2_readCommand 42 = .ok (.aload_n 0, 1) := by decide +kernel
theorem dX2_readCommand_43 : decode cX2_readCommand 43 = .ok (.invokevirtual 55, 3) := by decide +kernel
theorem dX2_readCommand_46 : decode cX2_readCommand 46 = .ok (.ireturn, 1) := by decide +kernel
theorem dX2_readCommand_47 : decode cX2_readCommand 47 = .ok (.aload_n 0, 1) := by decide +kernel
theorem dX2_readCommand_48 : decode cX2_readCommand 48 = .ok (.aload_n 0, 1) := by decide +kernel
theorem dX2_readCommand_49 : decode cX2_readCommand 49 = .ok (.iconst 5, 1) := by decide +kernel
theorem dX2_readCommand_50 : decode cX2_readCommand 50 = .ok (.invokevirtual 51, 3) := by decide +kernel
theorem dX2_readCommand_53 : decode cX2_readCommand 53 = .ok (.putfield 28, 3) := by decide +kernel
theorem dX2_readCommand_56 : decode cX2_readCommand 56 = .ok (.aload_n 0, 1) := by decide +kernel
theorem dX2_readCommand_57 : decode cX2_readCommand 57 = .ok (.getfield 28, 3) := by decide +kernel
theorem dX2_readCommand_60 : decode cX2_readCommand 60 = .ok (.iconst (-1), 1) := by decide +kernel
theorem dX2_readCommand_61 : decode cX2_readCommand 61 = .ok (.if_icmp .ne 5, 3) := by decide +kernel
theorem dX2_readCommand_64 : decode cX2_readCommand 64 = .ok (.iconst 0, 1) := by decide +kernel
theorem dX2_readCommand_65 : decode cX2_readCommand 65 = .ok (.ireturn, 1) := by decide +kernel
theorem dX2_readCommand_66 : decode cX2_readCommand 66 = .ok (.aload_n 0, 1) := by decide +kernel
theorem dX2_readCommand_67 : decode cX2_readCommand 67 = .ok (.getfield 22, 3) := by decide +kernel
theorem dX2_readCommand_70 : decode cX2_readCommand 70 = .ok (.bipush 100, 2) := by decide +kernel
theorem dX2_readCommand_72 : decode cX2_readCommand 72 = .ok (.if_icmp .eq 19, 3) := by decide +kernel
theorem dX2_readCommand_75 : decode cX2_readCommand 75 = .ok (.aload_n 0, 1) := by decide +kernel
theorem dX2_readCommand_76 : decode cX2_readCommand 76 = .ok (.bipush 44, 2) := by decide +kernel
theorem dX2_readCommand_78 : decode cX2_readCommand 78 = .ok (.invokevirtual 41, 3) := by decide +kernel
theorem dX2_readCommand_81 : decode cX2_readCommand 81 = .ok (.ifCond .eq 14, 3) := by decide +kernel
theorem dX2_readCommand_84 : decode cX2_readCommand 84 = .ok (.aload_n 0, 1) := by decide +kernel
theorem dX2_readCommand_85 : decode cX2_readCommand 85 = .ok (.invokevirtual 58, 3) := by decide +kernel
theorem dX2_readCommand_88 : decode cX2_readCommand 88 = .ok (.ifCond .eq 7, 3) := by decide +kernel
theorem dX2_readCommand_91 : decode cX2_readCommand 91 = .ok (.iconst 1, 1) := by decide +kernel
theorem dX2_readCommand_92 : decode cX2_readCommand 92 = .ok (.goto 4, 3) := by decide +kernel
theorem dX2_readCommand_95 : decode cX2_readCommand 95 = .ok (.iconst 0, 1) := by decide +kernel
theorem dX2_readCommand_96 : decode cX2_readCommand 96 = .ok (.ireturn, 1) := by decide +kernel
set_option maxRecDepth 20000 in
theorem ggX2_readKind_X2_nextCharacter : GoodIn wsX2_readKind wsX2_nextCharacter := goodIn_r _ [7, 2, 8, 9, 10, 11, 12, 13, 14, 15, 16] (by decide +kernel) (by decide +kernel)
set_option maxRecDepth 20000 in
theorem gX2_readKind_X2_nextCharacter : GoodIn wsX2_readKind (wsV RX2 61 RX2 yX2_nextCharacter wsX2_nextCharacter) := goodIn_app (goodIn_of _ (by decide +kernel)) ggX2_readKind_X2_nextCharacter
theorem dX2_readKind_0 : decode cX2_readKind 0 = .ok (.aload_n 0, 1) := by decide +kernel
theorem dX2_readKind_1 : decode cX2_readKind 1 = .ok (.aload_n 0, 1) := by decide +kernel
theorem dX2_readKind_2 : decode cX2_readKind 2 = .ok (.invokevirtual 61, 3) := by decide +kernel
theorem dX2_readKind_5 : decode cX2_readKind 5 = .ok (.putfield 22, 3) := by decide +kernel
theorem dX2_readKind_8 : decode cX2_readKind 8 = .ok (.aload_n 0, 1) := by decide +kernel
theorem dX2_readKind_9 : decode cX2_readKind 9 = .ok (.getfield 22, 3) := by decide +kernel
theorem dX2_readKind_12 : decode cX2_readKind 12 = .ok (.tableswitch 116 97 118 #[104, 116, 116, 104, 104, 116, 104, 116, 104, 116, 116, 104, 104, 116, 116, 116, 116, 116, 116, 116, 116, 104], 104) := by decide +kernel
theorem dX2_readKind_116 : decode cX2_readKind 116 = .ok (.aload_n 0, 1) := by decide +kernel
theorem dX2_readKind_117 : decode cX2_readKind 117 = .ok (.dup, 1) := by decide +kernel
theorem dX2_readKind_118 : decode cX2_readKind 118 = .ok (.getfield 19, 3) := by decide +kernel
theorem dX2_readKind_121 : decode cX2_readKind 121 = .ok (.iconst 1, 1) := by decide +kernel
theorem dX2_readKind_122 : decode cX2_readKind 122 = .ok (.iadd, 1) := by decide +kernel
theorem dX2_readKind_123 : decode cX2_readKind 123 = .ok (.putfield 19, 3) := by decide +kernel
theorem dX2_readKind_126 : decode cX2_readKind 126 = .ok (.iconst 1, 1) := by decide +kernel
theorem dX2_readKind_127 : decode cX2_readKind 127 = .ok (.ireturn, 1) := by decide +kernel
theorem dX2_readKind_128 : decode cX2_readKind 128 = .ok (.iconst 0, 1) := by decide +kernel
theorem dX2_readKind_129 : decode cX2_readKind 129 = .ok (.ireturn, 1) := by decide +kernel
set_option maxRecDepth 20000 in
theorem ggX2_readOtherReplica_X2_nextDigit : GoodIn wsX2_readOtherReplica wsX2_nextDigit := goodIn_r _ [7, 8, 9, 10, 15, 16, 17, 18, 19, 20, 21] (by decide +kernel) (by decide +kernel)
set_option maxRecDepth 20000 in
theorem gX2_readOtherReplica_X2_nextDigit : GoodIn wsX2_readOtherReplica (wsV RX2 65 RX2 yX2_nextDigit wsX2_nextDigit) := goodIn_app (goodIn_of _ (by decide +kernel)) ggX2_readOtherReplica_X2_nextDigit
set_option maxRecDepth 20000 in
theorem ggX2_readOtherReplica_X2_readDigit : GoodIn wsX2_readOtherReplica wsX2_readDigit := goodIn_r _ [14, 8, 3, 4, 5, 6, 7, 9, 10, 15, 16, 17, 18, 19, 20, 21] (by decide +kernel) (by decide +kernel)
set_option maxRecDepth 20000 in
theorem gX2_readOtherReplica_X2_readDigit : GoodIn wsX2_readOtherReplica (wsV RX2 51 RX2 yX2_readDigit wsX2_readDigit) := goodIn_app (goodIn_of _ (by decide +kernel)) ggX2_readOtherReplica_X2_readDigit
theorem dX2_readOtherReplica_0 : decode cX2_readOtherReplica 0 = .ok (.aload_n 0, 1) := by decide +kernel
theorem dX2_readOtherReplica_1 : decode cX2_readOtherReplica 1 = .ok (.iconst 3, 1) := by decide +kernel
theorem dX2_readOtherReplica_2 : decode cX2_readOtherReplica 2 = .ok (.invokevirtual 65, 3) := by decide +kernel
theorem dX2_readOtherReplica_5 : decode cX2_readOtherReplica 5 = .ok (.aload_n 0, 1) := by decide +kernel
theorem dX2_readOtherReplica_6 : decode cX2_readOtherReplica 6 = .ok (.getfield 25, 3) := by decide +kernel
theorem dX2_readOtherReplica_9 : decode cX2_readOtherReplica 9 = .ok (.if_icmp .ne 5, 3) := by decide +kernel
theorem dX2_readOtherReplica_12 : decode cX2_readOtherReplica 12 = .ok (.iconst 0, 1) := by decide +kernel
theorem dX2_readOtherReplica_13 : decode cX2_readOtherReplica 13 = .ok (.ireturn, 1) := by decide +kernel
theorem dX2_readOtherReplica_14 : decode cX2_readOtherReplica 14 = .ok (.aload_n 0, 1) := by decide +kernel
theorem dX2_readOtherReplica_15 : decode cX2_readOtherReplica 15 = .ok (.aload_n 0, 1) := by decide +kernel
theorem dX2_readOtherReplica_16 : decode cX2_readOtherReplica 16 = .ok (.iconst 3, 1) := by decide +kernel
theorem dX2_readOtherReplica_17 : decode cX2_readOtherReplica 17 = .ok (.invokevirtual 51, 3) := by decide +kernel
theorem dX2_readOtherReplica_20 : decode cX2_readOtherReplica 20 = .ok (.putfield 28, 3) := by decide +kernel
theorem dX2_readOtherReplica_23 : decode cX2_readOtherReplica 23 = .ok (.aload_n 0, 1) := by decide +kernel
theorem dX2_readOtherReplica_24 : decode cX2_readOtherReplica 24 = .ok (.getfield 28, 3) := by decide +kernel
theorem dX2_readOtherReplica_27 : decode cX2_readOtherReplica 27 = .ok (.iconst (-1), 1) := by decide +kernel
theorem dX2_readOtherReplica_28 : decode cX2_readOtherReplica 28 = .ok (.if_icmp .eq 7, 3) := by decide +kernel
theorem dX2_readOtherReplica_31 : decode cX2_readOtherReplica 31 = .ok (.iconst 1, 1) := by decide +kernel
theorem dX2_readOtherReplica_32 : decode cX2_readOtherReplica 32 = .ok (.goto 4, 3) := by decide +kernel
theorem dX2_readOtherReplica_35 : decode cX2_readOtherReplica 35 = .ok (.iconst 0, 1) := by decide +kernel
theorem dX2_readOtherReplica_36 : decode cX2_readOtherReplica 36 = .ok (.ireturn, 1) := by decide +kernel
set_option maxRecDepth 20000 in
theorem ggX2_readArgument_X2_readCharacter : GoodIn wsX2_readArgument wsX2_readCharacter := goodIn_r _ [7, 8, 9, 10, 11, 6, 12, 13, 14, 27, 28, 29, 30, 31, 32, 33] (by decide +kernel) (by decide +kernel)
set_option maxRecDepth 20000 in
theorem gX2_readArgument_X2_readCharacter : GoodIn wsX2_readArgument (wsV RX2 41 RX2 yX2_readCharacter wsX2_readCharacter) := goodIn_app (goodIn_of _ (by decide +kernel)) ggX2_readArgument_X2_readCharacter
set_option maxRecDepth 20000 in
theorem ggX2_readArgument_X2_readNumber : GoodIn wsX2_readArgument wsX2_readNumber := goodIn_r _ [18, 8, 2, 19, 20, 21, 6, 22, 13, 14, 27, 28, 29, 30, 31, 32, 33] (by decide +kernel) (by decide +kernel)
set_option maxRecDepth 20000 in
theorem gX2_readArgument_X2_readNumber : GoodIn wsX2_readArgument (wsV RX2 68 RX2 yX2_readNumber wsX2_readNumber) := goodIn_app (goodIn_of _ (by decide +kernel)) ggX2_readArgument_X2_readNumber
set_option maxRecDepth 20000 in
theorem ggX2_readArgument_X2_mostForKind : GoodIn wsX2_readArgument wsX2_mostForKind := goodIn_r _ [26, 1, 27, 28, 29, 30, 31, 32, 33] (by decide +kernel) (by decide +kernel)
set_option maxRecDepth 20000 in
theorem gX2_readArgument_X2_mostForKind : GoodIn wsX2_readArgument (wsV RX2 72 RX2 yX2_mostForKind wsX2_mostForKind) := goodIn_app (goodIn_of _ (by decide +kernel)) ggX2_readArgument_X2_mostForKind
theorem dX2_readArgument_0 : decode cX2_readArgument 0 = .ok (.aload_n 0, 1) := by decide +kernel
theorem dX2_readArgument_1 : decode cX2_readArgument 1 = .ok (.getfield 22, 3) := by decide +kernel
theorem dX2_readArgument_4 : decode cX2_readArgument 4 = .ok (.bipush 97, 2) := by decide +kernel
theorem dX2_readArgument_6 : decode cX2_readArgument 6 = .ok (.if_icmp .ne 7, 3) := by decide +kernel
theorem dX2_readArgument_9 : decode cX2_readArgument 9 = .ok (.iconst 1, 1) := by decide +kernel
theorem dX2_readArgument_10 : decode cX2_readArgument 10 = .ok (.goto 4, 3) := by decide +kernel
theorem dX2_readArgument_13 : decode cX2_readArgument 13 = .ok (.iconst 0, 1) := by decide +kernel
theorem dX2_readArgument_14 : decode cX2_readArgument 14 = .ok (.istore_n 1, 1) := by decide +kernel
theorem dX2_readArgument_15 : decode cX2_readArgument 15 = .ok (.iload_n 1, 1) := by decide +kernel
theorem dX2_readArgument_16 : decode cX2_readArgument 16 = .ok (.ifCond .eq 16, 3) := by decide +kernel
theorem dX2_readArgument_19 : decode cX2_readArgument 19 = .ok (.aload_n 0, 1) := by decide +kernel
theorem dX2_readArgument_20 : decode cX2_readArgument 20 = .ok (.bipush 45, 2) := by decide +kernel
theorem dX2_readArgument_22 : decode cX2_readArgument 22 = .ok (.invokevirtual 41, 3) := by decide +kernel
theorem dX2_readArgument_25 : decode cX2_readArgument 25 = .ok (.ifCond .eq 7, 3) := by decide +kernel
theorem dX2_readArgument_28 : decode cX2_readArgument 28 = .ok (.iconst 1, 1) := by decide +kernel
theorem dX2_readArgument_29 : decode cX2_readArgument 29 = .ok (.goto 4, 3) := by decide +kernel
theorem dX2_readArgument_32 : decode cX2_readArgument 32 = .ok (.iconst 0, 1) := by decide +kernel
theorem dX2_readArgument_33 : decode cX2_readArgument 33 = .ok (.istore_n 2, 1) := by decide +kernel
theorem dX2_readArgument_34 : decode cX2_readArgument 34 = .ok (.iload_n 1, 1) := by decide +kernel
theorem dX2_readArgument_35 : decode cX2_readArgument 35 = .ok (.ifCond .eq 13, 3) := by decide +kernel
theorem dX2_readArgument_38 : decode cX2_readArgument 38 = .ok (.aload_n 0, 1) := by decide +kernel
theorem dX2_readArgument_39 : decode cX2_readArgument 39 = .ok (.iconst 1, 1) := by decide +kernel
theorem dX2_readArgument_40 : decode cX2_readArgument 40 = .ok (.bipush 99, 2) := by decide +kernel
theorem dX2_readArgument_42 : decode cX2_readArgument 42 = .ok (.invokevirtual 68, 3) := by decide +kernel
theorem dX2_readArgument_45 : decode cX2_readArgument 45 = .ok (.goto 12, 3) := by decide +kernel
theorem dX2_readArgument_48 : decode cX2_readArgument 48 = .ok (.aload_n 0, 1) := by decide +kernel
theorem dX2_readArgument_49 : decode cX2_readArgument 49 = .ok (.iconst 0, 1) := by decide +kernel
theorem dX2_readArgument_50 : decode cX2_readArgument 50 = .ok (.aload_n 0, 1) := by decide +kernel
theorem dX2_readArgument_51 : decode cX2_readArgument 51 = .ok (.invokevirtual 72, 3) := by decide +kernel
theorem dX2_readArgument_54 : decode cX2_readArgument 54 = .ok (.invokevirtual 68, 3) := by decide +kernel
theorem dX2_readArgument_57 : decode cX2_readArgument 57 = .ok (.istore_n 3, 1) := by decide +kernel
theorem dX2_readArgument_58 : decode cX2_readArgument 58 = .ok (.iload_n 2, 1) := by decide +kernel
theorem dX2_readArgument_59 : decode cX2_readArgument 59 = .ok (.ifCond .eq 12, 3) := by decide +kernel
theorem dX2_readArgument_62 : decode cX2_readArgument 62 = .ok (.aload_n 0, 1) := by decide +kernel
theorem dX2_readArgument_63 : decode cX2_readArgument 63 = .ok (.aload_n 0, 1) := by decide +kernel
theorem dX2_readArgument_64 : decode cX2_readArgument 64 = .ok (.getfield 31, 3) := by decide +kernel
theorem dX2_readArgument_67 : decode cX2_readArgument 67 = .ok (.ineg, 1) := by decide +kernel
theorem dX2_readArgument_68 : decode cX2_readArgument 68 = .ok (.putfield 31, 3) := by decide +kernel
theorem dX2_readArgument_71 : decode cX2_readArgument 71 = .ok (.iload_n 3, 1) := by decide +kernel
theorem dX2_readArgument_72 : decode cX2_readArgument 72 = .ok (.ireturn, 1) := by decide +kernel
theorem dX2_mostForKind_0 : decode cX2_mostForKind 0 = .ok (.aload_n 0, 1) := by decide +kernel
theorem dX2_mostForKind_1 : decode cX2_mostForKind 1 = .ok (.getfield 22, 3) := by decide +kernel
theorem dX2_mostForKind_4 : decode cX2_mostForKind 4 = .ok (.bipush 105, 2) := by decide +kernel
theorem dX2_mostForKind_6 : decode cX2_mostForKind 6 = .ok (.if_icmp .eq 12, 3) := by decide +kernel
theorem dX2_mostForKind_9 : decode cX2_mostForKind 9 = .ok (.aload_n 0, 1) := by decide +kernel
theorem dX2_mostForKind_10 : decode cX2_mostForKind 10 = .ok (.getfield 22, 3) := by decide +kernel
theorem dX2_mostForKind_13 : decode cX2_mostForKind 13 = .ok (.bipush 101, 2) := by decide +kernel
theorem dX2_mostForKind_15 : decode cX2_mostForKind 15 = .ok (.if_icmp .ne 8, 3) := by decide +kernel
theorem dX2_mostForKind_18 : decode cX2_mostForKind 18 = .ok (.bipush 15, 2) := by decide +kernel
theorem dX2_mostForKind_20 : decode cX2_mostForKind 20 = .ok (.goto 6, 3) := by decide +kernel
theorem dX2_mostForKind_23 : decode cX2_mostForKind 23 = .ok (.sipush 999, 3) := by decide +kernel
theorem dX2_mostForKind_26 : decode cX2_mostForKind 26 = .ok (.ireturn, 1) := by decide +kernel
set_option maxRecDepth 20000 in
theorem ggX2_readNumber_X2_nextDigit : GoodIn wsX2_readNumber wsX2_nextDigit := goodIn_r _ [7, 1, 8, 9, 10, 11, 12, 13, 14, 15, 16] (by decide +kernel) (by decide +kernel)
set_option maxRecDepth 20000 in
theorem gX2_readNumber_X2_nextDigit : GoodIn wsX2_readNumber (wsV RX2 65 RX2 yX2_nextDigit wsX2_nextDigit) := goodIn_app (goodIn_of _ (by decide +kernel)) ggX2_readNumber_X2_nextDigit
theorem dX2_readNumber_0 : decode cX2_readNumber 0 = .ok (.aload_n 0, 1) := by decide +kernel
theorem dX2_readNumber_1 : decode cX2_readNumber 1 = .ok (.bipush 9, 2) := by decide +kernel
theorem dX2_readNumber_3 : decode cX2_readNumber 3 = .ok (.invokevirtual 65, 3) := by decide +kernel
theorem dX2_readNumber_6 : decode cX2_readNumber 6 = .ok (.istore_n 3, 1) := by decide +kernel
theorem dX2_readNumber_7 : decode cX2_readNumber 7 = .ok (.iload_n 3, 1) := by decide +kernel
theorem dX2_readNumber_8 : decode cX2_readNumber 8 = .ok (.iconst (-1), 1) := by decide +kernel
theorem dX2_readNumber_9 : decode cX2_readNumber 9 = .ok (.if_icmp .eq 8, 3) := by decide +kernel
theorem dX2_readNumber_12 : decode cX2_readNumber 12 = .ok (.iload_n 3, 1) := by decide +kernel
theorem dX2_readNumber_13 : decode cX2_readNumber 13 = .ok (.iload_n 1, 1) := by decide +kernel
theorem dX2_readNumber_14 : decode cX2_readNumber 14 = .ok (.if_icmp .ge 5, 3) := by decide +kernel
theorem dX2_readNumber_17 : decode cX2_readNumber 17 = .ok (.iconst 0, 1) := by decide +kernel
theorem dX2_readNumber_18 : decode cX2_readNumber 18 = .ok (.ireturn, 1) := by decide +kernel
theorem dX2_readNumber_19 : decode cX2_readNumber 19 = .ok (.aload_n 0, 1) := by decide +kernel
theorem dX2_readNumber_20 : decode cX2_readNumber 20 = .ok (.dup, 1) := by decide +kernel
theorem dX2_readNumber_21 : decode cX2_readNumber 21 = .ok (.getfield 19, 3) := by decide +kernel
theorem dX2_readNumber_24 : decode cX2_readNumber 24 = .ok (.iconst 1, 1) := by decide +kernel
theorem dX2_readNumber_25 : decode cX2_readNumber 25 = .ok (.iadd, 1) := by decide +kernel
theorem dX2_readNumber_26 : decode cX2_readNumber 26 = .ok (.putfield 19, 3) := by decide +kernel
theorem dX2_readNumber_29 : decode cX2_readNumber 29 = .ok (.aload_n 0, 1) := by decide +kernel
theorem dX2_readNumber_30 : decode cX2_readNumber 30 = .ok (.iload_n 3, 1) := by decide +kernel
theorem dX2_readNumber_31 : decode cX2_readNumber 31 = .ok (.putfield 31, 3) := by decide +kernel
theorem dX2_readNumber_34 : decode cX2_readNumber 34 = .ok (.iconst 1, 1) := by decide +kernel
theorem dX2_readNumber_35 : decode cX2_readNumber 35 = .ok (.istore 4, 2) := by decide +kernel
theorem dX2_readNumber_37 : decode cX2_readNumber 37 = .ok (.iload 4, 2) := by decide +kernel
theorem dX2_readNumber_39 : decode cX2_readNumber 39 = .ok (.iconst 3, 1) := by decide +kernel
theorem dX2_readNumber_40 : decode cX2_readNumber 40 = .ok (.if_icmp .ge 70, 3) := by decide +kernel
theorem dX2_readNumber_43 : decode cX2_readNumber 43 = .ok (.aload_n 0, 1) := by decide +kernel
theorem dX2_readNumber_44 : decode cX2_readNumber 44 = .ok (.getfield 31, 3) := by decide +kernel
theorem dX2_readNumber_47 : decode cX2_readNumber 47 = .ok (.ifCond .le 63, 3) := by decide +kernel
theorem dX2_readNumber_50 : decode cX2_readNumber 50 = .ok (.aload_n 0, 1) := by decide +kernel
theorem dX2_readNumber_51 : decode cX2_readNumber 51 = .ok (.bipush 9, 2) := by decide +kernel
theorem dX2_readNumber_53 : decode cX2_readNumber 53 = .ok (.invokevirtual 65, 3) := by decide +kernel
theorem dX2_readNumber_56 : decode cX2_readNumber 56 = .ok (.istore 5, 2) := by decide +kernel
theorem dX2_readNumber_58 : decode cX2_readNumber 58 = .ok (.iload 5, 2) := by decide +kernel
theorem dX2_readNumber_60 : decode cX2_readNumber 60 = .ok (.iconst (-1), 1) := by decide +kernel
theorem dX2_readNumber_61 : decode cX2_readNumber 61 = .ok (.if_icmp .eq 17, 3) := by decide +kernel
theorem dX2_readNumber_64 : decode cX2_readNumber 64 = .ok (.aload_n 0, 1) := by decide +kernel
theorem dX2_readNumber_65 : decode cX2_readNumber 65 = .ok (.getfield 31, 3) := by decide +kernel
theorem dX2_readNumber_68 : decode cX2_readNumber 68 = .ok (.bipush 10, 2) := by decide +kernel
theorem dX2_readNumber_70 : decode cX2_readNumber 70 = .ok (.imul, 1) := by decide +kernel
theorem dX2_readNumber_71 : decode cX2_readNumber 71 = .ok (.iload 5, 2) := by decide +kernel
theorem dX2_readNumber_73 : decode cX2_readNumber 73 = .ok (.iadd, 1) := by decide +kernel
theorem dX2_readNumber_74 : decode cX2_readNumber 74 = .ok (.iload_n 2, 1) := by decide +kernel
theorem dX2_readNumber_75 : decode cX2_readNumber 75 = .ok (.if_icmp .le 5, 3) := by decide +kernel
theorem dX2_readNumber_78 : decode cX2_readNumber 78 = .ok (.iconst 1, 1) := by decide +kernel
theorem dX2_readNumber_79 : decode cX2_readNumber 79 = .ok (.ireturn, 1) := by decide +kernel
theorem dX2_readNumber_80 : decode cX2_readNumber 80 = .ok (.aload_n 0, 1) := by decide +kernel
theorem dX2_readNumber_81 : decode cX2_readNumber 81 = .ok (.dup, 1) := by decide +kernel
theorem dX2_readNumber_82 : decode cX2_readNumber 82 = .ok (.getfield 19, 3) := by decide +kernel
theorem dX2_readNumber_85 : decode cX2_readNumber 85 = .ok (.iconst 1, 1) := by decide +kernel
theorem dX2_readNumber_86 : decode cX2_readNumber 86 = .ok (.iadd, 1) := by decide +kernel
theorem dX2_readNumber_87 : decode cX2_readNumber 87 = .ok (.putfield 19, 3) := by decide +kernel
theorem dX2_readNumber_90 : decode cX2_readNumber 90 = .ok (.aload_n 0, 1) := by decide +kernel
theorem dX2_readNumber_91 : decode cX2_readNumber 91 = .ok (.aload_n 0, 1) := by decide +kernel
theorem dX2_readNumber_92 : decode cX2_readNumber 92 = .ok (.getfield 31, 3) := by decide +kernel
theorem dX2_readNumber_95 : decode cX2_readNumber 95 = .ok (.bipush 10, 2) := by decide +kernel
theorem dX2_readNumber_97 : decode cX2_readNumber 97 = .ok (.imul, 1) := by decide +kernel
theorem dX2_readNumber_98 : decode cX2_readNumber 98 = .ok (.iload 5, 2) := by decide +kernel
theorem dX2_readNumber_100 : decode cX2_readNumber 100 = .ok (.iadd, 1) := by decide +kernel
theorem dX2_readNumber_101 : decode cX2_readNumber 101 = .ok (.putfield 31, 3) := by decide +kernel
theorem dX2_readNumber_104 : decode cX2_readNumber 104 = .ok (.iinc 4 1, 3) := by decide +kernel
theorem dX2_readNumber_107 : decode cX2_readNumber 107 = .ok (.goto (-70), 3) := by decide +kernel
theorem dX2_readNumber_110 : decode cX2_readNumber 110 = .ok (.iconst 1, 1) := by decide +kernel
theorem dX2_readNumber_111 : decode cX2_readNumber 111 = .ok (.ireturn, 1) := by decide +kernel
set_option maxRecDepth 20000 in
theorem ggX2_readCharacter_X2_nextCharacter : GoodIn wsX2_readCharacter wsX2_nextCharacter := goodIn_r _ [6, 1, 7, 8, 9, 10, 11, 12, 13, 14, 15] (by decide +kernel) (by decide +kernel)
set_option maxRecDepth 20000 in
theorem gX2_readCharacter_X2_nextCharacter : GoodIn wsX2_readCharacter (wsV RX2 61 RX2 yX2_nextCharacter wsX2_nextCharacter) := goodIn_app (goodIn_of _ (by decide +kernel)) ggX2_readCharacter_X2_nextCharacter
theorem dX2_readCharacter_0 : decode cX2_readCharacter 0 = .ok (.aload_n 0, 1) := by decide +kernel
theorem dX2_readCharacter_1 : decode cX2_readCharacter 1 = .ok (.invokevirtual 61, 3) := by decide +kernel
theorem dX2_readCharacter_4 : decode cX2_readCharacter 4 = .ok (.iload_n 1, 1) := by decide +kernel
theorem dX2_readCharacter_5 : decode cX2_readCharacter 5 = .ok (.if_icmp .eq 5, 3) := by decide +kernel
theorem dX2_readCharacter_8 : decode cX2_readCharacter 8 = .ok (.iconst 0, 1) := by decide +kernel
theorem dX2_readCharacter_9 : decode cX2_readCharacter 9 = .ok (.ireturn, 1) := by decide +kernel
theorem dX2_readCharacter_10 : decode cX2_readCharacter 10 = .ok (.aload_n 0, 1) := by decide +kernel
theorem dX2_readCharacter_11 : decode cX2_readCharacter 11 = .ok (.dup, 1) := by decide +kernel
theorem dX2_readCharacter_12 : decode cX2_readCharacter 12 = .ok (.getfield 19, 3) := by decide +kernel
theorem dX2_readCharacter_15 : decode cX2_readCharacter 15 = .ok (.iconst 1, 1) := by decide +kernel
theorem dX2_readCharacter_16 : decode cX2_readCharacter 16 = .ok (.iadd, 1) := by decide +kernel
theorem dX2_readCharacter_17 : decode cX2_readCharacter 17 = .ok (.putfield 19, 3) := by decide +kernel
theorem dX2_readCharacter_20 : decode cX2_readCharacter 20 = .ok (.iconst 1, 1) := by decide +kernel
theorem dX2_readCharacter_21 : decode cX2_readCharacter 21 = .ok (.ireturn, 1) := by decide +kernel
set_option maxRecDepth 20000 in
theorem ggX2_readDigit_X2_nextDigit : GoodIn wsX2_readDigit wsX2_nextDigit := goodIn_r _ [6, 1, 7, 8, 9, 10, 11, 12, 13, 14, 15] (by decide +kernel) (by decide +kernel)
set_option maxRecDepth 20000 in
theorem gX2_readDigit_X2_nextDigit : GoodIn wsX2_readDigit (wsV RX2 65 RX2 yX2_nextDigit wsX2_nextDigit) := goodIn_app (goodIn_of _ (by decide +kernel)) ggX2_readDigit_X2_nextDigit
theorem dX2_readDigit_0 : decode cX2_readDigit 0 = .ok (.aload_n 0, 1) := by decide +kernel
theorem dX2_readDigit_1 : decode cX2_readDigit 1 = .ok (.iload_n 1, 1) := by decide +kernel
theorem dX2_readDigit_2 : decode cX2_readDigit 2 = .ok (.invokevirtual 65, 3) := by decide +kernel
theorem dX2_readDigit_5 : decode cX2_readDigit 5 = .ok (.istore_n 2, 1) := by decide +kernel
theorem dX2_readDigit_6 : decode cX2_readDigit 6 = .ok (.iload_n 2, 1) := by decide +kernel
theorem dX2_readDigit_7 : decode cX2_readDigit 7 = .ok (.iconst (-1), 1) := by decide +kernel
theorem dX2_readDigit_8 : decode cX2_readDigit 8 = .ok (.if_icmp .eq 13, 3) := by decide +kernel
theorem dX2_readDigit_11 : decode cX2_readDigit 11 = .ok (.aload_n 0, 1) := by decide +kernel
theorem dX2_readDigit_12 : decode cX2_readDigit 12 = .ok (.dup, 1) := by decide +kernel
theorem dX2_readDigit_13 : decode cX2_readDigit 13 = .ok (.getfield 19, 3) := by decide +kernel
theorem dX2_readDigit_16 : decode cX2_readDigit 16 = .ok (.iconst 1, 1) := by decide +kernel
theorem dX2_readDigit_17 : decode cX2_readDigit 17 = .ok (.iadd, 1) := by decide +kernel
theorem dX2_readDigit_18 : decode cX2_readDigit 18 = .ok (.putfield 19, 3) := by decide +kernel
theorem dX2_readDigit_21 : decode cX2_readDigit 21 = .ok (.iload_n 2, 1) := by decide +kernel
theorem dX2_readDigit_22 : decode cX2_readDigit 22 = .ok (.ireturn, 1) := by decide +kernel
theorem dX2_nextDigit_0 : decode cX2_nextDigit 0 = .ok (.aload_n 0, 1) := by decide +kernel
theorem dX2_nextDigit_1 : decode cX2_nextDigit 1 = .ok (.getfield 19, 3) := by decide +kernel
theorem dX2_nextDigit_4 : decode cX2_nextDigit 4 = .ok (.aload_n 0, 1) := by decide +kernel
theorem dX2_nextDigit_5 : decode cX2_nextDigit 5 = .ok (.getfield 15, 3) := by decide +kernel
theorem dX2_nextDigit_8 : decode cX2_nextDigit 8 = .ok (.if_icmp .lt 5, 3) := by decide +kernel
theorem dX2_nextDigit_11 : decode cX2_nextDigit 11 = .ok (.iconst (-1), 1) := by decide +kernel
theorem dX2_nextDigit_12 : decode cX2_nextDigit 12 = .ok (.ireturn, 1) := by decide +kernel
theorem dX2_nextDigit_13 : decode cX2_nextDigit 13 = .ok (.aload_n 0, 1) := by decide +kernel
theorem dX2_nextDigit_14 : decode cX2_nextDigit 14 = .ok (.getfield 9, 3) := by decide +kernel
theorem dX2_nextDigit_17 : decode cX2_nextDigit 17 = .ok (.aload_n 0, 1) := by decide +kernel
theorem dX2_nextDigit_18 : decode cX2_nextDigit 18 = .ok (.getfield 19, 3) := by decide +kernel
theorem dX2_nextDigit_21 : decode cX2_nextDigit 21 = .ok (.caload, 1) := by decide +kernel
theorem dX2_nextDigit_22 : decode cX2_nextDigit 22 = .ok (.bipush 48, 2) := by decide +kernel
theorem dX2_nextDigit_24 : decode cX2_nextDigit 24 = .ok (.isub, 1) := by decide +kernel
theorem dX2_nextDigit_25 : decode cX2_nextDigit 25 = .ok (.istore_n 2, 1) := by decide +kernel
theorem dX2_nextDigit_26 : decode cX2_nextDigit 26 = .ok (.iload_n 2, 1) := by decide +kernel
theorem dX2_nextDigit_27 : decode cX2_nextDigit 27 = .ok (.ifCond .lt 12, 3) := by decide +kernel
theorem dX2_nextDigit_30 : decode cX2_nextDigit 30 = .ok (.iload_n 2, 1) := by decide +kernel
theorem dX2_nextDigit_31 : decode cX2_nextDigit 31 = .ok (.iload_n 1, 1) := by decide +kernel
theorem dX2_nextDigit_32 : decode cX2_nextDigit 32 = .ok (.if_icmp .gt 7, 3) := by decide +kernel
theorem dX2_nextDigit_35 : decode cX2_nextDigit 35 = .ok (.iload_n 2, 1) := by decide +kernel
theorem dX2_nextDigit_36 : decode cX2_nextDigit 36 = .ok (.goto 4, 3) := by decide +kernel
theorem dX2_nextDigit_39 : decode cX2_nextDigit 39 = .ok (.iconst (-1), 1) := by decide +kernel
theorem dX2_nextDigit_40 : decode cX2_nextDigit 40 = .ok (.ireturn, 1) := by decide +kernel
theorem dX2_nextCharacter_0 : decode cX2_nextCharacter 0 = .ok (.aload_n 0, 1) := by decide +kernel
theorem dX2_nextCharacter_1 : decode cX2_nextCharacter 1 = .ok (.getfield 19, 3) := by decide +kernel
theorem dX2_nextCharacter_4 : decode cX2_nextCharacter 4 = .ok (.aload_n 0, 1) := by decide +kernel
theorem dX2_nextCharacter_5 : decode cX2_nextCharacter 5 = .ok (.getfield 15, 3) := by decide +kernel
theorem dX2_nextCharacter_8 : decode cX2_nextCharacter 8 = .ok (.if_icmp .ge 15, 3) := by decide +kernel
theorem dX2_nextCharacter_11 : decode cX2_nextCharacter 11 = .ok (.aload_n 0, 1) := by decide +kernel
theorem dX2_nextCharacter_12 : decode cX2_nextCharacter 12 = .ok (.getfield 9, 3) := by decide +kernel
theorem dX2_nextCharacter_15 : decode cX2_nextCharacter 15 = .ok (.aload_n 0, 1) := by decide +kernel
theorem dX2_nextCharacter_16 : decode cX2_nextCharacter 16 = .ok (.getfield 19, 3) := by decide +kernel
theorem dX2_nextCharacter_19 : decode cX2_nextCharacter 19 = .ok (.caload, 1) := by decide +kernel
theorem dX2_nextCharacter_20 : decode cX2_nextCharacter 20 = .ok (.goto 4, 3) := by decide +kernel
theorem dX2_nextCharacter_23 : decode cX2_nextCharacter 23 = .ok (.iconst (-1), 1) := by decide +kernel
theorem dX2_nextCharacter_24 : decode cX2_nextCharacter 24 = .ok (.ireturn, 1) := by decide +kernel
set_option maxRecDepth 20000 in
theorem ggX3_init_X1_init : GoodIn wsX3_init wsX1_init := goodIn_r _ [17, 18, 2, 3, 19, 20, 21, 22, 23, 24, 25, 44, 45, 46, 47, 48, 49] (by decide +kernel) (by decide +kernel)
set_option maxRecDepth 20000 in
theorem gX3_init_X1_init_n9 : GoodIn wsX3_init (wsX1_init) := ggX3_init_X1_init
set_option maxRecDepth 20000 in
theorem ggX3_init_X0_init : GoodIn wsX3_init wsX0_init := goodIn_r _ [27, 28, 2, 3, 29, 30, 31, 32, 53, 54, 55] (by decide +kernel) (by decide +kernel)
set_option maxRecDepth 20000 in
theorem gX3_init_X0_init_n18 : GoodIn wsX3_init (wsX0_init) := ggX3_init_X0_init
set_option maxRecDepth 20000 in
theorem ggX3_init_X2_init : GoodIn wsX3_init wsX2_init := goodIn_r _ [34, 35, 2, 3, 36, 37, 38, 39, 40, 41, 42, 43, 56, 57, 58, 59, 60, 61, 62] (by decide +kernel) (by decide +kernel)
set_option maxRecDepth 20000 in
theorem gX3_init_X2_init_n25 : GoodIn wsX3_init (wsX2_init) := ggX3_init_X2_init
