theorem dX5_init_0 : decode cX5_init 0 = .ok (.aload_n 0, 1) := by decide +kernel
theorem dX5_init_1 : decode cX5_init 1 = .ok (.invokespecial 1, 3) := by decide +kernel
theorem dX5_init_4 : decode cX5_init 4 = .ok (.aload_n 0, 1) := by decide +kernel
theorem dX5_init_5 : decode cX5_init 5 = .ok (.sipush 163, 3) := by decide +kernel
theorem dX5_init_8 : decode cX5_init 8 = .ok (.newarray .int, 2) := by decide +kernel
theorem dX5_init_10 : decode cX5_init 10 = .ok (.putfield 7, 3) := by decide +kernel
theorem dX5_init_13 : decode cX5_init 13 = .ok (.aload_n 0, 1) := by decide +kernel
theorem dX5_init_14 : decode cX5_init 14 = .ok (.sipush 978, 3) := by decide +kernel
theorem dX5_init_17 : decode cX5_init 17 = .ok (.newarray .int, 2) := by decide +kernel
theorem dX5_init_19 : decode cX5_init 19 = .ok (.putfield 13, 3) := by decide +kernel
theorem dX5_init_22 : decode cX5_init 22 = .ok (.aload_n 0, 1) := by decide +kernel
theorem dX5_init_23 : decode cX5_init 23 = .ok (.bipush 60, 2) := by decide +kernel
theorem dX5_init_25 : decode cX5_init 25 = .ok (.newarray .int, 2) := by decide +kernel
theorem dX5_init_27 : decode cX5_init 27 = .ok (.putfield 16, 3) := by decide +kernel
theorem dX5_init_30 : decode cX5_init 30 = .ok (.aload_n 0, 1) := by decide +kernel
theorem dX5_init_31 : decode cX5_init 31 = .ok (.bipush 93, 2) := by decide +kernel
theorem dX5_init_33 : decode cX5_init 33 = .ok (.newarray .int, 2) := by decide +kernel
theorem dX5_init_35 : decode cX5_init 35 = .ok (.putfield 19, 3) := by decide +kernel
theorem dX5_init_38 : decode cX5_init 38 = .ok (.aload_n 0, 1) := by decide +kernel
theorem dX5_init_39 : decode cX5_init 39 = .ok (.getfield 7, 3) := by decide +kernel
theorem dX5_init_42 : decode cX5_init 42 = .ok (.iconst 1, 1) := by decide +kernel
theorem dX5_init_43 : decode cX5_init 43 = .ok (.iconst 5, 1) := by decide +kernel
theorem dX5_init_44 : decode cX5_init 44 = .ok (.iastore, 1) := by decide +kernel
theorem dX5_init_45 : decode cX5_init 45 = .ok (.aload_n 0, 1) := by decide +kernel
theorem dX5_init_46 : decode cX5_init 46 = .ok (.getfield 7, 3) := by decide +kernel
theorem dX5_init_49 : decode cX5_init 49 = .ok (.iconst 3, 1) := by decide +kernel
theorem dX5_init_50 : decode cX5_init 50 = .ok (.iconst (-1), 1) := by decide +kernel
theorem dX5_init_51 : decode cX5_init 51 = .ok (.iastore, 1) := by decide +kernel
theorem dX5_init_52 : decode cX5_init 52 = .ok (.iconst 0, 1) := by decide +kernel
theorem dX5_init_53 : decode cX5_init 53 = .ok (.istore_n 1, 1) := by decide +kernel
theorem dX5_init_54 : decode cX5_init 54 = .ok (.iload_n 1, 1) := by decide +kernel
theorem dX5_init_55 : decode cX5_init 55 = .ok (.iconst 4, 1) := by decide +kernel
theorem dX5_init_56 : decode cX5_init 56 = .ok (.if_icmp .ge 37, 3) := by decide +kernel
theorem dX5_init_59 : decode cX5_init 59 = .ok (.aload_n 0, 1) := by decide +kernel
theorem dX5_init_60 : decode cX5_init 60 = .ok (.getfield 7, 3) := by decide +kernel
theorem dX5_init_63 : decode cX5_init 63 = .ok (.bipush 15, 2) := by decide +kernel
theorem dX5_init_65 : decode cX5_init 65 = .ok (.bipush 17, 2) := by decide +kernel
theorem dX5_init_67 : decode cX5_init 67 = .ok (.iload_n 1, 1) := by decide +kernel
theorem dX5_init_68 : decode cX5_init 68 = .ok (.imul, 1) := by decide +kernel
theorem dX5_init_69 : decode cX5_init 69 = .ok (.iadd, 1) := by decide +kernel
theorem dX5_init_70 : decode cX5_init 70 = .ok (.iconst 1, 1) := by decide +kernel
theorem dX5_init_71 : decode cX5_init 71 = .ok (.iastore, 1) := by decide +kernel
theorem dX5_init_72 : decode cX5_init 72 = .ok (.aload_n 0, 1) := by decide +kernel
theorem dX5_init_73 : decode cX5_init 73 = .ok (.getfield 7, 3) := by decide +kernel
theorem dX5_init_76 : decode cX5_init 76 = .ok (.bipush 15, 2) := by decide +kernel
theorem dX5_init_78 : decode cX5_init 78 = .ok (.bipush 17, 2) := by decide +kernel
theorem dX5_init_80 : decode cX5_init 80 = .ok (.iload_n 1, 1) := by decide +kernel
theorem dX5_init_81 : decode cX5_init 81 = .ok (.imul, 1) := by decide +kernel
theorem dX5_init_82 : decode cX5_init 82 = .ok (.iadd, 1) := by decide +kernel
theorem dX5_init_83 : decode cX5_init 83 = .ok (.iconst 1, 1) := by decide +kernel
theorem dX5_init_84 : decode cX5_init 84 = .ok (.iadd, 1) := by decide +kernel
theorem dX5_init_85 : decode cX5_init 85 = .ok (.iconst (-1), 1) := by decide +kernel
theorem dX5_init_86 : decode cX5_init 86 = .ok (.iastore, 1) := by decide +kernel
theorem dX5_init_87 : decode cX5_init 87 = .ok (.iinc 1 1, 3) := by decide +kernel
theorem dX5_init_90 : decode cX5_init 90 = .ok (.goto (-36), 3) := by decide +kernel
theorem dX5_init_93 : decode cX5_init 93 = .ok (.return_, 1) := by decide +kernel
theorem dX5_thrown_0 : decode cX5_thrown 0 = .ok (.aload_n 0, 1) := by decide +kernel
theorem dX5_thrown_1 : decode cX5_thrown 1 = .ok (.getfield 22, 3) := by decide +kernel
theorem dX5_thrown_4 : decode cX5_thrown 4 = .ok (.ireturn, 1) := by decide +kernel
theorem dX5_fails_0 : decode cX5_fails 0 = .ok (.aload_n 0, 1) := by decide +kernel
theorem dX5_fails_1 : decode cX5_fails 1 = .ok (.iload_n 1, 1) := by decide +kernel
theorem dX5_fails_2 : decode cX5_fails 2 = .ok (.putfield 22, 3) := by decide +kernel
theorem dX5_fails_5 : decode cX5_fails 5 = .ok (.iconst 0, 1) := by decide +kernel
theorem dX5_fails_6 : decode cX5_fails 6 = .ok (.ireturn, 1) := by decide +kernel
theorem dX5_in_0 : decode cX5_in 0 = .ok (.iload_n 0, 1) := by decide +kernel
theorem dX5_in_1 : decode cX5_in 1 = .ok (.iload_n 1, 1) := by decide +kernel
theorem dX5_in_2 : decode cX5_in 2 = .ok (.if_icmp .lt 12, 3) := by decide +kernel
theorem dX5_in_5 : decode cX5_in 5 = .ok (.iload_n 0, 1) := by decide +kernel
theorem dX5_in_6 : decode cX5_in 6 = .ok (.iload_n 2, 1) := by decide +kernel
theorem dX5_in_7 : decode cX5_in 7 = .ok (.if_icmp .gt 7, 3) := by decide +kernel
theorem dX5_in_10 : decode cX5_in 10 = .ok (.iconst 1, 1) := by decide +kernel
theorem dX5_in_11 : decode cX5_in 11 = .ok (.goto 4, 3) := by decide +kernel
theorem dX5_in_14 : decode cX5_in 14 = .ok (.iconst 0, 1) := by decide +kernel
theorem dX5_in_15 : decode cX5_in 15 = .ok (.ireturn, 1) := by decide +kernel
set_option maxRecDepth 20000 in
theorem ggX5_isField_X5_in : GoodIn wsX5_isField wsX5_in := goodIn_r _ [4] (by decide +kernel) (by decide +kernel)
set_option maxRecDepth 20000 in
theorem gX5_isField_X5_in : GoodIn wsX5_isField (va_wsS RX5 26 yX5_in wsX5_in) := goodIn_app (goodIn_of _ (by decide +kernel)) ggX5_isField_X5_in
theorem dX5_isField_0 : decode cX5_isField 0 = .ok (.iload_n 0, 1) := by decide +kernel
theorem dX5_isField_1 : decode cX5_isField 1 = .ok (.iconst 0, 1) := by decide +kernel
theorem dX5_isField_2 : decode cX5_isField 2 = .ok (.iconst 4, 1) := by decide +kernel
theorem dX5_isField_3 : decode cX5_isField 3 = .ok (.invokestatic 26, 3) := by decide +kernel
theorem dX5_isField_6 : decode cX5_isField 6 = .ok (.ireturn, 1) := by decide +kernel
set_option maxRecDepth 20000 in
theorem ggX5_isClerk_X5_in : GoodIn wsX5_isClerk wsX5_in := goodIn_r _ [4] (by decide +kernel) (by decide +kernel)
set_option maxRecDepth 20000 in
theorem gX5_isClerk_X5_in : GoodIn wsX5_isClerk (va_wsS RX5 26 yX5_in wsX5_in) := goodIn_app (goodIn_of _ (by decide +kernel)) ggX5_isClerk_X5_in
theorem dX5_isClerk_0 : decode cX5_isClerk 0 = .ok (.iload_n 0, 1) := by decide +kernel
theorem dX5_isClerk_1 : decode cX5_isClerk 1 = .ok (.iconst 0, 1) := by decide +kernel
theorem dX5_isClerk_2 : decode cX5_isClerk 2 = .ok (.iconst 2, 1) := by decide +kernel
theorem dX5_isClerk_3 : decode cX5_isClerk 3 = .ok (.invokestatic 26, 3) := by decide +kernel
theorem dX5_isClerk_6 : decode cX5_isClerk 6 = .ok (.ireturn, 1) := by decide +kernel
set_option maxRecDepth 20000 in
theorem ggX5_isReader_X5_in : GoodIn wsX5_isReader wsX5_in := goodIn_r _ [4] (by decide +kernel) (by decide +kernel)
set_option maxRecDepth 20000 in
theorem gX5_isReader_X5_in : GoodIn wsX5_isReader (va_wsS RX5 26 yX5_in wsX5_in) := goodIn_app (goodIn_of _ (by decide +kernel)) ggX5_isReader_X5_in
theorem dX5_isReader_0 : decode cX5_isReader 0 = .ok (.iload_n 0, 1) := by decide +kernel
theorem dX5_isReader_1 : decode cX5_isReader 1 = .ok (.iconst 0, 1) := by decide +kernel
theorem dX5_isReader_2 : decode cX5_isReader 2 = .ok (.iconst 3, 1) := by decide +kernel
theorem dX5_isReader_3 : decode cX5_isReader 3 = .ok (.invokestatic 26, 3) := by decide +kernel
theorem dX5_isReader_6 : decode cX5_isReader 6 = .ok (.ireturn, 1) := by decide +kernel
theorem dX5_of_0 : decode cX5_of 0 = .ok (.aload_n 0, 1) := by decide +kernel
theorem dX5_of_1 : decode cX5_of 1 = .ok (.getfield 7, 3) := by decide +kernel
theorem dX5_of_4 : decode cX5_of 4 = .ok (.bipush 15, 2) := by decide +kernel
theorem dX5_of_6 : decode cX5_of 6 = .ok (.bipush 17, 2) := by decide +kernel
theorem dX5_of_8 : decode cX5_of 8 = .ok (.iload_n 1, 1) := by decide +kernel
theorem dX5_of_9 : decode cX5_of 9 = .ok (.imul, 1) := by decide +kernel
theorem dX5_of_10 : decode cX5_of 10 = .ok (.iadd, 1) := by decide +kernel
theorem dX5_of_11 : decode cX5_of 11 = .ok (.iload_n 2, 1) := by decide +kernel
theorem dX5_of_12 : decode cX5_of 12 = .ok (.iadd, 1) := by decide +kernel
theorem dX5_of_13 : decode cX5_of 13 = .ok (.iaload, 1) := by decide +kernel
theorem dX5_of_14 : decode cX5_of 14 = .ok (.ireturn, 1) := by decide +kernel
theorem dX5_saves_0 : decode cX5_saves 0 = .ok (.aload_n 0, 1) := by decide +kernel
theorem dX5_saves_1 : decode cX5_saves 1 = .ok (.getfield 30, 3) := by decide +kernel
theorem dX5_saves_4 : decode cX5_saves 4 = .ok (.bipush 6, 2) := by decide +kernel
theorem dX5_saves_6 : decode cX5_saves 6 = .ok (.if_icmp .ne 44, 3) := by decide +kernel
theorem dX5_saves_9 : decode cX5_saves 9 = .ok (.iconst 0, 1) := by decide +kernel
theorem dX5_saves_10 : decode cX5_saves 10 = .ok (.istore_n 1, 1) := by decide +kernel
theorem dX5_saves_11 : decode cX5_saves 11 = .ok (.iload_n 1, 1) := by decide +kernel
theorem dX5_saves_12 : decode cX5_saves 12 = .ok (.sipush 815, 3) := by decide +kernel
theorem dX5_saves_15 : decode cX5_saves 15 = .ok (.if_icmp .ge 25, 3) := by decide +kernel
theorem dX5_saves_18 : decode cX5_saves 18 = .ok (.aload_n 0, 1) := by decide +kernel
theorem dX5_saves_19 : decode cX5_saves 19 = .ok (.getfield 13, 3) := by decide +kernel
theorem dX5_saves_22 : decode cX5_saves 22 = .ok (.iload_n 1, 1) := by decide +kernel
theorem dX5_saves_23 : decode cX5_saves 23 = .ok (.aload_n 0, 1) := by decide +kernel
theorem dX5_saves_24 : decode cX5_saves 24 = .ok (.getfield 13, 3) := by decide +kernel
theorem dX5_saves_27 : decode cX5_saves 27 = .ok (.iload_n 1, 1) := by decide +kernel
theorem dX5_saves_28 : decode cX5_saves 28 = .ok (.sipush 163, 3) := by decide +kernel
theorem dX5_saves_31 : decode cX5_saves 31 = .ok (.iadd, 1) := by decide +kernel
theorem dX5_saves_32 : decode cX5_saves 32 = .ok (.iaload, 1) := by decide +kernel
theorem dX5_saves_33 : decode cX5_saves 33 = .ok (.iastore, 1) := by decide +kernel
theorem dX5_saves_34 : decode cX5_saves 34 = .ok (.iinc 1 1, 3) := by decide +kernel
theorem dX5_saves_37 : decode cX5_saves 37 = .ok (.goto (-26), 3) := by decide +kernel
theorem dX5_saves_40 : decode cX5_saves 40 = .ok (.aload_n 0, 1) := by decide +kernel
theorem dX5_saves_41 : decode cX5_saves 41 = .ok (.dup, 1) := by decide +kernel
theorem dX5_saves_42 : decode cX5_saves 42 = .ok (.getfield 30, 3) := by decide +kernel
theorem dX5_saves_45 : decode cX5_saves 45 = .ok (.iconst 1, 1) := by decide +kernel
theorem dX5_saves_46 : decode cX5_saves 46 = .ok (.isub, 1) := by decide +kernel
theorem dX5_saves_47 : decode cX5_saves 47 = .ok (.putfield 30, 3) := by decide +kernel
theorem dX5_saves_50 : decode cX5_saves 50 = .ok (.iconst 0, 1) := by decide +kernel
theorem dX5_saves_51 : decode cX5_saves 51 = .ok (.istore_n 1, 1) := by decide +kernel
theorem dX5_saves_52 : decode cX5_saves 52 = .ok (.iload_n 1, 1) := by decide +kernel
theorem dX5_saves_53 : decode cX5_saves 53 = .ok (.sipush 163, 3) := by decide +kernel
theorem dX5_saves_56 : decode cX5_saves 56 = .ok (.if_icmp .ge 30, 3) := by decide +kernel
theorem dX5_saves_59 : decode cX5_saves 59 = .ok (.aload_n 0, 1) := by decide +kernel
theorem dX5_saves_60 : decode cX5_saves 60 = .ok (.getfield 13, 3) := by decide +kernel
theorem dX5_saves_63 : decode cX5_saves 63 = .ok (.sipush 163, 3) := by decide +kernel
theorem dX5_saves_66 : decode cX5_saves 66 = .ok (.aload_n 0, 1) := by decide +kernel
theorem dX5_saves_67 : decode cX5_saves 67 = .ok (.getfield 30, 3) := by decide +kernel
theorem dX5_saves_70 : decode cX5_saves 70 = .ok (.imul, 1) := by decide +kernel
theorem dX5_saves_71 : decode cX5_saves 71 = .ok (.iload_n 1, 1) := by decide +kernel
theorem dX5_saves_72 : decode cX5_saves 72 = .ok (.iadd, 1) := by decide +kernel
theorem dX5_saves_73 : decode cX5_saves 73 = .ok (.aload_n 0, 1) := by decide +kernel
theorem dX5_saves_74 : decode cX5_saves 74 = .ok (.getfield 7, 3) := by decide +kernel
theorem dX5_saves_77 : decode cX5_saves 77 = .ok (.iload_n 1, 1) := by decide +kernel
theorem dX5_saves_78 : decode cX5_saves 78 = .ok (.iaload, 1) := by decide +kernel
theorem dX5_saves_79 : decode cX5_saves 79 = .ok (.iastore, 1) := by decide +kernel
theorem dX5_saves_80 : decode cX5_saves 80 = .ok (.iinc 1 1, 3) := by decide +kernel
theorem dX5_saves_83 : decode cX5_saves 83 = .ok (.goto (-31), 3) := by decide +kernel
theorem dX5_saves_86 : decode cX5_saves 86 = .ok (.aload_n 0, 1) := by decide +kernel
theorem dX5_saves_87 : decode cX5_saves 87 = .ok (.dup, 1) := by decide +kernel
theorem dX5_saves_88 : decode cX5_saves 88 = .ok (.getfield 30, 3) := by decide +kernel
theorem dX5_saves_91 : decode cX5_saves 91 = .ok (.iconst 1, 1) := by decide +kernel
theorem dX5_saves_92 : decode cX5_saves 92 = .ok (.iadd, 1) := by decide +kernel
theorem dX5_saves_93 : decode cX5_saves 93 = .ok (.putfield 30, 3) := by decide +kernel
theorem dX5_saves_96 : decode cX5_saves 96 = .ok (.return_, 1) := by decide +kernel
set_option maxRecDepth 20000 in
theorem ggX5_undo_X5_fails : GoodIn wsX5_undo wsX5_fails := goodIn_r _ [9, 1, 10, 11, 12, 13, 14, 15, 16, 17, 18, 19] (by decide +kernel) (by decide +kernel)
set_option maxRecDepth 20000 in
theorem gX5_undo_X5_fails : GoodIn wsX5_undo (wsV RX5 33 RX5 yX5_fails wsX5_fails) := goodIn_app (goodIn_of _ (by decide +kernel)) ggX5_undo_X5_fails
theorem dX5_undo_0 : decode cX5_undo 0 = .ok (.aload_n 0, 1) := by decide +kernel
theorem dX5_undo_1 : decode cX5_undo 1 = .ok (.iconst 0, 1) := by decide +kernel
theorem dX5_undo_2 : decode cX5_undo 2 = .ok (.putfield 22, 3) := by decide +kernel
theorem dX5_undo_5 : decode cX5_undo 5 = .ok (.aload_n 0, 1) := by decide +kernel
theorem dX5_undo_6 : decode cX5_undo 6 = .ok (.getfield 30, 3) := by decide +kernel
theorem dX5_undo_9 : decode cX5_undo 9 = .ok (.ifCond .ne 9, 3) := by decide +kernel
theorem dX5_undo_12 : decode cX5_undo 12 = .ok (.aload_n 0, 1) := by decide +kernel
theorem dX5_undo_13 : decode cX5_undo 13 = .ok (.iconst 1, 1) := by decide +kernel
theorem dX5_undo_14 : decode cX5_undo 14 = .ok (.invokevirtual 33, 3) := by decide +kernel
theorem dX5_undo_17 : decode cX5_undo 17 = .ok (.ireturn, 1) := by decide +kernel
theorem dX5_undo_18 : decode cX5_undo 18 = .ok (.aload_n 0, 1) := by decide +kernel
theorem dX5_undo_19 : decode cX5_undo 19 = .ok (.dup, 1) := by decide +kernel
theorem dX5_undo_20 : decode cX5_undo 20 = .ok (.getfield 30, 3) := by decide +kernel
theorem dX5_undo_23 : decode cX5_undo 23 = .ok (.iconst 1, 1) := by decide +kernel
theorem dX5_undo_24 : decode cX5_undo 24 = .ok (.isub, 1) := by decide +kernel
theorem dX5_undo_25 : decode cX5_undo 25 = .ok (.putfield 30, 3) := by decide +kernel
theorem dX5_undo_28 : decode cX5_undo 28 = .ok (.iconst 0, 1) := by decide +kernel
theorem dX5_undo_29 : decode cX5_undo 29 = .ok (.istore_n 1, 1) := by decide +kernel
theorem dX5_undo_30 : decode cX5_undo 30 = .ok (.iload_n 1, 1) := by decide +kernel
theorem dX5_undo_31 : decode cX5_undo 31 = .ok (.sipush 163, 3) := by decide +kernel
theorem dX5_undo_34 : decode cX5_undo 34 = .ok (.if_icmp .ge 30, 3) := by decide +kernel
theorem dX5_undo_37 : decode cX5_undo 37 = .ok (.aload_n 0, 1) := by decide +kernel
theorem dX5_undo_38 : decode cX5_undo 38 = .ok (.getfield 7, 3) := by decide +kernel
theorem dX5_undo_41 : decode cX5_undo 41 = .ok (.iload_n 1, 1) := by decide +kernel
theorem dX5_undo_42 : decode cX5_undo 42 = .ok (.aload_n 0, 1) := by decide +kernel
theorem dX5_undo_43 : decode cX5_undo 43 = .ok (.getfield 13, 3) := by decide +kernel
theorem dX5_undo_46 : decode cX5_undo 46 = .ok (.sipush 163, 3) := by decide +kernel
theorem dX5_undo_49 : decode cX5_undo 49 = .ok (.aload_n 0, 1) := by decide +kernel
theorem dX5_undo_50 : decode cX5_undo 50 = .ok (.getfield 30, 3) := by decide +kernel
theorem dX5_undo_53 : decode cX5_undo 53 = .ok (.imul, 1) := by decide +kernel
theorem dX5_undo_54 : decode cX5_undo 54 = .ok (.iload_n 1, 1) := by decide +kernel
theorem dX5_undo_55 : decode cX5_undo 55 = .ok (.iadd, 1) := by decide +kernel
theorem dX5_undo_56 : decode cX5_undo 56 = .ok (.iaload, 1) := by decide +kernel
theorem dX5_undo_57 : decode cX5_undo 57 = .ok (.iastore, 1) := by decide +kernel
theorem dX5_undo_58 : decode cX5_undo 58 = .ok (.iinc 1 1, 3) := by decide +kernel
theorem dX5_undo_61 : decode cX5_undo 61 = .ok (.goto (-31), 3) := by decide +kernel
theorem dX5_undo_64 : decode cX5_undo 64 = .ok (.aload_n 0, 1) := by decide +kernel
theorem dX5_undo_65 : decode cX5_undo 65 = .ok (.getfield 30, 3) := by decide +kernel
theorem dX5_undo_68 : decode cX5_undo 68 = .ok (.ireturn, 1) := by decide +kernel
theorem dX5_isOdd_0 : decode cX5_isOdd 0 = .ok (.aload_n 0, 1) := by decide +kernel
theorem dX5_isOdd_1 : decode cX5_isOdd 1 = .ok (.getfield 7, 3) := by decide +kernel
theorem dX5_isOdd_4 : decode cX5_isOdd 4 = .ok (.iconst 0, 1) := by decide +kernel
theorem dX5_isOdd_5 : decode cX5_isOdd 5 = .ok (.iaload, 1) := by decide +kernel
theorem dX5_isOdd_6 : decode cX5_isOdd 6 = .ok (.iconst 2, 1) := by decide +kernel
theorem dX5_isOdd_7 : decode cX5_isOdd 7 = .ok (.irem, 1) := by decide +kernel
theorem dX5_isOdd_8 : decode cX5_isOdd 8 = .ok (.iconst 1, 1) := by decide +kernel
theorem dX5_isOdd_9 : decode cX5_isOdd 9 = .ok (.if_icmp .ne 7, 3) := by decide +kernel
theorem dX5_isOdd_12 : decode cX5_isOdd 12 = .ok (.iconst 1, 1) := by decide +kernel
theorem dX5_isOdd_13 : decode cX5_isOdd 13 = .ok (.goto 4, 3) := by decide +kernel
theorem dX5_isOdd_16 : decode cX5_isOdd 16 = .ok (.iconst 0, 1) := by decide +kernel
theorem dX5_isOdd_17 : decode cX5_isOdd 17 = .ok (.ireturn, 1) := by decide +kernel
theorem dX5_mode_0 : decode cX5_mode 0 = .ok (.aload_n 0, 1) := by decide +kernel
theorem dX5_mode_1 : decode cX5_mode 1 = .ok (.getfield 7, 3) := by decide +kernel
theorem dX5_mode_4 : decode cX5_mode 4 = .ok (.iconst 4, 1) := by decide +kernel
theorem dX5_mode_5 : decode cX5_mode 5 = .ok (.iaload, 1) := by decide +kernel
theorem dX5_mode_6 : decode cX5_mode 6 = .ok (.ifCond .le 13, 3) := by decide +kernel
theorem dX5_mode_9 : decode cX5_mode 9 = .ok (.aload_n 0, 1) := by decide +kernel
theorem dX5_mode_10 : decode cX5_mode 10 = .ok (.getfield 7, 3) := by decide +kernel
theorem dX5_mode_13 : decode cX5_mode 13 = .ok (.iconst 5, 1) := by decide +kernel
theorem dX5_mode_14 : decode cX5_mode 14 = .ok (.iaload, 1) := by decide +kernel
theorem dX5_mode_15 : decode cX5_mode 15 = .ok (.iload_n 1, 1) := by decide +kernel
theorem dX5_mode_16 : decode cX5_mode 16 = .ok (.if_icmp .eq 24, 3) := by decide +kernel
theorem dX5_mode_19 : decode cX5_mode 19 = .ok (.aload_n 0, 1) := by decide +kernel
theorem dX5_mode_20 : decode cX5_mode 20 = .ok (.getfield 7, 3) := by decide +kernel
theorem dX5_mode_23 : decode cX5_mode 23 = .ok (.iconst 4, 1) := by decide +kernel
theorem dX5_mode_24 : decode cX5_mode 24 = .ok (.iaload, 1) := by decide +kernel
theorem dX5_mode_25 : decode cX5_mode 25 = .ok (.iconst 1, 1) := by decide +kernel
theorem dX5_mode_26 : decode cX5_mode 26 = .ok (.if_icmp .le 18, 3) := by decide +kernel
theorem dX5_mode_29 : decode cX5_mode 29 = .ok (.aload_n 0, 1) := by decide +kernel
theorem dX5_mode_30 : decode cX5_mode 30 = .ok (.getfield 7, 3) := by decide +kernel
theorem dX5_mode_33 : decode cX5_mode 33 = .ok (.bipush 6, 2) := by decide +kernel
theorem dX5_mode_35 : decode cX5_mode 35 = .ok (.iaload, 1) := by decide +kernel
theorem dX5_mode_36 : decode cX5_mode 36 = .ok (.iload_n 1, 1) := by decide +kernel
theorem dX5_mode_37 : decode cX5_mode 37 = .ok (.if_icmp .ne 7, 3) := by decide +kernel
theorem dX5_mode_40 : decode cX5_mode 40 = .ok (.iconst 1, 1) := by decide +kernel
theorem dX5_mode_41 : decode cX5_mode 41 = .ok (.goto 4, 3) := by decide +kernel
theorem dX5_mode_44 : decode cX5_mode 44 = .ok (.iconst 0, 1) := by decide +kernel
theorem dX5_mode_45 : decode cX5_mode 45 = .ok (.istore_n 2, 1) := by decide +kernel
theorem dX5_mode_46 : decode cX5_mode 46 = .ok (.aload_n 0, 1) := by decide +kernel
theorem dX5_mode_47 : decode cX5_mode 47 = .ok (.getfield 7, 3) := by decide +kernel
theorem dX5_mode_50 : decode cX5_mode 50 = .ok (.iconst 3, 1) := by decide +kernel
theorem dX5_mode_51 : decode cX5_mode 51 = .ok (.iaload, 1) := by decide +kernel
theorem dX5_mode_52 : decode cX5_mode 52 = .ok (.iload_n 1, 1) := by decide +kernel
theorem dX5_mode_53 : decode cX5_mode 53 = .ok (.if_icmp .ne 7, 3) := by decide +kernel
theorem dX5_mode_56 : decode cX5_mode 56 = .ok (.iconst 1, 1) := by decide +kernel
theorem dX5_mode_57 : decode cX5_mode 57 = .ok (.goto 12, 3) := by decide +kernel
theorem dX5_mode_60 : decode cX5_mode 60 = .ok (.iload_n 2, 1) := by decide +kernel
theorem dX5_mode_61 : decode cX5_mode 61 = .ok (.ifCond .eq 7, 3) := by decide +kernel
theorem dX5_mode_64 : decode cX5_mode 64 = .ok (.iconst 2, 1) := by decide +kernel
theorem dX5_mode_65 : decode cX5_mode 65 = .ok (.goto 4, 3) := by decide +kernel
theorem dX5_mode_68 : decode cX5_mode 68 = .ok (.iconst 0, 1) := by decide +kernel
theorem dX5_mode_69 : decode cX5_mode 69 = .ok (.ireturn, 1) := by decide +kernel
set_option maxRecDepth 20000 in
theorem ggX5_comes_X5_isOdd : GoodIn wsX5_comes wsX5_isOdd := goodIn_r _ [6, 1, 7, 8, 9, 10, 11, 12, 13, 14, 15, 16] (by decide +kernel) (by decide +kernel)
set_option maxRecDepth 20000 in
theorem gX5_comes_X5_isOdd : GoodIn wsX5_comes (wsV RX5 37 RX5 yX5_isOdd wsX5_isOdd) := goodIn_app (goodIn_of _ (by decide +kernel)) ggX5_comes_X5_isOdd
theorem dX5_comes_0 : decode cX5_comes 0 = .ok (.aload_n 0, 1) := by decide +kernel
theorem dX5_comes_1 : decode cX5_comes 1 = .ok (.invokevirtual 37, 3) := by decide +kernel
theorem dX5_comes_4 : decode cX5_comes 4 = .ok (.ifCond .eq 34, 3) := by decide +kernel
theorem dX5_comes_7 : decode cX5_comes 7 = .ok (.aload_n 0, 1) := by decide +kernel
theorem dX5_comes_8 : decode cX5_comes 8 = .ok (.getfield 7, 3) := by decide +kernel
theorem dX5_comes_11 : decode cX5_comes 11 = .ok (.iconst 5, 1) := by decide +kernel
theorem dX5_comes_12 : decode cX5_comes 12 = .ok (.aload_n 0, 1) := by decide +kernel
theorem dX5_comes_13 : decode cX5_comes 13 = .ok (.getfield 7, 3) := by decide +kernel
theorem dX5_comes_16 : decode cX5_comes 16 = .ok (.iconst 4, 1) := by decide +kernel
theorem dX5_comes_17 : decode cX5_comes 17 = .ok (.iaload, 1) := by decide +kernel
theorem dX5_comes_18 : decode cX5_comes 18 = .ok (.iadd, 1) := by decide +kernel
theorem dX5_comes_19 : decode cX5_comes 19 = .ok (.iload_n 1, 1) := by decide +kernel
theorem dX5_comes_20 : decode cX5_comes 20 = .ok (.iastore, 1) := by decide +kernel
theorem dX5_comes_21 : decode cX5_comes 21 = .ok (.aload_n 0, 1) := by decide +kernel
theorem dX5_comes_22 : decode cX5_comes 22 = .ok (.getfield 7, 3) := by decide +kernel
theorem dX5_comes_25 : decode cX5_comes 25 = .ok (.iconst 4, 1) := by decide +kernel
theorem dX5_comes_26 : decode cX5_comes 26 = .ok (.dup2, 1) := by decide +kernel
theorem dX5_comes_27 : decode cX5_comes 27 = .ok (.iaload, 1) := by decide +kernel
theorem dX5_comes_28 : decode cX5_comes 28 = .ok (.iconst 1, 1) := by decide +kernel
theorem dX5_comes_29 : decode cX5_comes 29 = .ok (.iadd, 1) := by decide +kernel
theorem dX5_comes_30 : decode cX5_comes 30 = .ok (.iastore, 1) := by decide +kernel
theorem dX5_comes_31 : decode cX5_comes 31 = .ok (.aload_n 0, 1) := by decide +kernel
theorem dX5_comes_32 : decode cX5_comes 32 = .ok (.getfield 7, 3) := by decide +kernel
theorem dX5_comes_35 : decode cX5_comes 35 = .ok (.iconst 4, 1) := by decide +kernel
theorem dX5_comes_36 : decode cX5_comes 36 = .ok (.iaload, 1) := by decide +kernel
theorem dX5_comes_37 : decode cX5_comes 37 = .ok (.ireturn, 1) := by decide +kernel
theorem dX5_comes_38 : decode cX5_comes 38 = .ok (.aload_n 0, 1) := by decide +kernel
theorem dX5_comes_39 : decode cX5_comes 39 = .ok (.getfield 7, 3) := by decide +kernel
theorem dX5_comes_42 : decode cX5_comes 42 = .ok (.iconst 3, 1) := by decide +kernel
theorem dX5_comes_43 : decode cX5_comes 43 = .ok (.iload_n 1, 1) := by decide +kernel
theorem dX5_comes_44 : decode cX5_comes 44 = .ok (.iastore, 1) := by decide +kernel
theorem dX5_comes_45 : decode cX5_comes 45 = .ok (.aload_n 0, 1) := by decide +kernel
theorem dX5_comes_46 : decode cX5_comes 46 = .ok (.getfield 7, 3) := by decide +kernel
theorem dX5_comes_49 : decode cX5_comes 49 = .ok (.iconst 0, 1) := by decide +kernel
theorem dX5_comes_50 : decode cX5_comes 50 = .ok (.dup2, 1) := by decide +kernel
theorem dX5_comes_51 : decode cX5_comes 51 = .ok (.iaload, 1) := by decide +kernel
theorem dX5_comes_52 : decode cX5_comes 52 = .ok (.iconst 1, 1) := by decide +kernel
theorem dX5_comes_53 : decode cX5_comes 53 = .ok (.iadd, 1) := by decide +kernel
theorem dX5_comes_54 : decode cX5_comes 54 = .ok (.iastore, 1) := by decide +kernel
theorem dX5_comes_55 : decode cX5_comes 55 = .ok (.iconst 0, 1) := by decide +kernel
theorem dX5_comes_56 : decode cX5_comes 56 = .ok (.ireturn, 1) := by decide +kernel
set_option maxRecDepth 20000 in
theorem ggX5_come_X5_isClerk : GoodIn wsX5_come wsX5_isClerk := goodIn_r _ [5, 6, 7, 4, 8] (by decide +kernel) (by decide +kernel)
set_option maxRecDepth 20000 in
theorem gX5_come_X5_isClerk : GoodIn wsX5_come (va_wsS RX5 41 yX5_isClerk wsX5_isClerk) := goodIn_app (goodIn_of _ (by decide +kernel)) ggX5_come_X5_isClerk
set_option maxRecDepth 20000 in
theorem ggX5_come_X5_fails : GoodIn wsX5_come wsX5_fails := goodIn_r _ [12, 1, 32, 33, 34, 35, 36, 37, 38, 39, 40, 41] (by decide +kernel) (by decide +kernel)
set_option maxRecDepth 20000 in
theorem gX5_come_X5_fails : GoodIn wsX5_come (wsV RX5 33 RX5 yX5_fails wsX5_fails) := goodIn_app (goodIn_of _ (by decide +kernel)) ggX5_come_X5_fails
set_option maxRecDepth 20000 in
theorem ggX5_come_X5_mode : GoodIn wsX5_come wsX5_mode := goodIn_r _ [16, 17, 32, 33, 34, 35, 36, 37, 38, 39, 40, 41] (by decide +kernel) (by decide +kernel)
set_option maxRecDepth 20000 in
theorem gX5_come_X5_mode : GoodIn wsX5_come (wsV RX5 45 RX5 yX5_mode wsX5_mode) := goodIn_app (goodIn_of _ (by decide +kernel)) ggX5_come_X5_mode
set_option maxRecDepth 20000 in
theorem ggX5_come_X5_saves : GoodIn wsX5_come wsX5_saves := goodIn_r _ [21, 22, 23, 17, 32, 33, 34, 35, 36, 37, 38, 39, 40, 41] (by decide +kernel) (by decide +kernel)
set_option maxRecDepth 20000 in
theorem gX5_come_X5_saves : GoodIn wsX5_come (wsV RX5 48 RX5 yX5_saves wsX5_saves) := goodIn_app (goodIn_of _ (by decide +kernel)) ggX5_come_X5_saves
set_option maxRecDepth 20000 in
theorem ggX5_come_X5_comes : GoodIn wsX5_come wsX5_comes := goodIn_r _ [27, 17, 28, 29, 30, 4, 31, 32, 33, 34, 35, 36, 37, 38, 39, 40, 41] (by decide +kernel) (by decide +kernel)
set_option maxRecDepth 20000 in
theorem gX5_come_X5_comes : GoodIn wsX5_come (wsV RX5 51 RX5 yX5_comes wsX5_comes) := goodIn_app (goodIn_of _ (by decide +kernel)) ggX5_come_X5_comes
theorem dX5_come_0 : decode cX5_come 0 = .ok (.aload_n 0, 1) := by decide +kernel
theorem dX5_come_1 : decode cX5_come 1 = .ok (.iconst 0, 1) := by decide +kernel
theorem dX5_come_2 : decode cX5_come 2 = .ok (.putfield 22, 3) := by decide +kernel
theorem dX5_come_5 : decode cX5_come 5 = .ok (.iload_n 1, 1) := by decide +kernel
theorem dX5_come_6 : decode cX5_come 6 = .ok (.invokestatic 41, 3) := by decide +kernel
theorem dX5_come_9 : decode cX5_come 9 = .ok (.ifCond .ne 9, 3) := by decide +kernel
theorem dX5_come_12 : decode cX5_come 12 = .ok (.aload_n 0, 1) := by decide +kernel
theorem dX5_come_13 : decode cX5_come 13 = .ok (.iconst 1, 1) := by decide +kernel
theorem dX5_come_14 : decode cX5_come 14 = .ok (.invokevirtual 33, 3) := by decide +kernel
theorem dX5_come_17 : decode cX5_come 17 = .ok (.ireturn, 1) := by decide +kernel
theorem dX5_come_18 : decode cX5_come 18 = .ok (.aload_n 0, 1) := by decide +kernel
theorem dX5_come_19 : decode cX5_come 19 = .ok (.iload_n 1, 1) := by decide +kernel
theorem dX5_come_20 : decode cX5_come 20 = .ok (.invokevirtual 45, 3) := by decide +kernel
theorem dX5_come_23 : decode cX5_come 23 = .ok (.ifCond .le 9, 3) := by decide +kernel
theorem dX5_come_26 : decode cX5_come 26 = .ok (.aload_n 0, 1) := by decide +kernel
theorem dX5_come_27 : decode cX5_come 27 = .ok (.iconst 2, 1) := by decide +kernel
theorem dX5_come_28 : decode cX5_come 28 = .ok (.invokevirtual 33, 3) := by decide +kernel
theorem dX5_come_31 : decode cX5_come 31 = .ok (.ireturn, 1) := by decide +kernel
theorem dX5_come_32 : decode cX5_come 32 = .ok (.aload_n 0, 1) := by decide +kernel
theorem dX5_come_33 : decode cX5_come 33 = .ok (.invokevirtual 48, 3) := by decide +kernel
theorem dX5_come_36 : decode cX5_come 36 = .ok (.aload_n 0, 1) := by decide +kernel
theorem dX5_come_37 : decode cX5_come 37 = .ok (.iload_n 1, 1) := by decide +kernel
theorem dX5_come_38 : decode cX5_come 38 = .ok (.invokevirtual 51, 3) := by decide +kernel
theorem dX5_come_41 : decode cX5_come 41 = .ok (.ireturn, 1) := by decide +kernel
set_option maxRecDepth 20000 in
theorem ggX5_chalk_X5_isField : GoodIn wsX5_chalk wsX5_isField := goodIn_r _ [6, 7, 8, 5, 9] (by decide +kernel) (by decide +kernel)
set_option maxRecDepth 20000 in
theorem gX5_chalk_X5_isField : GoodIn wsX5_chalk (va_wsS RX5 54 yX5_isField wsX5_isField) := goodIn_app (goodIn_of _ (by decide +kernel)) ggX5_chalk_X5_isField
set_option maxRecDepth 20000 in
theorem ggX5_chalk_X5_fails : GoodIn wsX5_chalk wsX5_fails := goodIn_r _ [13, 1, 20, 21, 22, 23, 24, 25, 26, 27, 28, 29] (by decide +kernel) (by decide +kernel)
set_option maxRecDepth 20000 in
theorem gX5_chalk_X5_fails : GoodIn wsX5_chalk (wsV RX5 33 RX5 yX5_fails wsX5_fails) := goodIn_app (goodIn_of _ (by decide +kernel)) ggX5_chalk_X5_fails
set_option maxRecDepth 20000 in
theorem ggX5_chalk_X5_in : GoodIn wsX5_chalk wsX5_in := goodIn_r _ [9] (by decide +kernel) (by decide +kernel)
set_option maxRecDepth 20000 in
theorem gX5_chalk_X5_in : GoodIn wsX5_chalk (va_wsS RX5 26 yX5_in wsX5_in) := goodIn_app (goodIn_of _ (by decide +kernel)) ggX5_chalk_X5_in
set_option maxRecDepth 20000 in
theorem ggX5_chalk_X5_saves : GoodIn wsX5_chalk wsX5_saves := goodIn_r _ [17, 18, 19, 2, 20, 21, 22, 23, 24, 25, 26, 27, 28, 29] (by decide +kernel) (by decide +kernel)
set_option maxRecDepth 20000 in
theorem gX5_chalk_X5_saves : GoodIn wsX5_chalk (wsV RX5 48 RX5 yX5_saves wsX5_saves) := goodIn_app (goodIn_of _ (by decide +kernel)) ggX5_chalk_X5_saves
theorem dX5_chalk_0 : decode cX5_chalk 0 = .ok (.aload_n 0, 1) := by decide +kernel
theorem dX5_chalk_1 : decode cX5_chalk 1 = .ok (.iconst 0, 1) := by decide +kernel
theorem dX5_chalk_2 : decode cX5_chalk 2 = .ok (.putfield 22, 3) := by decide +kernel
theorem dX5_chalk_5 : decode cX5_chalk 5 = .ok (.iload_n 1, 1) := by decide +kernel
theorem dX5_chalk_6 : decode cX5_chalk 6 = .ok (.invokestatic 54, 3) := by decide +kernel
theorem dX5_chalk_9 : decode cX5_chalk 9 = .ok (.ifCond .ne 9, 3) := by decide +kernel
theorem dX5_chalk_12 : decode cX5_chalk 12 = .ok (.aload_n 0, 1) := by decide +kernel
theorem dX5_chalk_13 : decode cX5_chalk 13 = .ok (.iconst 1, 1) := by decide +kernel
theorem dX5_chalk_14 : decode cX5_chalk 14 = .ok (.invokevirtual 33, 3) := by decide +kernel
theorem dX5_chalk_17 : decode cX5_chalk 17 = .ok (.ireturn, 1) := by decide +kernel
theorem dX5_chalk_18 : decode cX5_chalk 18 = .ok (.iload_n 2, 1) := by decide +kernel
theorem dX5_chalk_19 : decode cX5_chalk 19 = .ok (.iconst 0, 1) := by decide +kernel
theorem dX5_chalk_20 : decode cX5_chalk 20 = .ok (.bipush 99, 2) := by decide +kernel
theorem dX5_chalk_22 : decode cX5_chalk 22 = .ok (.invokestatic 26, 3) := by decide +kernel
theorem dX5_chalk_25 : decode cX5_chalk 25 = .ok (.ifCond .ne 9, 3) := by decide +kernel
theorem dX5_chalk_28 : decode cX5_chalk 28 = .ok (.aload_n 0, 1) := by decide +kernel
theorem dX5_chalk_29 : decode cX5_chalk 29 = .ok (.iconst 2, 1) := by decide +kernel
theorem dX5_chalk_30 : decode cX5_chalk 30 = .ok (.invokevirtual 33, 3) := by decide +kernel
theorem dX5_chalk_33 : decode cX5_chalk 33 = .ok (.ireturn, 1) := by decide +kernel
theorem dX5_chalk_34 : decode cX5_chalk 34 = .ok (.aload_n 0, 1) := by decide +kernel
theorem dX5_chalk_35 : decode cX5_chalk 35 = .ok (.getfield 7, 3) := by decide +kernel
theorem dX5_chalk_38 : decode cX5_chalk 38 = .ok (.iconst 3, 1) := by decide +kernel
theorem dX5_chalk_39 : decode cX5_chalk 39 = .ok (.iaload, 1) := by decide +kernel
theorem dX5_chalk_40 : decode cX5_chalk 40 = .ok (.iconst (-1), 1) := by decide +kernel
theorem dX5_chalk_41 : decode cX5_chalk 41 = .ok (.if_icmp .ne 9, 3) := by decide +kernel
theorem dX5_chalk_44 : decode cX5_chalk 44 = .ok (.aload_n 0, 1) := by decide +kernel
theorem dX5_chalk_45 : decode cX5_chalk 45 = .ok (.iconst 3, 1) := by decide +kernel
theorem dX5_chalk_46 : decode cX5_chalk 46 = .ok (.invokevirtual 33, 3) := by decide +kernel
theorem dX5_chalk_49 : decode cX5_chalk 49 = .ok (.ireturn, 1) := by decide +kernel
theorem dX5_chalk_50 : decode cX5_chalk 50 = .ok (.aload_n 0, 1) := by decide +kernel
theorem dX5_chalk_51 : decode cX5_chalk 51 = .ok (.invokevirtual 48, 3) := by decide +kernel
theorem dX5_chalk_54 : decode cX5_chalk 54 = .ok (.aload_n 0, 1) := by decide +kernel
theorem dX5_chalk_55 : decode cX5_chalk 55 = .ok (.getfield 7, 3) := by decide +kernel
theorem dX5_chalk_58 : decode cX5_chalk 58 = .ok (.bipush 7, 2) := by decide +kernel
theorem dX5_chalk_60 : decode cX5_chalk 60 = .ok (.iload_n 1, 1) := by decide +kernel
theorem dX5_chalk_61 : decode cX5_chalk 61 = .ok (.iadd, 1) := by decide +kernel
theorem dX5_chalk_62 : decode cX5_chalk 62 = .ok (.iaload, 1) := by decide +kernel
theorem dX5_chalk_63 : decode cX5_chalk 63 = .ok (.istore_n 3, 1) := by decide +kernel
theorem dX5_chalk_64 : decode cX5_chalk 64 = .ok (.aload_n 0, 1) := by decide +kernel
theorem dX5_chalk_65 : decode cX5_chalk 65 = .ok (.getfield 7, 3) := by decide +kernel
theorem dX5_chalk_68 : decode cX5_chalk 68 = .ok (.bipush 7, 2) := by decide +kernel
theorem dX5_chalk_70 : decode cX5_chalk 70 = .ok (.iload_n 1, 1) := by decide +kernel
theorem dX5_chalk_71 : decode cX5_chalk 71 = .ok (.iadd, 1) := by decide +kernel
theorem dX5_chalk_72 : decode cX5_chalk 72 = .ok (.iload_n 2, 1) := by decide +kernel
theorem dX5_chalk_73 : decode cX5_chalk 73 = .ok (.iastore, 1) := by decide +kernel
theorem dX5_chalk_74 : decode cX5_chalk 74 = .ok (.iload_n 3, 1) := by decide +kernel
theorem dX5_chalk_75 : decode cX5_chalk 75 = .ok (.ireturn, 1) := by decide +kernel
theorem dX5_ends_0 : decode cX5_ends 0 = .ok (.aload_n 0, 1) := by decide +kernel
theorem dX5_ends_1 : decode cX5_ends 1 = .ok (.getfield 7, 3) := by decide +kernel
theorem dX5_ends_4 : decode cX5_ends 4 = .ok (.iconst 0, 1) := by decide +kernel
theorem dX5_ends_5 : decode cX5_ends 5 = .ok (.dup2, 1) := by decide +kernel
theorem dX5_ends_6 : decode cX5_ends 6 = .ok (.iaload, 1) := by decide +kernel
theorem dX5_ends_7 : decode cX5_ends 7 = .ok (.iconst 1, 1) := by decide +kernel
theorem dX5_ends_8 : decode cX5_ends 8 = .ok (.iadd, 1) := by decide +kernel
theorem dX5_ends_9 : decode cX5_ends 9 = .ok (.iastore, 1) := by decide +kernel
theorem dX5_ends_10 : decode cX5_ends 10 = .ok (.aload_n 0, 1) := by decide +kernel
theorem dX5_ends_11 : decode cX5_ends 11 = .ok (.getfield 7, 3) := by decide +kernel
theorem dX5_ends_14 : decode cX5_ends 14 = .ok (.iconst 0, 1) := by decide +kernel
theorem dX5_ends_15 : decode cX5_ends 15 = .ok (.iaload, 1) := by decide +kernel
theorem dX5_ends_16 : decode cX5_ends 16 = .ok (.iconst 2, 1) := by decide +kernel
theorem dX5_ends_17 : decode cX5_ends 17 = .ok (.idiv, 1) := by decide +kernel
theorem dX5_ends_18 : decode cX5_ends 18 = .ok (.istore_n 2, 1) := by decide +kernel
theorem dX5_ends_19 : decode cX5_ends 19 = .ok (.iconst 0, 1) := by decide +kernel
theorem dX5_ends_20 : decode cX5_ends 20 = .ok (.istore_n 3, 1) := by decide +kernel
theorem dX5_ends_21 : decode cX5_ends 21 = .ok (.iload_n 3, 1) := by decide +kernel
theorem dX5_ends_22 : decode cX5_ends 22 = .ok (.iconst 5, 1) := by decide +kernel
theorem dX5_ends_23 : decode cX5_ends 23 = .ok (.if_icmp .ge 34, 3) := by decide +kernel
theorem dX5_ends_26 : decode cX5_ends 26 = .ok (.aload_n 0, 1) := by decide +kernel
theorem dX5_ends_27 : decode cX5_ends 27 = .ok (.getfield 7, 3) := by decide +kernel
theorem dX5_ends_30 : decode cX5_ends 30 = .ok (.bipush 83, 2) := by decide +kernel
theorem dX5_ends_32 : decode cX5_ends 32 = .ok (.iconst 5, 1) := by decide +kernel
theorem dX5_ends_33 : decode cX5_ends 33 = .ok (.iload_n 2, 1) := by decide +kernel
theorem dX5_ends_34 : decode cX5_ends 34 = .ok (.bipush 16, 2) := by decide +kernel
theorem dX5_ends_36 : decode cX5_ends 36 = .ok (.irem, 1) := by decide +kernel
theorem dX5_ends_37 : decode cX5_ends 37 = .ok (.imul, 1) := by decide +kernel
theorem dX5_ends_38 : decode cX5_ends 38 = .ok (.iadd, 1) := by decide +kernel
theorem dX5_ends_39 : decode cX5_ends 39 = .ok (.iload_n 3, 1) := by decide +kernel
theorem dX5_ends_40 : decode cX5_ends 40 = .ok (.iadd, 1) := by decide +kernel
theorem dX5_ends_41 : decode cX5_ends 41 = .ok (.aload_n 0, 1) := by decide +kernel
theorem dX5_ends_42 : decode cX5_ends 42 = .ok (.getfield 7, 3) := by decide +kernel
theorem dX5_ends_45 : decode cX5_ends 45 = .ok (.bipush 7, 2) := by decide +kernel
theorem dX5_ends_47 : decode cX5_ends 47 = .ok (.iload_n 3, 1) := by decide +kernel
theorem dX5_ends_48 : decode cX5_ends 48 = .ok (.iadd, 1) := by decide +kernel
theorem dX5_ends_49 : decode cX5_ends 49 = .ok (.iaload, 1) := by decide +kernel
theorem dX5_ends_50 : decode cX5_ends 50 = .ok (.iastore, 1) := by decide +kernel
theorem dX5_ends_51 : decode cX5_ends 51 = .ok (.iinc 3 1, 3) := by decide +kernel
theorem dX5_ends_54 : decode cX5_ends 54 = .ok (.goto (-33), 3) := by decide +kernel
theorem dX5_ends_57 : decode cX5_ends 57 = .ok (.aload_n 0, 1) := by decide +kernel
theorem dX5_ends_58 : decode cX5_ends 58 = .ok (.getfield 7, 3) := by decide +kernel
theorem dX5_ends_61 : decode cX5_ends 61 = .ok (.bipush 12, 2) := by decide +kernel
theorem dX5_ends_63 : decode cX5_ends 63 = .ok (.iload_n 1, 1) := by decide +kernel
theorem dX5_ends_64 : decode cX5_ends 64 = .ok (.iadd, 1) := by decide +kernel
theorem dX5_ends_65 : decode cX5_ends 65 = .ok (.dup2, 1) := by decide +kernel
theorem dX5_ends_66 : decode cX5_ends 66 = .ok (.iaload, 1) := by decide +kernel
theorem dX5_ends_67 : decode cX5_ends 67 = .ok (.iconst 1, 1) := by decide +kernel
theorem dX5_ends_68 : decode cX5_ends 68 = .ok (.iadd, 1) := by decide +kernel
theorem dX5_ends_69 : decode cX5_ends 69 = .ok (.iastore, 1) := by decide +kernel
theorem dX5_ends_70 : decode cX5_ends 70 = .ok (.aload_n 0, 1) := by decide +kernel
theorem dX5_ends_71 : decode cX5_ends 71 = .ok (.getfield 7, 3) := by decide +kernel
theorem dX5_ends_74 : decode cX5_ends 74 = .ok (.iconst 3, 1) := by decide +kernel
theorem dX5_ends_75 : decode cX5_ends 75 = .ok (.iconst (-1), 1) := by decide +kernel
theorem dX5_ends_76 : decode cX5_ends 76 = .ok (.iastore, 1) := by decide +kernel
theorem dX5_ends_77 : decode cX5_ends 77 = .ok (.aload_n 0, 1) := by decide +kernel
theorem dX5_ends_78 : decode cX5_ends 78 = .ok (.getfield 7, 3) := by decide +kernel
theorem dX5_ends_81 : decode cX5_ends 81 = .ok (.iconst 4, 1) := by decide +kernel
theorem dX5_ends_82 : decode cX5_ends 82 = .ok (.iaload, 1) := by decide +kernel
theorem dX5_ends_83 : decode cX5_ends 83 = .ok (.ifCond .le 48, 3) := by decide +kernel
theorem dX5_ends_86 : decode cX5_ends 86 = .ok (.aload_n 0, 1) := by decide +kernel
theorem dX5_ends_87 : decode cX5_ends 87 = .ok (.getfield 7, 3) := by decide +kernel
theorem dX5_ends_90 : decode cX5_ends 90 = .ok (.iconst 3, 1) := by decide +kernel
theorem dX5_ends_91 : decode cX5_ends 91 = .ok (.aload_n 0, 1) := by decide +kernel
theorem dX5_ends_92 : decode cX5_ends 92 = .ok (.getfield 7, 3) := by decide +kernel
theorem dX5_ends_95 : decode cX5_ends 95 = .ok (.iconst 5, 1) := by decide +kernel
theorem dX5_ends_96 : decode cX5_ends 96 = .ok (.iaload, 1) := by decide +kernel
theorem dX5_ends_97 : decode cX5_ends 97 = .ok (.iastore, 1) := by decide +kernel
theorem dX5_ends_98 : decode cX5_ends 98 = .ok (.aload_n 0, 1) := by decide +kernel
theorem dX5_ends_99 : decode cX5_ends 99 = .ok (.getfield 7, 3) := by decide +kernel
theorem dX5_ends_102 : decode cX5_ends 102 = .ok (.iconst 5, 1) := by decide +kernel
theorem dX5_ends_103 : decode cX5_ends 103 = .ok (.aload_n 0, 1) := by decide +kernel
theorem dX5_ends_104 : decode cX5_ends 104 = .ok (.getfield 7, 3) := by decide +kernel
theorem dX5_ends_107 : decode cX5_ends 107 = .ok (.bipush 6, 2) := by decide +kernel
theorem dX5_ends_109 : decode cX5_ends 109 = .ok (.iaload, 1) := by decide +kernel
theorem dX5_ends_110 : decode cX5_ends 110 = .ok (.iastore, 1) := by decide +kernel
theorem dX5_ends_111 : decode cX5_ends 111 = .ok (.aload_n 0, 1) := by decide +kernel
theorem dX5_ends_112 : decode cX5_ends 112 = .ok (.getfield 7, 3) := by decide +kernel
theorem dX5_ends_115 : decode cX5_ends 115 = .ok (.iconst 4, 1) := by decide +kernel
theorem dX5_ends_116 : decode cX5_ends 116 = .ok (.dup2, 1) := by decide +kernel
theorem dX5_ends_117 : decode cX5_ends 117 = .ok (.iaload, 1) := by decide +kernel
theorem dX5_ends_118 : decode cX5_ends 118 = .ok (.iconst 1, 1) := by decide +kernel
theorem dX5_ends_119 : decode cX5_ends 119 = .ok (.isub, 1) := by decide +kernel
theorem dX5_ends_120 : decode cX5_ends 120 = .ok (.iastore, 1) := by decide +kernel
theorem dX5_ends_121 : decode cX5_ends 121 = .ok (.aload_n 0, 1) := by decide +kernel
theorem dX5_ends_122 : decode cX5_ends 122 = .ok (.getfield 7, 3) := by decide +kernel
theorem dX5_ends_125 : decode cX5_ends 125 = .ok (.iconst 0, 1) := by decide +kernel
theorem dX5_ends_126 : decode cX5_ends 126 = .ok (.dup2, 1) := by decide +kernel
theorem dX5_ends_127 : decode cX5_ends 127 = .ok (.iaload, 1) := by decide +kernel
theorem dX5_ends_128 : decode cX5_ends 128 = .ok (.iconst 1, 1) := by decide +kernel
theorem dX5_ends_129 : decode cX5_ends 129 = .ok (.iadd, 1) := by decide +kernel
theorem dX5_ends_130 : decode cX5_ends 130 = .ok (.iastore, 1) := by decide +kernel
theorem dX5_ends_131 : decode cX5_ends 131 = .ok (.iload_n 2, 1) := by decide +kernel
theorem dX5_ends_132 : decode cX5_ends 132 = .ok (.ireturn, 1) := by decide +kernel
set_option maxRecDepth 20000 in
theorem ggX5_done_X5_isClerk : GoodIn wsX5_done wsX5_isClerk := goodIn_r _ [5, 6, 7, 4, 8] (by decide +kernel) (by decide +kernel)
set_option maxRecDepth 20000 in
theorem gX5_done_X5_isClerk : GoodIn wsX5_done (va_wsS RX5 41 yX5_isClerk wsX5_isClerk) := goodIn_app (goodIn_of _ (by decide +kernel)) ggX5_done_X5_isClerk
set_option maxRecDepth 20000 in
theorem ggX5_done_X5_fails : GoodIn wsX5_done wsX5_fails := goodIn_r _ [12, 1, 28, 29, 30, 31, 32, 33, 34, 35, 36, 37] (by decide +kernel) (by decide +kernel)
set_option maxRecDepth 20000 in
theorem gX5_done_X5_fails : GoodIn wsX5_done (wsV RX5 33 RX5 yX5_fails wsX5_fails) := goodIn_app (goodIn_of _ (by decide +kernel)) ggX5_done_X5_fails
set_option maxRecDepth 20000 in
theorem ggX5_done_X5_mode : GoodIn wsX5_done wsX5_mode := goodIn_r _ [16, 17, 28, 29, 30, 31, 32, 33, 34, 35, 36, 37] (by decide +kernel) (by decide +kernel)
set_option maxRecDepth 20000 in
theorem gX5_done_X5_mode : GoodIn wsX5_done (wsV RX5 45 RX5 yX5_mode wsX5_mode) := goodIn_app (goodIn_of _ (by decide +kernel)) ggX5_done_X5_mode
set_option maxRecDepth 20000 in
theorem ggX5_done_X5_saves : GoodIn wsX5_done wsX5_saves := goodIn_r _ [21, 22, 23, 17, 28, 29, 30, 31, 32, 33, 34, 35, 36, 37] (by decide +kernel) (by decide +kernel)
set_option maxRecDepth 20000 in
theorem gX5_done_X5_saves : GoodIn wsX5_done (wsV RX5 48 RX5 yX5_saves wsX5_saves) := goodIn_app (goodIn_of _ (by decide +kernel)) ggX5_done_X5_saves
set_option maxRecDepth 20000 in
theorem ggX5_done_X5_ends : GoodIn wsX5_done wsX5_ends := goodIn_r _ [27, 17, 28, 29, 30, 31, 32, 33, 34, 35, 36, 37] (by decide +kernel) (by decide +kernel)
set_option maxRecDepth 20000 in
theorem gX5_done_X5_ends : GoodIn wsX5_done (wsV RX5 57 RX5 yX5_ends wsX5_ends) := goodIn_app (goodIn_of _ (by decide +kernel)) ggX5_done_X5_ends
theorem dX5_done_0 : decode cX5_done 0 = .ok (.aload_n 0, 1) := by decide +kernel
theorem dX5_done_1 : decode cX5_done 1 = .ok (.iconst 0, 1) := by decide +kernel
theorem dX5_done_2 : decode cX5_done 2 = .ok (.putfield 22, 3) := by decide +kernel
theorem dX5_done_5 : decode cX5_done 5 = .ok (.iload_n 1, 1) := by decide +kernel
theorem dX5_done_6 : decode cX5_done 6 = .ok (.invokestatic 41, 3) := by decide +kernel
theorem dX5_done_9 : decode cX5_done 9 = .ok (.ifCond .ne 9, 3) := by decide +kernel
theorem dX5_done_12 : decode cX5_done 12 = .ok (.aload_n 0, 1) := by decide +kernel
theorem dX5_done_13 : decode cX5_done 13 = .ok (.iconst 1, 1) := by decide +kernel
theorem dX5_done_14 : decode cX5_done 14 = .ok (.invokevirtual 33, 3) := by decide +kernel
theorem dX5_done_17 : decode cX5_done 17 = .ok (.ireturn, 1) := by decide +kernel
theorem dX5_done_18 : decode cX5_done 18 = .ok (.aload_n 0, 1) := by decide +kernel
theorem dX5_done_19 : decode cX5_done 19 = .ok (.iload_n 1, 1) := by decide +kernel
theorem dX5_done_20 : decode cX5_done 20 = .ok (.invokevirtual 45, 3) := by decide +kernel
theorem dX5_done_23 : decode cX5_done 23 = .ok (.iconst 1, 1) := by decide +kernel
theorem dX5_done_24 : decode cX5_done 24 = .ok (.if_icmp .eq 9, 3) := by decide +kernel
theorem dX5_done_27 : decode cX5_done 27 = .ok (.aload_n 0, 1) := by decide +kernel
theorem dX5_done_28 : decode cX5_done 28 = .ok (.iconst 2, 1) := by decide +kernel
theorem dX5_done_29 : decode cX5_done 29 = .ok (.invokevirtual 33, 3) := by decide +kernel
theorem dX5_done_32 : decode cX5_done 32 = .ok (.ireturn, 1) := by decide +kernel
theorem dX5_done_33 : decode cX5_done 33 = .ok (.aload_n 0, 1) := by decide +kernel
theorem dX5_done_34 : decode cX5_done 34 = .ok (.invokevirtual 48, 3) := by decide +kernel
theorem dX5_done_37 : decode cX5_done 37 = .ok (.aload_n 0, 1) := by decide +kernel
theorem dX5_done_38 : decode cX5_done 38 = .ok (.iload_n 1, 1) := by decide +kernel
theorem dX5_done_39 : decode cX5_done 39 = .ok (.invokevirtual 57, 3) := by decide +kernel
theorem dX5_done_42 : decode cX5_done 42 = .ok (.ireturn, 1) := by decide +kernel
set_option maxRecDepth 20000 in
theorem ggX5_reader_X5_isReader : GoodIn wsX5_reader wsX5_isReader := goodIn_r _ [6, 7, 8, 5, 9] (by decide +kernel) (by decide +kernel)
set_option maxRecDepth 20000 in
theorem gX5_reader_X5_isReader : GoodIn wsX5_reader (va_wsS RX5 60 yX5_isReader wsX5_isReader) := goodIn_app (goodIn_of _ (by decide +kernel)) ggX5_reader_X5_isReader
set_option maxRecDepth 20000 in
theorem ggX5_reader_X5_fails : GoodIn wsX5_reader wsX5_fails := goodIn_r _ [13, 1, 20, 21, 22, 23, 24, 25, 26, 27, 28, 29] (by decide +kernel) (by decide +kernel)
set_option maxRecDepth 20000 in
theorem gX5_reader_X5_fails : GoodIn wsX5_reader (wsV RX5 33 RX5 yX5_fails wsX5_fails) := goodIn_app (goodIn_of _ (by decide +kernel)) ggX5_reader_X5_fails
set_option maxRecDepth 20000 in
theorem ggX5_reader_X5_saves : GoodIn wsX5_reader wsX5_saves := goodIn_r _ [17, 18, 19, 2, 20, 21, 22, 23, 24, 25, 26, 27, 28, 29] (by decide +kernel) (by decide +kernel)
set_option maxRecDepth 20000 in
theorem gX5_reader_X5_saves : GoodIn wsX5_reader (wsV RX5 48 RX5 yX5_saves wsX5_saves) := goodIn_app (goodIn_of _ (by decide +kernel)) ggX5_reader_X5_saves
theorem dX5_reader_0 : decode cX5_reader 0 = .ok (.aload_n 0, 1) := by decide +kernel
theorem dX5_reader_1 : decode cX5_reader 1 = .ok (.iconst 0, 1) := by decide +kernel
theorem dX5_reader_2 : decode cX5_reader 2 = .ok (.putfield 22, 3) := by decide +kernel
theorem dX5_reader_5 : decode cX5_reader 5 = .ok (.iload_n 1, 1) := by decide +kernel
theorem dX5_reader_6 : decode cX5_reader 6 = .ok (.invokestatic 60, 3) := by decide +kernel
theorem dX5_reader_9 : decode cX5_reader 9 = .ok (.ifCond .ne 9, 3) := by decide +kernel
theorem dX5_reader_12 : decode cX5_reader 12 = .ok (.aload_n 0, 1) := by decide +kernel
theorem dX5_reader_13 : decode cX5_reader 13 = .ok (.iconst 1, 1) := by decide +kernel
theorem dX5_reader_14 : decode cX5_reader 14 = .ok (.invokevirtual 33, 3) := by decide +kernel
theorem dX5_reader_17 : decode cX5_reader 17 = .ok (.ireturn, 1) := by decide +kernel
theorem dX5_reader_18 : decode cX5_reader 18 = .ok (.aload_n 0, 1) := by decide +kernel
theorem dX5_reader_19 : decode cX5_reader 19 = .ok (.invokevirtual 48, 3) := by decide +kernel
theorem dX5_reader_22 : decode cX5_reader 22 = .ok (.bipush 15, 2) := by decide +kernel
theorem dX5_reader_24 : decode cX5_reader 24 = .ok (.bipush 17, 2) := by decide +kernel
theorem dX5_reader_26 : decode cX5_reader 26 = .ok (.iload_n 1, 1) := by decide +kernel
theorem dX5_reader_27 : decode cX5_reader 27 = .ok (.imul, 1) := by decide +kernel
theorem dX5_reader_28 : decode cX5_reader 28 = .ok (.iadd, 1) := by decide +kernel
theorem dX5_reader_29 : decode cX5_reader 29 = .ok (.istore_n 3, 1) := by decide +kernel
theorem dX5_reader_30 : decode cX5_reader 30 = .ok (.aload_n 0, 1) := by decide +kernel
theorem dX5_reader_31 : decode cX5_reader 31 = .ok (.getfield 7, 3) := by decide +kernel
theorem dX5_reader_34 : decode cX5_reader 34 = .ok (.iload_n 3, 1) := by decide +kernel
theorem dX5_reader_35 : decode cX5_reader 35 = .ok (.iaload, 1) := by decide +kernel
theorem dX5_reader_36 : decode cX5_reader 36 = .ok (.istore 4, 2) := by decide +kernel
theorem dX5_reader_38 : decode cX5_reader 38 = .ok (.aload_n 0, 1) := by decide +kernel
theorem dX5_reader_39 : decode cX5_reader 39 = .ok (.getfield 7, 3) := by decide +kernel
theorem dX5_reader_42 : decode cX5_reader 42 = .ok (.iload_n 3, 1) := by decide +kernel
theorem dX5_reader_43 : decode cX5_reader 43 = .ok (.iload_n 2, 1) := by decide +kernel
theorem dX5_reader_44 : decode cX5_reader 44 = .ok (.ifCond .eq 7, 3) := by decide +kernel
theorem dX5_reader_47 : decode cX5_reader 47 = .ok (.iconst 1, 1) := by decide +kernel
theorem dX5_reader_48 : decode cX5_reader 48 = .ok (.goto 4, 3) := by decide +kernel
theorem dX5_reader_51 : decode cX5_reader 51 = .ok (.iconst 0, 1) := by decide +kernel
theorem dX5_reader_52 : decode cX5_reader 52 = .ok (.iastore, 1) := by decide +kernel
theorem dX5_reader_53 : decode cX5_reader 53 = .ok (.aload_n 0, 1) := by decide +kernel
theorem dX5_reader_54 : decode cX5_reader 54 = .ok (.getfield 7, 3) := by decide +kernel
theorem dX5_reader_57 : decode cX5_reader 57 = .ok (.iload_n 3, 1) := by decide +kernel
theorem dX5_reader_58 : decode cX5_reader 58 = .ok (.iconst 1, 1) := by decide +kernel
theorem dX5_reader_59 : decode cX5_reader 59 = .ok (.iadd, 1) := by decide +kernel
theorem dX5_reader_60 : decode cX5_reader 60 = .ok (.iconst (-1), 1) := by decide +kernel
theorem dX5_reader_61 : decode cX5_reader 61 = .ok (.iastore, 1) := by decide +kernel
theorem dX5_reader_62 : decode cX5_reader 62 = .ok (.aload_n 0, 1) := by decide +kernel
theorem dX5_reader_63 : decode cX5_reader 63 = .ok (.getfield 7, 3) := by decide +kernel
theorem dX5_reader_66 : decode cX5_reader 66 = .ok (.iload_n 3, 1) := by decide +kernel
theorem dX5_reader_67 : decode cX5_reader 67 = .ok (.iconst 2, 1) := by decide +kernel
theorem dX5_reader_68 : decode cX5_reader 68 = .ok (.iadd, 1) := by decide +kernel
theorem dX5_reader_69 : decode cX5_reader 69 = .ok (.iconst 0, 1) := by decide +kernel
theorem dX5_reader_70 : decode cX5_reader 70 = .ok (.iastore, 1) := by decide +kernel
theorem dX5_reader_71 : decode cX5_reader 71 = .ok (.aload_n 0, 1) := by decide +kernel
theorem dX5_reader_72 : decode cX5_reader 72 = .ok (.getfield 7, 3) := by decide +kernel
theorem dX5_reader_75 : decode cX5_reader 75 = .ok (.iload_n 3, 1) := by decide +kernel
theorem dX5_reader_76 : decode cX5_reader 76 = .ok (.iconst 3, 1) := by decide +kernel
theorem dX5_reader_77 : decode cX5_reader 77 = .ok (.iadd, 1) := by decide +kernel
theorem dX5_reader_78 : decode cX5_reader 78 = .ok (.iconst 0, 1) := by decide +kernel
theorem dX5_reader_79 : decode cX5_reader 79 = .ok (.iastore, 1) := by decide +kernel
theorem dX5_reader_80 : decode cX5_reader 80 = .ok (.aload_n 0, 1) := by decide +kernel
theorem dX5_reader_81 : decode cX5_reader 81 = .ok (.getfield 7, 3) := by decide +kernel
theorem dX5_reader_84 : decode cX5_reader 84 = .ok (.iload_n 3, 1) := by decide +kernel
theorem dX5_reader_85 : decode cX5_reader 85 = .ok (.bipush 6, 2) := by decide +kernel
theorem dX5_reader_87 : decode cX5_reader 87 = .ok (.iadd, 1) := by decide +kernel
theorem dX5_reader_88 : decode cX5_reader 88 = .ok (.iconst 0, 1) := by decide +kernel
theorem dX5_reader_89 : decode cX5_reader 89 = .ok (.iastore, 1) := by decide +kernel
theorem dX5_reader_90 : decode cX5_reader 90 = .ok (.iload 4, 2) := by decide +kernel
theorem dX5_reader_92 : decode cX5_reader 92 = .ok (.ireturn, 1) := by decide +kernel
set_option maxRecDepth 20000 in
theorem ggX5_ofReading_X5_of : GoodIn wsX5_ofReading wsX5_of := goodIn_r _ [6, 1, 7, 8, 9, 10, 11, 12, 13, 14, 15, 16] (by decide +kernel) (by decide +kernel)
set_option maxRecDepth 20000 in
theorem gX5_ofReading_X5_of : GoodIn wsX5_ofReading (wsV RX5 63 RX5 yX5_of wsX5_of) := goodIn_app (goodIn_of _ (by decide +kernel)) ggX5_ofReading_X5_of
theorem dX5_ofReading_0 : decode cX5_ofReading 0 = .ok (.aload_n 0, 1) := by decide +kernel
theorem dX5_ofReading_1 : decode cX5_ofReading 1 = .ok (.iload_n 1, 1) := by decide +kernel
theorem dX5_ofReading_2 : decode cX5_ofReading 2 = .ok (.iconst 1, 1) := by decide +kernel
theorem dX5_ofReading_3 : decode cX5_ofReading 3 = .ok (.invokevirtual 63, 3) := by decide +kernel
theorem dX5_ofReading_6 : decode cX5_ofReading 6 = .ok (.iconst (-1), 1) := by decide +kernel
theorem dX5_ofReading_7 : decode cX5_ofReading 7 = .ok (.if_icmp .eq 7, 3) := by decide +kernel
theorem dX5_ofReading_10 : decode cX5_ofReading 10 = .ok (.iconst 1, 1) := by decide +kernel
theorem dX5_ofReading_11 : decode cX5_ofReading 11 = .ok (.goto 33, 3) := by decide +kernel
theorem dX5_ofReading_14 : decode cX5_ofReading 14 = .ok (.aload_n 0, 1) := by decide +kernel
theorem dX5_ofReading_15 : decode cX5_ofReading 15 = .ok (.iload_n 1, 1) := by decide +kernel
theorem dX5_ofReading_16 : decode cX5_ofReading 16 = .ok (.iconst 0, 1) := by decide +kernel
theorem dX5_ofReading_17 : decode cX5_ofReading 17 = .ok (.invokevirtual 63, 3) := by decide +kernel
theorem dX5_ofReading_20 : decode cX5_ofReading 20 = .ok (.iconst 1, 1) := by decide +kernel
theorem dX5_ofReading_21 : decode cX5_ofReading 21 = .ok (.if_icmp .ne 22, 3) := by decide +kernel
theorem dX5_ofReading_24 : decode cX5_ofReading 24 = .ok (.aload_n 0, 1) := by decide +kernel
theorem dX5_ofReading_25 : decode cX5_ofReading 25 = .ok (.iload_n 1, 1) := by decide +kernel
theorem dX5_ofReading_26 : decode cX5_ofReading 26 = .ok (.iconst 3, 1) := by decide +kernel
theorem dX5_ofReading_27 : decode cX5_ofReading 27 = .ok (.invokevirtual 63, 3) := by decide +kernel
theorem dX5_ofReading_30 : decode cX5_ofReading 30 = .ok (.aload_n 0, 1) := by decide +kernel
theorem dX5_ofReading_31 : decode cX5_ofReading 31 = .ok (.getfield 7, 3) := by decide +kernel
theorem dX5_ofReading_34 : decode cX5_ofReading 34 = .ok (.iconst 1, 1) := by decide +kernel
theorem dX5_ofReading_35 : decode cX5_ofReading 35 = .ok (.iaload, 1) := by decide +kernel
theorem dX5_ofReading_36 : decode cX5_ofReading 36 = .ok (.if_icmp .lt 7, 3) := by decide +kernel
theorem dX5_ofReading_39 : decode cX5_ofReading 39 = .ok (.iconst 2, 1) := by decide +kernel
theorem dX5_ofReading_40 : decode cX5_ofReading 40 = .ok (.goto 4, 3) := by decide +kernel
theorem dX5_ofReading_43 : decode cX5_ofReading 43 = .ok (.iconst 0, 1) := by decide +kernel
theorem dX5_ofReading_44 : decode cX5_ofReading 44 = .ok (.ireturn, 1) := by decide +kernel
theorem dX5_failsTry_0 : decode cX5_failsTry 0 = .ok (.aload_n 0, 1) := by decide +kernel
theorem dX5_failsTry_1 : decode cX5_failsTry 1 = .ok (.getfield 7, 3) := by decide +kernel
theorem dX5_failsTry_4 : decode cX5_failsTry 4 = .ok (.bipush 15, 2) := by decide +kernel
theorem dX5_failsTry_6 : decode cX5_failsTry 6 = .ok (.bipush 17, 2) := by decide +kernel
theorem dX5_failsTry_8 : decode cX5_failsTry 8 = .ok (.iload_n 1, 1) := by decide +kernel
theorem dX5_failsTry_9 : decode cX5_failsTry 9 = .ok (.imul, 1) := by decide +kernel
theorem dX5_failsTry_10 : decode cX5_failsTry 10 = .ok (.iadd, 1) := by decide +kernel
theorem dX5_failsTry_11 : decode cX5_failsTry 11 = .ok (.iconst 1, 1) := by decide +kernel
theorem dX5_failsTry_12 : decode cX5_failsTry 12 = .ok (.iadd, 1) := by decide +kernel
theorem dX5_failsTry_13 : decode cX5_failsTry 13 = .ok (.iconst (-1), 1) := by decide +kernel
theorem dX5_failsTry_14 : decode cX5_failsTry 14 = .ok (.iastore, 1) := by decide +kernel
theorem dX5_failsTry_15 : decode cX5_failsTry 15 = .ok (.aload_n 0, 1) := by decide +kernel
theorem dX5_failsTry_16 : decode cX5_failsTry 16 = .ok (.getfield 7, 3) := by decide +kernel
theorem dX5_failsTry_19 : decode cX5_failsTry 19 = .ok (.bipush 15, 2) := by decide +kernel
theorem dX5_failsTry_21 : decode cX5_failsTry 21 = .ok (.bipush 17, 2) := by decide +kernel
theorem dX5_failsTry_23 : decode cX5_failsTry 23 = .ok (.iload_n 1, 1) := by decide +kernel
theorem dX5_failsTry_24 : decode cX5_failsTry 24 = .ok (.imul, 1) := by decide +kernel
theorem dX5_failsTry_25 : decode cX5_failsTry 25 = .ok (.iadd, 1) := by decide +kernel
theorem dX5_failsTry_26 : decode cX5_failsTry 26 = .ok (.iconst 3, 1) := by decide +kernel
theorem dX5_failsTry_27 : decode cX5_failsTry 27 = .ok (.iadd, 1) := by decide +kernel
theorem dX5_failsTry_28 : decode cX5_failsTry 28 = .ok (.dup2, 1) := by decide +kernel
theorem dX5_failsTry_29 : decode cX5_failsTry 29 = .ok (.iaload, 1) := by decide +kernel
theorem dX5_failsTry_30 : decode cX5_failsTry 30 = .ok (.iconst 1, 1) := by decide +kernel
theorem dX5_failsTry_31 : decode cX5_failsTry 31 = .ok (.iadd, 1) := by decide +kernel
theorem dX5_failsTry_32 : decode cX5_failsTry 32 = .ok (.iastore, 1) := by decide +kernel
theorem dX5_failsTry_33 : decode cX5_failsTry 33 = .ok (.aload_n 0, 1) := by decide +kernel
theorem dX5_failsTry_34 : decode cX5_failsTry 34 = .ok (.getfield 7, 3) := by decide +kernel
theorem dX5_failsTry_37 : decode cX5_failsTry 37 = .ok (.bipush 15, 2) := by decide +kernel
theorem dX5_failsTry_39 : decode cX5_failsTry 39 = .ok (.bipush 17, 2) := by decide +kernel
theorem dX5_failsTry_41 : decode cX5_failsTry 41 = .ok (.iload_n 1, 1) := by decide +kernel
theorem dX5_failsTry_42 : decode cX5_failsTry 42 = .ok (.imul, 1) := by decide +kernel
theorem dX5_failsTry_43 : decode cX5_failsTry 43 = .ok (.iadd, 1) := by decide +kernel
theorem dX5_failsTry_44 : decode cX5_failsTry 44 = .ok (.iconst 4, 1) := by decide +kernel
theorem dX5_failsTry_45 : decode cX5_failsTry 45 = .ok (.iadd, 1) := by decide +kernel
theorem dX5_failsTry_46 : decode cX5_failsTry 46 = .ok (.dup2, 1) := by decide +kernel
theorem dX5_failsTry_47 : decode cX5_failsTry 47 = .ok (.iaload, 1) := by decide +kernel
theorem dX5_failsTry_48 : decode cX5_failsTry 48 = .ok (.iconst 1, 1) := by decide +kernel
theorem dX5_failsTry_49 : decode cX5_failsTry 49 = .ok (.iadd, 1) := by decide +kernel
theorem dX5_failsTry_50 : decode cX5_failsTry 50 = .ok (.iastore, 1) := by decide +kernel
theorem dX5_failsTry_51 : decode cX5_failsTry 51 = .ok (.return_, 1) := by decide +kernel
set_option maxRecDepth 20000 in
theorem ggX5_begins_X5_isOdd : GoodIn wsX5_begins wsX5_isOdd := goodIn_r _ [6, 1, 11, 12, 13, 14, 15, 16, 17, 18, 19, 20] (by decide +kernel) (by decide +kernel)
set_option maxRecDepth 20000 in
theorem gX5_begins_X5_isOdd : GoodIn wsX5_begins (wsV RX5 37 RX5 yX5_isOdd wsX5_isOdd) := goodIn_app (goodIn_of _ (by decide +kernel)) ggX5_begins_X5_isOdd
set_option maxRecDepth 20000 in
theorem ggX5_begins_X5_failsTry : GoodIn wsX5_begins wsX5_failsTry := goodIn_r _ [10, 1, 11, 12, 13, 14, 15, 16, 17, 18, 19, 20] (by decide +kernel) (by decide +kernel)
set_option maxRecDepth 20000 in
theorem gX5_begins_X5_failsTry : GoodIn wsX5_begins (wsV RX5 67 RX5 yX5_failsTry wsX5_failsTry) := goodIn_app (goodIn_of _ (by decide +kernel)) ggX5_begins_X5_failsTry
theorem dX5_begins_0 : decode cX5_begins 0 = .ok (.bipush 15, 2) := by decide +kernel
theorem dX5_begins_2 : decode cX5_begins 2 = .ok (.bipush 17, 2) := by decide +kernel
theorem dX5_begins_4 : decode cX5_begins 4 = .ok (.iload_n 1, 1) := by decide +kernel
theorem dX5_begins_5 : decode cX5_begins 5 = .ok (.imul, 1) := by decide +kernel
theorem dX5_begins_6 : decode cX5_begins 6 = .ok (.iadd, 1) := by decide +kernel
theorem dX5_begins_7 : decode cX5_begins 7 = .ok (.istore_n 2, 1) := by decide +kernel
theorem dX5_begins_8 : decode cX5_begins 8 = .ok (.aload_n 0, 1) := by decide +kernel
theorem dX5_begins_9 : decode cX5_begins 9 = .ok (.getfield 7, 3) := by decide +kernel
theorem dX5_begins_12 : decode cX5_begins 12 = .ok (.iload_n 2, 1) := by decide +kernel
theorem dX5_begins_13 : decode cX5_begins 13 = .ok (.iaload, 1) := by decide +kernel
theorem dX5_begins_14 : decode cX5_begins 14 = .ok (.iconst 1, 1) := by decide +kernel
theorem dX5_begins_15 : decode cX5_begins 15 = .ok (.if_icmp .ne 17, 3) := by decide +kernel
theorem dX5_begins_18 : decode cX5_begins 18 = .ok (.aload_n 0, 1) := by decide +kernel
theorem dX5_begins_19 : decode cX5_begins 19 = .ok (.invokevirtual 37, 3) := by decide +kernel
theorem dX5_begins_22 : decode cX5_begins 22 = .ok (.ifCond .eq 10, 3) := by decide +kernel
theorem dX5_begins_25 : decode cX5_begins 25 = .ok (.aload_n 0, 1) := by decide +kernel
theorem dX5_begins_26 : decode cX5_begins 26 = .ok (.iload_n 1, 1) := by decide +kernel
theorem dX5_begins_27 : decode cX5_begins 27 = .ok (.invokevirtual 67, 3) := by decide +kernel
theorem dX5_begins_30 : decode cX5_begins 30 = .ok (.iconst 0, 1) := by decide +kernel
theorem dX5_begins_31 : decode cX5_begins 31 = .ok (.ireturn, 1) := by decide +kernel
theorem dX5_begins_32 : decode cX5_begins 32 = .ok (.aload_n 0, 1) := by decide +kernel
theorem dX5_begins_33 : decode cX5_begins 33 = .ok (.getfield 7, 3) := by decide +kernel
theorem dX5_begins_36 : decode cX5_begins 36 = .ok (.iload_n 2, 1) := by decide +kernel
theorem dX5_begins_37 : decode cX5_begins 37 = .ok (.iconst 1, 1) := by decide +kernel
theorem dX5_begins_38 : decode cX5_begins 38 = .ok (.iadd, 1) := by decide +kernel
theorem dX5_begins_39 : decode cX5_begins 39 = .ok (.aload_n 0, 1) := by decide +kernel
theorem dX5_begins_40 : decode cX5_begins 40 = .ok (.getfield 7, 3) := by decide +kernel
theorem dX5_begins_43 : decode cX5_begins 43 = .ok (.iconst 0, 1) := by decide +kernel
theorem dX5_begins_44 : decode cX5_begins 44 = .ok (.iaload, 1) := by decide +kernel
theorem dX5_begins_45 : decode cX5_begins 45 = .ok (.iastore, 1) := by decide +kernel
theorem dX5_begins_46 : decode cX5_begins 46 = .ok (.aload_n 0, 1) := by decide +kernel
theorem dX5_begins_47 : decode cX5_begins 47 = .ok (.getfield 7, 3) := by decide +kernel
theorem dX5_begins_50 : decode cX5_begins 50 = .ok (.iload_n 2, 1) := by decide +kernel
theorem dX5_begins_51 : decode cX5_begins 51 = .ok (.iconst 2, 1) := by decide +kernel
theorem dX5_begins_52 : decode cX5_begins 52 = .ok (.iadd, 1) := by decide +kernel
theorem dX5_begins_53 : decode cX5_begins 53 = .ok (.iconst 0, 1) := by decide +kernel
theorem dX5_begins_54 : decode cX5_begins 54 = .ok (.iastore, 1) := by decide +kernel
theorem dX5_begins_55 : decode cX5_begins 55 = .ok (.iconst 1, 1) := by decide +kernel
theorem dX5_begins_56 : decode cX5_begins 56 = .ok (.ireturn, 1) := by decide +kernel
set_option maxRecDepth 20000 in
theorem ggX5_begin_X5_isReader : GoodIn wsX5_begin wsX5_isReader := goodIn_r _ [5, 6, 7, 4, 8] (by decide +kernel) (by decide +kernel)
set_option maxRecDepth 20000 in
theorem gX5_begin_X5_isReader : GoodIn wsX5_begin (va_wsS RX5 60 yX5_isReader wsX5_isReader) := goodIn_app (goodIn_of _ (by decide +kernel)) ggX5_begin_X5_isReader
set_option maxRecDepth 20000 in
theorem ggX5_begin_X5_fails : GoodIn wsX5_begin wsX5_fails := goodIn_r _ [12, 1, 40, 41, 42, 43, 44, 45, 46, 47, 48, 49] (by decide +kernel) (by decide +kernel)
set_option maxRecDepth 20000 in
theorem gX5_begin_X5_fails : GoodIn wsX5_begin (wsV RX5 33 RX5 yX5_fails wsX5_fails) := goodIn_app (goodIn_of _ (by decide +kernel)) ggX5_begin_X5_fails
set_option maxRecDepth 20000 in
theorem ggX5_begin_X5_ofReading : GoodIn wsX5_begin wsX5_ofReading := goodIn_r _ [16, 17, 18, 19, 20, 4, 21, 40, 41, 42, 43, 44, 45, 46, 47, 48, 49] (by decide +kernel) (by decide +kernel)
set_option maxRecDepth 20000 in
theorem gX5_begin_X5_ofReading : GoodIn wsX5_begin (wsV RX5 71 RX5 yX5_ofReading wsX5_ofReading) := goodIn_app (goodIn_of _ (by decide +kernel)) ggX5_begin_X5_ofReading
set_option maxRecDepth 20000 in
theorem ggX5_begin_X5_saves : GoodIn wsX5_begin wsX5_saves := goodIn_r _ [25, 26, 27, 17, 40, 41, 42, 43, 44, 45, 46, 47, 48, 49] (by decide +kernel) (by decide +kernel)
set_option maxRecDepth 20000 in
theorem gX5_begin_X5_saves : GoodIn wsX5_begin (wsV RX5 48 RX5 yX5_saves wsX5_saves) := goodIn_app (goodIn_of _ (by decide +kernel)) ggX5_begin_X5_saves
set_option maxRecDepth 20000 in
theorem ggX5_begin_X5_begins : GoodIn wsX5_begin wsX5_begins := goodIn_r _ [31, 17, 32, 33, 34, 4, 35, 36, 37, 38, 39, 40, 41, 42, 43, 44, 45, 46, 47, 48, 49] (by decide +kernel) (by decide +kernel)
set_option maxRecDepth 20000 in
theorem gX5_begin_X5_begins : GoodIn wsX5_begin (wsV RX5 74 RX5 yX5_begins wsX5_begins) := goodIn_app (goodIn_of _ (by decide +kernel)) ggX5_begin_X5_begins
theorem dX5_begin_0 : decode cX5_begin 0 = .ok (.aload_n 0, 1) := by decide +kernel
theorem dX5_begin_1 : decode cX5_begin 1 = .ok (.iconst 0, 1) := by decide +kernel
theorem dX5_begin_2 : decode cX5_begin 2 = .ok (.putfield 22, 3) := by decide +kernel
theorem dX5_begin_5 : decode cX5_begin 5 = .ok (.iload_n 1, 1) := by decide +kernel
theorem dX5_begin_6 : decode cX5_begin 6 = .ok (.invokestatic 60, 3) := by decide +kernel
theorem dX5_begin_9 : decode cX5_begin 9 = .ok (.ifCond .ne 9, 3) := by decide +kernel
theorem dX5_begin_12 : decode cX5_begin 12 = .ok (.aload_n 0, 1) := by decide +kernel
theorem dX5_begin_13 : decode cX5_begin 13 = .ok (.iconst 1, 1) := by decide +kernel
theorem dX5_begin_14 : decode cX5_begin 14 = .ok (.invokevirtual 33, 3) := by decide +kernel
theorem dX5_begin_17 : decode cX5_begin 17 = .ok (.ireturn, 1) := by decide +kernel
theorem dX5_begin_18 : decode cX5_begin 18 = .ok (.aload_n 0, 1) := by decide +kernel
theorem dX5_begin_19 : decode cX5_begin 19 = .ok (.iload_n 1, 1) := by decide +kernel
theorem dX5_begin_20 : decode cX5_begin 20 = .ok (.invokevirtual 71, 3) := by decide +kernel
theorem dX5_begin_23 : decode cX5_begin 23 = .ok (.ifCond .eq 9, 3) := by decide +kernel
theorem dX5_begin_26 : decode cX5_begin 26 = .ok (.aload_n 0, 1) := by decide +kernel
theorem dX5_begin_27 : decode cX5_begin 27 = .ok (.iconst 2, 1) := by decide +kernel
theorem dX5_begin_28 : decode cX5_begin 28 = .ok (.invokevirtual 33, 3) := by decide +kernel
theorem dX5_begin_31 : decode cX5_begin 31 = .ok (.ireturn, 1) := by decide +kernel
theorem dX5_begin_32 : decode cX5_begin 32 = .ok (.aload_n 0, 1) := by decide +kernel
theorem dX5_begin_33 : decode cX5_begin 33 = .ok (.invokevirtual 48, 3) := by decide +kernel
theorem dX5_begin_36 : decode cX5_begin 36 = .ok (.aload_n 0, 1) := by decide +kernel
theorem dX5_begin_37 : decode cX5_begin 37 = .ok (.iload_n 1, 1) := by decide +kernel
theorem dX5_begin_38 : decode cX5_begin 38 = .ok (.invokevirtual 74, 3) := by decide +kernel
theorem dX5_begin_41 : decode cX5_begin 41 = .ok (.ireturn, 1) := by decide +kernel
set_option maxRecDepth 20000 in
theorem ggX5_isKept_X5_in : GoodIn wsX5_isKept wsX5_in := goodIn_r _ [5] (by decide +kernel) (by decide +kernel)
set_option maxRecDepth 20000 in
theorem gX5_isKept_X5_in : GoodIn wsX5_isKept (va_wsS RX5 26 yX5_in wsX5_in) := goodIn_app (goodIn_of _ (by decide +kernel)) ggX5_isKept_X5_in
theorem dX5_isKept_0 : decode cX5_isKept 0 = .ok (.iload_n 1, 1) := by decide +kernel
theorem dX5_isKept_1 : decode cX5_isKept 1 = .ok (.iconst 0, 1) := by decide +kernel
theorem dX5_isKept_2 : decode cX5_isKept 2 = .ok (.aload_n 0, 1) := by decide +kernel
theorem dX5_isKept_3 : decode cX5_isKept 3 = .ok (.getfield 7, 3) := by decide +kernel
theorem dX5_isKept_6 : decode cX5_isKept 6 = .ok (.iconst 0, 1) := by decide +kernel
theorem dX5_isKept_7 : decode cX5_isKept 7 = .ok (.iaload, 1) := by decide +kernel
theorem dX5_isKept_8 : decode cX5_isKept 8 = .ok (.iconst 2, 1) := by decide +kernel
theorem dX5_isKept_9 : decode cX5_isKept 9 = .ok (.idiv, 1) := by decide +kernel
theorem dX5_isKept_10 : decode cX5_isKept 10 = .ok (.invokestatic 26, 3) := by decide +kernel
theorem dX5_isKept_13 : decode cX5_isKept 13 = .ok (.ifCond .eq 22, 3) := by decide +kernel
theorem dX5_isKept_16 : decode cX5_isKept 16 = .ok (.aload_n 0, 1) := by decide +kernel
theorem dX5_isKept_17 : decode cX5_isKept 17 = .ok (.getfield 7, 3) := by decide +kernel
theorem dX5_isKept_20 : decode cX5_isKept 20 = .ok (.iconst 0, 1) := by decide +kernel
theorem dX5_isKept_21 : decode cX5_isKept 21 = .ok (.iaload, 1) := by decide +kernel
theorem dX5_isKept_22 : decode cX5_isKept 22 = .ok (.iconst 2, 1) := by decide +kernel
theorem dX5_isKept_23 : decode cX5_isKept 23 = .ok (.idiv, 1) := by decide +kernel
theorem dX5_isKept_24 : decode cX5_isKept 24 = .ok (.iload_n 1, 1) := by decide +kernel
theorem dX5_isKept_25 : decode cX5_isKept 25 = .ok (.isub, 1) := by decide +kernel
theorem dX5_isKept_26 : decode cX5_isKept 26 = .ok (.bipush 16, 2) := by decide +kernel
theorem dX5_isKept_28 : decode cX5_isKept 28 = .ok (.if_icmp .ge 7, 3) := by decide +kernel
theorem dX5_isKept_31 : decode cX5_isKept 31 = .ok (.iconst 1, 1) := by decide +kernel
theorem dX5_isKept_32 : decode cX5_isKept 32 = .ok (.goto 4, 3) := by decide +kernel
theorem dX5_isKept_35 : decode cX5_isKept 35 = .ok (.iconst 0, 1) := by decide +kernel
theorem dX5_isKept_36 : decode cX5_isKept 36 = .ok (.ireturn, 1) := by decide +kernel
set_option maxRecDepth 20000 in
theorem ggX5_same_X5_isKept : GoodIn wsX5_same wsX5_isKept := goodIn_r _ [6, 1, 7, 8, 5, 9, 10, 11, 12, 13, 14, 15, 16, 17, 18, 19] (by decide +kernel) (by decide +kernel)
set_option maxRecDepth 20000 in
theorem gX5_same_X5_isKept : GoodIn wsX5_same (wsV RX5 77 RX5 yX5_isKept wsX5_isKept) := goodIn_app (goodIn_of _ (by decide +kernel)) ggX5_same_X5_isKept
