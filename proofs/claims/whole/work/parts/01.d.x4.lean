theorem dX4_init_0 : decode cX4_init 0 = .ok (.aload_n 0, 1) := by decide +kernel
theorem dX4_init_1 : decode cX4_init 1 = .ok (.invokespecial 1, 3) := by decide +kernel
theorem dX4_init_4 : decode cX4_init 4 = .ok (.aload_n 0, 1) := by decide +kernel
theorem dX4_init_5 : decode cX4_init 5 = .ok (.new 7, 3) := by decide +kernel
theorem dX4_init_8 : decode cX4_init 8 = .ok (.dup, 1) := by decide +kernel
theorem dX4_init_9 : decode cX4_init 9 = .ok (.invokespecial 9, 3) := by decide +kernel
theorem dX4_init_12 : decode cX4_init 12 = .ok (.putfield 10, 3) := by decide +kernel
theorem dX4_init_15 : decode cX4_init 15 = .ok (.aload_n 0, 1) := by decide +kernel
theorem dX4_init_16 : decode cX4_init 16 = .ok (.bipush 6, 2) := by decide +kernel
theorem dX4_init_18 : decode cX4_init 18 = .ok (.anewarray 7, 3) := by decide +kernel
theorem dX4_init_21 : decode cX4_init 21 = .ok (.putfield 16, 3) := by decide +kernel
theorem dX4_init_24 : decode cX4_init 24 = .ok (.aload_n 0, 1) := by decide +kernel
theorem dX4_init_25 : decode cX4_init 25 = .ok (.new 20, 3) := by decide +kernel
theorem dX4_init_28 : decode cX4_init 28 = .ok (.dup, 1) := by decide +kernel
theorem dX4_init_29 : decode cX4_init 29 = .ok (.invokespecial 22, 3) := by decide +kernel
theorem dX4_init_32 : decode cX4_init 32 = .ok (.putfield 23, 3) := by decide +kernel
theorem dX4_init_35 : decode cX4_init 35 = .ok (.aload_n 0, 1) := by decide +kernel
theorem dX4_init_36 : decode cX4_init 36 = .ok (.iconst 5, 1) := by decide +kernel
theorem dX4_init_37 : decode cX4_init 37 = .ok (.newarray .int, 2) := by decide +kernel
theorem dX4_init_39 : decode cX4_init 39 = .ok (.putfield 27, 3) := by decide +kernel
theorem dX4_init_42 : decode cX4_init 42 = .ok (.iconst 0, 1) := by decide +kernel
theorem dX4_init_43 : decode cX4_init 43 = .ok (.istore_n 1, 1) := by decide +kernel
theorem dX4_init_44 : decode cX4_init 44 = .ok (.iload_n 1, 1) := by decide +kernel
theorem dX4_init_45 : decode cX4_init 45 = .ok (.bipush 6, 2) := by decide +kernel
theorem dX4_init_47 : decode cX4_init 47 = .ok (.if_icmp .ge 22, 3) := by decide +kernel
theorem dX4_init_50 : decode cX4_init 50 = .ok (.aload_n 0, 1) := by decide +kernel
theorem dX4_init_51 : decode cX4_init 51 = .ok (.getfield 16, 3) := by decide +kernel
theorem dX4_init_54 : decode cX4_init 54 = .ok (.iload_n 1, 1) := by decide +kernel
theorem dX4_init_55 : decode cX4_init 55 = .ok (.new 7, 3) := by decide +kernel
theorem dX4_init_58 : decode cX4_init 58 = .ok (.dup, 1) := by decide +kernel
theorem dX4_init_59 : decode cX4_init 59 = .ok (.invokespecial 9, 3) := by decide +kernel
theorem dX4_init_62 : decode cX4_init 62 = .ok (.aastore, 1) := by decide +kernel
theorem dX4_init_63 : decode cX4_init 63 = .ok (.iinc 1 1, 3) := by decide +kernel
theorem dX4_init_66 : decode cX4_init 66 = .ok (.goto (-22), 3) := by decide +kernel
theorem dX4_init_69 : decode cX4_init 69 = .ok (.return_, 1) := by decide +kernel
set_option maxRecDepth 20000 in
theorem ggX4_come_X4_isBelow : GoodIn wsX4_come wsX4_isBelow := goodIn_r _ [10] (by decide +kernel) (by decide +kernel)
set_option maxRecDepth 20000 in
theorem gX4_come_X4_isBelow : GoodIn wsX4_come (va_wsS RX4 31 yX4_isBelow wsX4_isBelow) := goodIn_app (goodIn_of _ (by decide +kernel)) ggX4_come_X4_isBelow
set_option maxRecDepth 20000 in
theorem ggX4_come_X0_isAway : GoodIn wsX4_come wsX0_isAway := goodIn_r _ [15, 16, 84, 85, 86, 87, 88] (by decide +kernel) (by decide +kernel)
set_option maxRecDepth 20000 in
theorem gX4_come_X0_isAway : GoodIn wsX4_come (wsV RX4 46 RX0 yX0_isAway wsX0_isAway) := goodIn_app (goodIn_of _ (by decide +kernel)) ggX4_come_X0_isAway
set_option maxRecDepth 20000 in
theorem ggX4_come_X4_saveState : GoodIn wsX4_come wsX4_saveState := goodIn_r _ [20, 21, 22, 5, 23, 24, 25, 26, 9, 27, 28, 29, 30, 31, 32, 33, 34, 35, 36, 37, 38, 39, 14, 40, 41, 42, 43, 44, 45, 46, 47, 16, 48, 49, 50, 51, 52, 53, 54, 55, 56, 57, 58, 59, 60, 61, 62, 63, 64, 74, 75, 76, 77, 78, 79, 80, 81, 82, 83, 84, 85, 86, 87, 88, 89, 90, 91, 92, 93, 94, 95, 96, 97, 98] (by decide +kernel) (by decide +kernel)
set_option maxRecDepth 20000 in
theorem gX4_come_X4_saveState : GoodIn wsX4_come (wsV RX4 57 RX4 yX4_saveState wsX4_saveState) := goodIn_app (goodIn_of _ (by decide +kernel)) ggX4_come_X4_saveState
set_option maxRecDepth 20000 in
theorem ggX4_come_X0_enter : GoodIn wsX4_come wsX0_enter := goodIn_r _ [68, 16, 41, 69, 70, 71, 14, 72, 73, 12, 13, 15, 84, 85, 86, 87, 88] (by decide +kernel) (by decide +kernel)
set_option maxRecDepth 20000 in
theorem gX4_come_X0_enter : GoodIn wsX4_come (wsV RX4 60 RX0 yX0_enter wsX0_enter) := goodIn_app (goodIn_of _ (by decide +kernel)) ggX4_come_X0_enter
theorem dX4_come_0 : decode cX4_come 0 = .ok (.iload_n 1, 1) := by decide +kernel
theorem dX4_come_1 : decode cX4_come 1 = .ok (.iconst 3, 1) := by decide +kernel
theorem dX4_come_2 : decode cX4_come 2 = .ok (.invokestatic 31, 3) := by decide +kernel
theorem dX4_come_5 : decode cX4_come 5 = .ok (.ifCond .ne 13, 3) := by decide +kernel
theorem dX4_come_8 : decode cX4_come 8 = .ok (.new 35, 3) := by decide +kernel
theorem dX4_come_11 : decode cX4_come 11 = .ok (.dup, 1) := by decide +kernel
theorem dX4_come_12 : decode cX4_come 12 = .ok (.ldc 37, 2) := by decide +kernel
theorem dX4_come_14 : decode cX4_come 14 = .ok (.invokespecial 39, 3) := by decide +kernel
theorem dX4_come_17 : decode cX4_come 17 = .ok (.athrow, 1) := by decide +kernel
theorem dX4_come_18 : decode cX4_come 18 = .ok (.aload_n 0, 1) := by decide +kernel
theorem dX4_come_19 : decode cX4_come 19 = .ok (.getfield 10, 3) := by decide +kernel
theorem dX4_come_22 : decode cX4_come 22 = .ok (.getfield 42, 3) := by decide +kernel
theorem dX4_come_25 : decode cX4_come 25 = .ok (.iload_n 1, 1) := by decide +kernel
theorem dX4_come_26 : decode cX4_come 26 = .ok (.invokevirtual 46, 3) := by decide +kernel
theorem dX4_come_29 : decode cX4_come 29 = .ok (.ifCond .ne 13, 3) := by decide +kernel
theorem dX4_come_32 : decode cX4_come 32 = .ok (.new 52, 3) := by decide +kernel
theorem dX4_come_35 : decode cX4_come 35 = .ok (.dup, 1) := by decide +kernel
theorem dX4_come_36 : decode cX4_come 36 = .ok (.ldc 54, 2) := by decide +kernel
theorem dX4_come_38 : decode cX4_come 38 = .ok (.invokespecial 56, 3) := by decide +kernel
theorem dX4_come_41 : decode cX4_come 41 = .ok (.athrow, 1) := by decide +kernel
theorem dX4_come_42 : decode cX4_come 42 = .ok (.aload_n 0, 1) := by decide +kernel
theorem dX4_come_43 : decode cX4_come 43 = .ok (.invokevirtual 57, 3) := by decide +kernel
theorem dX4_come_46 : decode cX4_come 46 = .ok (.aload_n 0, 1) := by decide +kernel
theorem dX4_come_47 : decode cX4_come 47 = .ok (.getfield 10, 3) := by decide +kernel
theorem dX4_come_50 : decode cX4_come 50 = .ok (.getfield 42, 3) := by decide +kernel
theorem dX4_come_53 : decode cX4_come 53 = .ok (.iload_n 1, 1) := by decide +kernel
theorem dX4_come_54 : decode cX4_come 54 = .ok (.invokevirtual 60, 3) := by decide +kernel
theorem dX4_come_57 : decode cX4_come 57 = .ok (.ireturn, 1) := by decide +kernel
set_option maxRecDepth 20000 in
theorem ggX4_chalk_X4_isBelow : GoodIn wsX4_chalk wsX4_isBelow := goodIn_r _ [12] (by decide +kernel) (by decide +kernel)
set_option maxRecDepth 20000 in
theorem gX4_chalk_X4_isBelow : GoodIn wsX4_chalk (va_wsS RX4 31 yX4_isBelow wsX4_isBelow) := goodIn_app (goodIn_of _ (by decide +kernel)) ggX4_chalk_X4_isBelow
set_option maxRecDepth 20000 in
theorem ggX4_chalk_X0_isOdd : GoodIn wsX4_chalk wsX0_isOdd := goodIn_r _ [17, 18, 81, 82, 83, 84, 85] (by decide +kernel) (by decide +kernel)
set_option maxRecDepth 20000 in
theorem gX4_chalk_X0_isOdd : GoodIn wsX4_chalk (wsV RX4 71 RX0 yX0_isOdd wsX0_isOdd) := goodIn_app (goodIn_of _ (by decide +kernel)) ggX4_chalk_X0_isOdd
set_option maxRecDepth 20000 in
theorem ggX4_chalk_X4_saveState : GoodIn wsX4_chalk wsX4_saveState := goodIn_r _ [22, 23, 24, 7, 25, 26, 27, 28, 11, 29, 30, 31, 32, 33, 34, 35, 36, 37, 38, 39, 40, 41, 16, 42, 18, 43, 44, 45, 46, 47, 48, 49, 50, 51, 52, 53, 54, 55, 56, 57, 58, 59, 60, 61, 62, 63, 64, 65, 66, 71, 72, 73, 74, 75, 76, 77, 78, 79, 80, 81, 82, 83, 84, 85, 86, 87, 88, 89, 90, 91, 92, 93, 94, 95] (by decide +kernel) (by decide +kernel)
set_option maxRecDepth 20000 in
theorem gX4_chalk_X4_saveState : GoodIn wsX4_chalk (wsV RX4 57 RX4 yX4_saveState wsX4_saveState) := goodIn_app (goodIn_of _ (by decide +kernel)) ggX4_chalk_X4_saveState
set_option maxRecDepth 20000 in
theorem ggX4_chalk_X0_write : GoodIn wsX4_chalk wsX0_write := goodIn_r _ [70, 43, 81, 82, 83, 84, 85] (by decide +kernel) (by decide +kernel)
set_option maxRecDepth 20000 in
theorem gX4_chalk_X0_write : GoodIn wsX4_chalk (wsV RX4 77 RX0 yX0_write wsX0_write) := goodIn_app (goodIn_of _ (by decide +kernel)) ggX4_chalk_X0_write
theorem dX4_chalk_0 : decode cX4_chalk 0 = .ok (.iload_n 1, 1) := by decide +kernel
theorem dX4_chalk_1 : decode cX4_chalk 1 = .ok (.iconst 5, 1) := by decide +kernel
theorem dX4_chalk_2 : decode cX4_chalk 2 = .ok (.invokestatic 31, 3) := by decide +kernel
theorem dX4_chalk_5 : decode cX4_chalk 5 = .ok (.ifCond .ne 13, 3) := by decide +kernel
theorem dX4_chalk_8 : decode cX4_chalk 8 = .ok (.new 35, 3) := by decide +kernel
theorem dX4_chalk_11 : decode cX4_chalk 11 = .ok (.dup, 1) := by decide +kernel
theorem dX4_chalk_12 : decode cX4_chalk 12 = .ok (.ldc 64, 2) := by decide +kernel
theorem dX4_chalk_14 : decode cX4_chalk 14 = .ok (.invokespecial 39, 3) := by decide +kernel
theorem dX4_chalk_17 : decode cX4_chalk 17 = .ok (.athrow, 1) := by decide +kernel
theorem dX4_chalk_18 : decode cX4_chalk 18 = .ok (.iload_n 2, 1) := by decide +kernel
theorem dX4_chalk_19 : decode cX4_chalk 19 = .ok (.bipush 100, 2) := by decide +kernel
theorem dX4_chalk_21 : decode cX4_chalk 21 = .ok (.invokestatic 31, 3) := by decide +kernel
theorem dX4_chalk_24 : decode cX4_chalk 24 = .ok (.ifCond .ne 13, 3) := by decide +kernel
theorem dX4_chalk_27 : decode cX4_chalk 27 = .ok (.new 66, 3) := by decide +kernel
theorem dX4_chalk_30 : decode cX4_chalk 30 = .ok (.dup, 1) := by decide +kernel
theorem dX4_chalk_31 : decode cX4_chalk 31 = .ok (.ldc 68, 2) := by decide +kernel
theorem dX4_chalk_33 : decode cX4_chalk 33 = .ok (.invokespecial 70, 3) := by decide +kernel
theorem dX4_chalk_36 : decode cX4_chalk 36 = .ok (.athrow, 1) := by decide +kernel
theorem dX4_chalk_37 : decode cX4_chalk 37 = .ok (.aload_n 0, 1) := by decide +kernel
theorem dX4_chalk_38 : decode cX4_chalk 38 = .ok (.getfield 10, 3) := by decide +kernel
theorem dX4_chalk_41 : decode cX4_chalk 41 = .ok (.getfield 42, 3) := by decide +kernel
theorem dX4_chalk_44 : decode cX4_chalk 44 = .ok (.invokevirtual 71, 3) := by decide +kernel
theorem dX4_chalk_47 : decode cX4_chalk 47 = .ok (.ifCond .ne 13, 3) := by decide +kernel
theorem dX4_chalk_50 : decode cX4_chalk 50 = .ok (.new 52, 3) := by decide +kernel
theorem dX4_chalk_53 : decode cX4_chalk 53 = .ok (.dup, 1) := by decide +kernel
theorem dX4_chalk_54 : decode cX4_chalk 54 = .ok (.ldc 75, 2) := by decide +kernel
theorem dX4_chalk_56 : decode cX4_chalk 56 = .ok (.invokespecial 56, 3) := by decide +kernel
theorem dX4_chalk_59 : decode cX4_chalk 59 = .ok (.athrow, 1) := by decide +kernel
theorem dX4_chalk_60 : decode cX4_chalk 60 = .ok (.aload_n 0, 1) := by decide +kernel
theorem dX4_chalk_61 : decode cX4_chalk 61 = .ok (.invokevirtual 57, 3) := by decide +kernel
theorem dX4_chalk_64 : decode cX4_chalk 64 = .ok (.aload_n 0, 1) := by decide +kernel
theorem dX4_chalk_65 : decode cX4_chalk 65 = .ok (.getfield 10, 3) := by decide +kernel
theorem dX4_chalk_68 : decode cX4_chalk 68 = .ok (.getfield 42, 3) := by decide +kernel
theorem dX4_chalk_71 : decode cX4_chalk 71 = .ok (.iload_n 1, 1) := by decide +kernel
theorem dX4_chalk_72 : decode cX4_chalk 72 = .ok (.iload_n 2, 1) := by decide +kernel
theorem dX4_chalk_73 : decode cX4_chalk 73 = .ok (.invokevirtual 77, 3) := by decide +kernel
theorem dX4_chalk_76 : decode cX4_chalk 76 = .ok (.ireturn, 1) := by decide +kernel
set_option maxRecDepth 20000 in
theorem ggX4_done_X4_isBelow : GoodIn wsX4_done wsX4_isBelow := goodIn_r _ [10] (by decide +kernel) (by decide +kernel)
set_option maxRecDepth 20000 in
theorem gX4_done_X4_isBelow : GoodIn wsX4_done (va_wsS RX4 31 yX4_isBelow wsX4_isBelow) := goodIn_app (goodIn_of _ (by decide +kernel)) ggX4_done_X4_isBelow
set_option maxRecDepth 20000 in
theorem ggX4_done_X0_isChalking : GoodIn wsX4_done wsX0_isChalking := goodIn_r _ [15, 16, 106, 107, 108, 109, 110] (by decide +kernel) (by decide +kernel)
set_option maxRecDepth 20000 in
theorem gX4_done_X0_isChalking : GoodIn wsX4_done (wsV RX4 81 RX0 yX0_isChalking wsX0_isChalking) := goodIn_app (goodIn_of _ (by decide +kernel)) ggX4_done_X0_isChalking
set_option maxRecDepth 20000 in
theorem ggX4_done_X4_saveState : GoodIn wsX4_done wsX4_saveState := goodIn_r _ [20, 21, 22, 5, 23, 24, 25, 26, 9, 27, 28, 29, 30, 31, 32, 33, 34, 35, 36, 37, 38, 39, 14, 40, 41, 42, 43, 44, 45, 46, 47, 16, 48, 49, 50, 51, 52, 53, 54, 55, 56, 57, 58, 59, 60, 61, 62, 63, 64, 96, 97, 98, 99, 100, 101, 102, 103, 104, 105, 106, 107, 108, 109, 110, 111, 112, 113, 114, 115, 116, 117, 118, 119, 120] (by decide +kernel) (by decide +kernel)
set_option maxRecDepth 20000 in
theorem gX4_done_X4_saveState : GoodIn wsX4_done (wsV RX4 57 RX4 yX4_saveState wsX4_saveState) := goodIn_app (goodIn_of _ (by decide +kernel)) ggX4_done_X4_saveState
set_option maxRecDepth 20000 in
theorem ggX4_done_X0_leave : GoodIn wsX4_done wsX0_leave := goodIn_r _ [68, 47, 41, 69, 70, 71, 14, 72, 16, 73, 74, 75, 76, 42, 48, 43, 44, 45, 46, 77, 78, 79, 80, 81, 82, 83, 84, 85, 86, 87, 88, 89, 90, 91, 92, 93, 94, 95, 106, 107, 108, 109, 110] (by decide +kernel) (by decide +kernel)
set_option maxRecDepth 20000 in
theorem gX4_done_X0_leave : GoodIn wsX4_done (wsV RX4 86 RX0 yX0_leave wsX0_leave) := goodIn_app (goodIn_of _ (by decide +kernel)) ggX4_done_X0_leave
theorem dX4_done_0 : decode cX4_done 0 = .ok (.iload_n 1, 1) := by decide +kernel
theorem dX4_done_1 : decode cX4_done 1 = .ok (.iconst 3, 1) := by decide +kernel
theorem dX4_done_2 : decode cX4_done 2 = .ok (.invokestatic 31, 3) := by decide +kernel
theorem dX4_done_5 : decode cX4_done 5 = .ok (.ifCond .ne 13, 3) := by decide +kernel
theorem dX4_done_8 : decode cX4_done 8 = .ok (.new 35, 3) := by decide +kernel
theorem dX4_done_11 : decode cX4_done 11 = .ok (.dup, 1) := by decide +kernel
theorem dX4_done_12 : decode cX4_done 12 = .ok (.ldc 37, 2) := by decide +kernel
theorem dX4_done_14 : decode cX4_done 14 = .ok (.invokespecial 39, 3) := by decide +kernel
theorem dX4_done_17 : decode cX4_done 17 = .ok (.athrow, 1) := by decide +kernel
theorem dX4_done_18 : decode cX4_done 18 = .ok (.aload_n 0, 1) := by decide +kernel
theorem dX4_done_19 : decode cX4_done 19 = .ok (.getfield 10, 3) := by decide +kernel
theorem dX4_done_22 : decode cX4_done 22 = .ok (.getfield 42, 3) := by decide +kernel
theorem dX4_done_25 : decode cX4_done 25 = .ok (.iload_n 1, 1) := by decide +kernel
theorem dX4_done_26 : decode cX4_done 26 = .ok (.invokevirtual 81, 3) := by decide +kernel
theorem dX4_done_29 : decode cX4_done 29 = .ok (.ifCond .ne 13, 3) := by decide +kernel
theorem dX4_done_32 : decode cX4_done 32 = .ok (.new 52, 3) := by decide +kernel
theorem dX4_done_35 : decode cX4_done 35 = .ok (.dup, 1) := by decide +kernel
theorem dX4_done_36 : decode cX4_done 36 = .ok (.ldc 84, 2) := by decide +kernel
theorem dX4_done_38 : decode cX4_done 38 = .ok (.invokespecial 56, 3) := by decide +kernel
theorem dX4_done_41 : decode cX4_done 41 = .ok (.athrow, 1) := by decide +kernel
theorem dX4_done_42 : decode cX4_done 42 = .ok (.aload_n 0, 1) := by decide +kernel
theorem dX4_done_43 : decode cX4_done 43 = .ok (.invokevirtual 57, 3) := by decide +kernel
theorem dX4_done_46 : decode cX4_done 46 = .ok (.aload_n 0, 1) := by decide +kernel
theorem dX4_done_47 : decode cX4_done 47 = .ok (.getfield 10, 3) := by decide +kernel
theorem dX4_done_50 : decode cX4_done 50 = .ok (.getfield 42, 3) := by decide +kernel
theorem dX4_done_53 : decode cX4_done 53 = .ok (.iload_n 1, 1) := by decide +kernel
theorem dX4_done_54 : decode cX4_done 54 = .ok (.invokevirtual 86, 3) := by decide +kernel
theorem dX4_done_57 : decode cX4_done 57 = .ok (.ireturn, 1) := by decide +kernel
set_option maxRecDepth 20000 in
theorem ggX4_reader_X4_isBelow : GoodIn wsX4_reader wsX4_isBelow := goodIn_r _ [9] (by decide +kernel) (by decide +kernel)
set_option maxRecDepth 20000 in
theorem gX4_reader_X4_isBelow : GoodIn wsX4_reader (va_wsS RX4 31 yX4_isBelow wsX4_isBelow) := goodIn_app (goodIn_of _ (by decide +kernel)) ggX4_reader_X4_isBelow
set_option maxRecDepth 20000 in
theorem ggX4_reader_X4_saveState : GoodIn wsX4_reader wsX4_saveState := goodIn_r _ [13, 14, 15, 3, 16, 17, 18, 19, 8, 20, 21, 22, 23, 24, 25, 26, 27, 28, 29, 30, 31, 32, 33, 34, 35, 36, 37, 38, 39, 40, 41, 42, 43, 44, 45, 46, 47, 48, 49, 50, 51, 52, 53, 54, 55, 56, 57, 58, 59, 64, 65, 66, 67, 68, 69, 70, 71, 72, 73, 84, 85, 86, 87, 88, 74, 75, 76, 77, 78, 79, 80, 81, 82, 83] (by decide +kernel) (by decide +kernel)
set_option maxRecDepth 20000 in
theorem gX4_reader_X4_saveState : GoodIn wsX4_reader (wsV RX4 57 RX4 yX4_saveState wsX4_saveState) := goodIn_app (goodIn_of _ (by decide +kernel)) ggX4_reader_X4_saveState
set_option maxRecDepth 20000 in
theorem ggX4_reader_X1_startAnew : GoodIn wsX4_reader wsX1_startAnew := goodIn_r _ [63, 49, 50, 51, 54, 74, 75, 76, 77, 78, 79, 80, 81, 82, 83] (by decide +kernel) (by decide +kernel)
set_option maxRecDepth 20000 in
theorem gX4_reader_X1_startAnew : GoodIn wsX4_reader (wsV RX4 101 RX1 yX1_startAnew wsX1_startAnew) := goodIn_app (goodIn_of _ (by decide +kernel)) ggX4_reader_X1_startAnew
theorem dX4_reader_0 : decode cX4_reader 0 = .ok (.iload_n 1, 1) := by decide +kernel
theorem dX4_reader_1 : decode cX4_reader 1 = .ok (.iconst 4, 1) := by decide +kernel
theorem dX4_reader_2 : decode cX4_reader 2 = .ok (.invokestatic 31, 3) := by decide +kernel
theorem dX4_reader_5 : decode cX4_reader 5 = .ok (.ifCond .ne 13, 3) := by decide +kernel
theorem dX4_reader_8 : decode cX4_reader 8 = .ok (.new 35, 3) := by decide +kernel
theorem dX4_reader_11 : decode cX4_reader 11 = .ok (.dup, 1) := by decide +kernel
theorem dX4_reader_12 : decode cX4_reader 12 = .ok (.ldc 89, 2) := by decide +kernel
theorem dX4_reader_14 : decode cX4_reader 14 = .ok (.invokespecial 39, 3) := by decide +kernel
theorem dX4_reader_17 : decode cX4_reader 17 = .ok (.athrow, 1) := by decide +kernel
theorem dX4_reader_18 : decode cX4_reader 18 = .ok (.aload_n 0, 1) := by decide +kernel
theorem dX4_reader_19 : decode cX4_reader 19 = .ok (.invokevirtual 57, 3) := by decide +kernel
theorem dX4_reader_22 : decode cX4_reader 22 = .ok (.aload_n 0, 1) := by decide +kernel
theorem dX4_reader_23 : decode cX4_reader 23 = .ok (.getfield 10, 3) := by decide +kernel
theorem dX4_reader_26 : decode cX4_reader 26 = .ok (.getfield 91, 3) := by decide +kernel
theorem dX4_reader_29 : decode cX4_reader 29 = .ok (.iload_n 1, 1) := by decide +kernel
theorem dX4_reader_30 : decode cX4_reader 30 = .ok (.aaload, 1) := by decide +kernel
theorem dX4_reader_31 : decode cX4_reader 31 = .ok (.getfield 95, 3) := by decide +kernel
theorem dX4_reader_34 : decode cX4_reader 34 = .ok (.ifCond .eq 7, 3) := by decide +kernel
theorem dX4_reader_37 : decode cX4_reader 37 = .ok (.iconst 1, 1) := by decide +kernel
theorem dX4_reader_38 : decode cX4_reader 38 = .ok (.goto 4, 3) := by decide +kernel
theorem dX4_reader_41 : decode cX4_reader 41 = .ok (.iconst 0, 1) := by decide +kernel
theorem dX4_reader_42 : decode cX4_reader 42 = .ok (.istore_n 3, 1) := by decide +kernel
theorem dX4_reader_43 : decode cX4_reader 43 = .ok (.aload_n 0, 1) := by decide +kernel
theorem dX4_reader_44 : decode cX4_reader 44 = .ok (.getfield 10, 3) := by decide +kernel
theorem dX4_reader_47 : decode cX4_reader 47 = .ok (.getfield 91, 3) := by decide +kernel
theorem dX4_reader_50 : decode cX4_reader 50 = .ok (.iload_n 1, 1) := by decide +kernel
theorem dX4_reader_51 : decode cX4_reader 51 = .ok (.aaload, 1) := by decide +kernel
theorem dX4_reader_52 : decode cX4_reader 52 = .ok (.iload_n 2, 1) := by decide +kernel
theorem dX4_reader_53 : decode cX4_reader 53 = .ok (.invokevirtual 101, 3) := by decide +kernel
theorem dX4_reader_56 : decode cX4_reader 56 = .ok (.iload_n 3, 1) := by decide +kernel
theorem dX4_reader_57 : decode cX4_reader 57 = .ok (.ireturn, 1) := by decide +kernel
set_option maxRecDepth 20000 in
theorem ggX4_begin_X4_isBelow : GoodIn wsX4_begin wsX4_isBelow := goodIn_r _ [11] (by decide +kernel) (by decide +kernel)
set_option maxRecDepth 20000 in
theorem gX4_begin_X4_isBelow : GoodIn wsX4_begin (va_wsS RX4 31 yX4_isBelow wsX4_isBelow) := goodIn_app (goodIn_of _ (by decide +kernel)) ggX4_begin_X4_isBelow
set_option maxRecDepth 20000 in
theorem ggX4_begin_X2_mayBegin : GoodIn wsX4_begin wsX2_mayBegin := goodIn_r _ [16, 17, 18, 19, 20, 21, 22, 23, 24, 25, 26, 27, 94, 95, 96, 97, 98, 99, 100, 101, 102, 103, 104, 105, 106, 107] (by decide +kernel) (by decide +kernel)
set_option maxRecDepth 20000 in
theorem gX4_begin_X2_mayBegin : GoodIn wsX4_begin (wsV RX4 105 RX2 yX2_mayBegin wsX2_mayBegin) := goodIn_app (goodIn_of _ (by decide +kernel)) ggX4_begin_X2_mayBegin
set_option maxRecDepth 20000 in
theorem ggX4_begin_X4_saveState : GoodIn wsX4_begin wsX4_saveState := goodIn_r _ [31, 32, 33, 5, 34, 35, 36, 37, 10, 38, 39, 40, 41, 15, 42, 43, 17, 44, 19, 45, 46, 47, 48, 49, 50, 51, 52, 53, 54, 55, 56, 57, 58, 59, 60, 61, 23, 62, 25, 26, 63, 64, 65, 27, 66, 67, 68, 69, 70, 88, 89, 90, 91, 92, 93, 94, 95, 96, 97, 108, 109, 110, 111, 112, 98, 99, 100, 101, 102, 103, 104, 105, 106, 107] (by decide +kernel) (by decide +kernel)
set_option maxRecDepth 20000 in
theorem gX4_begin_X4_saveState : GoodIn wsX4_begin (wsV RX4 57 RX4 yX4_saveState wsX4_saveState) := goodIn_app (goodIn_of _ (by decide +kernel)) ggX4_begin_X4_saveState
set_option maxRecDepth 20000 in
theorem ggX4_begin_X1_open : GoodIn wsX4_begin wsX1_open := goodIn_r _ [74, 26, 75, 64, 65, 76, 77, 78, 23, 79, 25, 80, 81, 82, 48, 83, 50, 84, 85, 86, 87, 27, 66, 98, 99, 100, 101, 102, 103, 104, 105, 106, 107, 108, 109, 110, 111, 112] (by decide +kernel) (by decide +kernel)
set_option maxRecDepth 20000 in
theorem gX4_begin_X1_open : GoodIn wsX4_begin (wsV RX4 110 RX1 yX1_open wsX1_open) := goodIn_app (goodIn_of _ (by decide +kernel)) ggX4_begin_X1_open
theorem dX4_begin_0 : decode cX4_begin 0 = .ok (.iload_n 1, 1) := by decide +kernel
theorem dX4_begin_1 : decode cX4_begin 1 = .ok (.iconst 4, 1) := by decide +kernel
theorem dX4_begin_2 : decode cX4_begin 2 = .ok (.invokestatic 31, 3) := by decide +kernel
theorem dX4_begin_5 : decode cX4_begin 5 = .ok (.ifCond .ne 13, 3) := by decide +kernel
theorem dX4_begin_8 : decode cX4_begin 8 = .ok (.new 35, 3) := by decide +kernel
theorem dX4_begin_11 : decode cX4_begin 11 = .ok (.dup, 1) := by decide +kernel
theorem dX4_begin_12 : decode cX4_begin 12 = .ok (.ldc 89, 2) := by decide +kernel
theorem dX4_begin_14 : decode cX4_begin 14 = .ok (.invokespecial 39, 3) := by decide +kernel
theorem dX4_begin_17 : decode cX4_begin 17 = .ok (.athrow, 1) := by decide +kernel
theorem dX4_begin_18 : decode cX4_begin 18 = .ok (.aload_n 0, 1) := by decide +kernel
theorem dX4_begin_19 : decode cX4_begin 19 = .ok (.getfield 10, 3) := by decide +kernel
theorem dX4_begin_22 : decode cX4_begin 22 = .ok (.iload_n 1, 1) := by decide +kernel
theorem dX4_begin_23 : decode cX4_begin 23 = .ok (.invokevirtual 105, 3) := by decide +kernel
theorem dX4_begin_26 : decode cX4_begin 26 = .ok (.ifCond .ne 13, 3) := by decide +kernel
theorem dX4_begin_29 : decode cX4_begin 29 = .ok (.new 52, 3) := by decide +kernel
theorem dX4_begin_32 : decode cX4_begin 32 = .ok (.dup, 1) := by decide +kernel
theorem dX4_begin_33 : decode cX4_begin 33 = .ok (.ldc 108, 2) := by decide +kernel
theorem dX4_begin_35 : decode cX4_begin 35 = .ok (.invokespecial 56, 3) := by decide +kernel
theorem dX4_begin_38 : decode cX4_begin 38 = .ok (.athrow, 1) := by decide +kernel
theorem dX4_begin_39 : decode cX4_begin 39 = .ok (.aload_n 0, 1) := by decide +kernel
theorem dX4_begin_40 : decode cX4_begin 40 = .ok (.invokevirtual 57, 3) := by decide +kernel
theorem dX4_begin_43 : decode cX4_begin 43 = .ok (.aload_n 0, 1) := by decide +kernel
theorem dX4_begin_44 : decode cX4_begin 44 = .ok (.getfield 10, 3) := by decide +kernel
theorem dX4_begin_47 : decode cX4_begin 47 = .ok (.getfield 91, 3) := by decide +kernel
theorem dX4_begin_50 : decode cX4_begin 50 = .ok (.iload_n 1, 1) := by decide +kernel
theorem dX4_begin_51 : decode cX4_begin 51 = .ok (.aaload, 1) := by decide +kernel
theorem dX4_begin_52 : decode cX4_begin 52 = .ok (.aload_n 0, 1) := by decide +kernel
theorem dX4_begin_53 : decode cX4_begin 53 = .ok (.getfield 10, 3) := by decide +kernel
theorem dX4_begin_56 : decode cX4_begin 56 = .ok (.getfield 42, 3) := by decide +kernel
theorem dX4_begin_59 : decode cX4_begin 59 = .ok (.invokevirtual 110, 3) := by decide +kernel
theorem dX4_begin_62 : decode cX4_begin 62 = .ok (.ifCond .eq 7, 3) := by decide +kernel
theorem dX4_begin_65 : decode cX4_begin 65 = .ok (.iconst 1, 1) := by decide +kernel
theorem dX4_begin_66 : decode cX4_begin 66 = .ok (.goto 4, 3) := by decide +kernel
theorem dX4_begin_69 : decode cX4_begin 69 = .ok (.iconst 0, 1) := by decide +kernel
theorem dX4_begin_70 : decode cX4_begin 70 = .ok (.ireturn, 1) := by decide +kernel
set_option maxRecDepth 20000 in
theorem ggX4_look_X4_isBelow : GoodIn wsX4_look wsX4_isBelow := goodIn_r _ [11] (by decide +kernel) (by decide +kernel)
set_option maxRecDepth 20000 in
theorem gX4_look_X4_isBelow : GoodIn wsX4_look (va_wsS RX4 31 yX4_isBelow wsX4_isBelow) := goodIn_app (goodIn_of _ (by decide +kernel)) ggX4_look_X4_isBelow
set_option maxRecDepth 20000 in
theorem ggX4_look_X4_saveState : GoodIn wsX4_look wsX4_saveState := goodIn_r _ [15, 16, 17, 5, 18, 19, 20, 21, 10, 22, 23, 24, 25, 26, 27, 28, 29, 30, 31, 32, 33, 34, 35, 36, 37, 38, 39, 40, 41, 42, 43, 44, 45, 46, 47, 48, 49, 50, 51, 52, 53, 54, 55, 56, 57, 58, 59, 60, 61, 109, 110, 111, 112, 113, 114, 115, 116, 117, 118, 129, 130, 131, 132, 133, 119, 120, 121, 122, 123, 124, 125, 126, 127, 128] (by decide +kernel) (by decide +kernel)
set_option maxRecDepth 20000 in
theorem gX4_look_X4_saveState : GoodIn wsX4_look (wsV RX4 57 RX4 yX4_saveState wsX4_saveState) := goodIn_app (goodIn_of _ (by decide +kernel)) ggX4_look_X4_saveState
set_option maxRecDepth 20000 in
theorem ggX4_look_X2_glance : GoodIn wsX4_look wsX2_glance := goodIn_r _ [65, 29, 66, 28, 67, 30, 68, 69, 70, 49, 71, 72, 55, 61, 73, 74, 75, 76, 51, 52, 54, 77, 78, 79, 80, 35, 81, 37, 82, 83, 84, 85, 56, 57, 86, 87, 88, 89, 53, 59, 60, 40, 41, 42, 58, 90, 91, 92, 93, 94, 95, 96, 97, 98, 99, 100, 101, 102, 103, 104, 105, 106, 107, 108, 45, 115, 116, 117, 118, 119, 120, 121, 122, 123, 124, 125, 126, 127, 128, 129, 130, 131, 132, 133] (by decide +kernel) (by decide +kernel)
set_option maxRecDepth 20000 in
theorem gX4_look_X2_glance : GoodIn wsX4_look (wsV RX4 119 RX2 yX2_glance wsX2_glance) := goodIn_app (goodIn_of _ (by decide +kernel)) ggX4_look_X2_glance
theorem dX4_look_0 : decode cX4_look 0 = .ok (.iload_n 1, 1) := by decide +kernel
theorem dX4_look_1 : decode cX4_look 1 = .ok (.iconst 4, 1) := by decide +kernel
theorem dX4_look_2 : decode cX4_look 2 = .ok (.invokestatic 31, 3) := by decide +kernel
theorem dX4_look_5 : decode cX4_look 5 = .ok (.ifCond .ne 13, 3) := by decide +kernel
theorem dX4_look_8 : decode cX4_look 8 = .ok (.new 35, 3) := by decide +kernel
theorem dX4_look_11 : decode cX4_look 11 = .ok (.dup, 1) := by decide +kernel
theorem dX4_look_12 : decode cX4_look 12 = .ok (.ldc 89, 2) := by decide +kernel
theorem dX4_look_14 : decode cX4_look 14 = .ok (.invokespecial 39, 3) := by decide +kernel
theorem dX4_look_17 : decode cX4_look 17 = .ok (.athrow, 1) := by decide +kernel
theorem dX4_look_18 : decode cX4_look 18 = .ok (.aload_n 0, 1) := by decide +kernel
theorem dX4_look_19 : decode cX4_look 19 = .ok (.getfield 10, 3) := by decide +kernel
theorem dX4_look_22 : decode cX4_look 22 = .ok (.getfield 91, 3) := by decide +kernel
theorem dX4_look_25 : decode cX4_look 25 = .ok (.iload_n 1, 1) := by decide +kernel
theorem dX4_look_26 : decode cX4_look 26 = .ok (.aaload, 1) := by decide +kernel
theorem dX4_look_27 : decode cX4_look 27 = .ok (.getfield 114, 3) := by decide +kernel
theorem dX4_look_30 : decode cX4_look 30 = .ok (.ifCond .ne 13, 3) := by decide +kernel
theorem dX4_look_33 : decode cX4_look 33 = .ok (.new 52, 3) := by decide +kernel
theorem dX4_look_36 : decode cX4_look 36 = .ok (.dup, 1) := by decide +kernel
theorem dX4_look_37 : decode cX4_look 37 = .ok (.ldc 117, 2) := by decide +kernel
theorem dX4_look_39 : decode cX4_look 39 = .ok (.invokespecial 56, 3) := by decide +kernel
theorem dX4_look_42 : decode cX4_look 42 = .ok (.athrow, 1) := by decide +kernel
theorem dX4_look_43 : decode cX4_look 43 = .ok (.aload_n 0, 1) := by decide +kernel
theorem dX4_look_44 : decode cX4_look 44 = .ok (.invokevirtual 57, 3) := by decide +kernel
theorem dX4_look_47 : decode cX4_look 47 = .ok (.aload_n 0, 1) := by decide +kernel
theorem dX4_look_48 : decode cX4_look 48 = .ok (.getfield 10, 3) := by decide +kernel
theorem dX4_look_51 : decode cX4_look 51 = .ok (.iload_n 1, 1) := by decide +kernel
theorem dX4_look_52 : decode cX4_look 52 = .ok (.invokevirtual 119, 3) := by decide +kernel
theorem dX4_look_55 : decode cX4_look 55 = .ok (.ireturn, 1) := by decide +kernel
set_option maxRecDepth 20000 in
theorem ggX4_set_X4_saveState : GoodIn wsX4_set wsX4_saveState := goodIn_r _ [9, 10, 11, 3, 12, 13, 14, 15, 8, 16, 17, 18, 19, 20, 21, 22, 23, 24, 25, 26, 27, 28, 29, 30, 31, 32, 33, 34, 35, 36, 37, 38, 39, 40, 41, 42, 43, 44, 45, 46, 47, 48, 49, 50, 51, 52, 53, 54, 55, 56, 57, 58, 59, 60, 61, 62, 63, 64, 65, 66, 67, 68, 69, 70, 71, 72, 73, 74, 75, 76, 77, 78, 79, 80] (by decide +kernel) (by decide +kernel)
set_option maxRecDepth 20000 in
theorem gX4_set_X4_saveState : GoodIn wsX4_set (wsV RX4 57 RX4 yX4_saveState wsX4_saveState) := goodIn_app (goodIn_of _ (by decide +kernel)) ggX4_set_X4_saveState
theorem dX4_set_0 : decode cX4_set 0 = .ok (.iload_n 1, 1) := by decide +kernel
theorem dX4_set_1 : decode cX4_set 1 = .ok (.iconst 1, 1) := by decide +kernel
theorem dX4_set_2 : decode cX4_set 2 = .ok (.if_icmp .lt 9, 3) := by decide +kernel
theorem dX4_set_5 : decode cX4_set 5 = .ok (.iload_n 1, 1) := by decide +kernel
theorem dX4_set_6 : decode cX4_set 6 = .ok (.bipush 20, 2) := by decide +kernel
theorem dX4_set_8 : decode cX4_set 8 = .ok (.if_icmp .le 13, 3) := by decide +kernel
theorem dX4_set_11 : decode cX4_set 11 = .ok (.new 66, 3) := by decide +kernel
theorem dX4_set_14 : decode cX4_set 14 = .ok (.dup, 1) := by decide +kernel
theorem dX4_set_15 : decode cX4_set 15 = .ok (.ldc 68, 2) := by decide +kernel
theorem dX4_set_17 : decode cX4_set 17 = .ok (.invokespecial 70, 3) := by decide +kernel
theorem dX4_set_20 : decode cX4_set 20 = .ok (.athrow, 1) := by decide +kernel
theorem dX4_set_21 : decode cX4_set 21 = .ok (.aload_n 0, 1) := by decide +kernel
theorem dX4_set_22 : decode cX4_set 22 = .ok (.invokevirtual 57, 3) := by decide +kernel
theorem dX4_set_25 : decode cX4_set 25 = .ok (.aload_n 0, 1) := by decide +kernel
theorem dX4_set_26 : decode cX4_set 26 = .ok (.getfield 10, 3) := by decide +kernel
theorem dX4_set_29 : decode cX4_set 29 = .ok (.getfield 122, 3) := by decide +kernel
theorem dX4_set_32 : decode cX4_set 32 = .ok (.istore_n 2, 1) := by decide +kernel
theorem dX4_set_33 : decode cX4_set 33 = .ok (.aload_n 0, 1) := by decide +kernel
theorem dX4_set_34 : decode cX4_set 34 = .ok (.getfield 10, 3) := by decide +kernel
theorem dX4_set_37 : decode cX4_set 37 = .ok (.iload_n 1, 1) := by decide +kernel
theorem dX4_set_38 : decode cX4_set 38 = .ok (.putfield 122, 3) := by decide +kernel
theorem dX4_set_41 : decode cX4_set 41 = .ok (.iload_n 2, 1) := by decide +kernel
theorem dX4_set_42 : decode cX4_set 42 = .ok (.ireturn, 1) := by decide +kernel
set_option maxRecDepth 20000 in
theorem ggX4_append_X3_add : GoodIn wsX4_append wsX3_add := goodIn_r _ [11, 12, 13, 14, 15, 16, 17, 18, 10, 19, 20, 21, 22, 23, 24, 25, 32, 33, 34, 35] (by decide +kernel) (by decide +kernel)
set_option maxRecDepth 20000 in
theorem gX4_append_X3_add : GoodIn wsX4_append (wsV RX4 133 RX3 yX3_add wsX3_add) := goodIn_app (goodIn_of _ (by decide +kernel)) ggX4_append_X3_add
theorem dX4_append_0 : decode cX4_append 0 = .ok (.iload_n 1, 1) := by decide +kernel
theorem dX4_append_1 : decode cX4_append 1 = .ok (.bipush 33, 2) := by decide +kernel
theorem dX4_append_3 : decode cX4_append 3 = .ok (.if_icmp .lt 9, 3) := by decide +kernel
theorem dX4_append_6 : decode cX4_append 6 = .ok (.iload_n 1, 1) := by decide +kernel
theorem dX4_append_7 : decode cX4_append 7 = .ok (.bipush 126, 2) := by decide +kernel
theorem dX4_append_9 : decode cX4_append 9 = .ok (.if_icmp .le 13, 3) := by decide +kernel
theorem dX4_append_12 : decode cX4_append 12 = .ok (.new 66, 3) := by decide +kernel
theorem dX4_append_15 : decode cX4_append 15 = .ok (.dup, 1) := by decide +kernel
theorem dX4_append_16 : decode cX4_append 16 = .ok (.ldc 126, 2) := by decide +kernel
theorem dX4_append_18 : decode cX4_append 18 = .ok (.invokespecial 70, 3) := by decide +kernel
theorem dX4_append_21 : decode cX4_append 21 = .ok (.athrow, 1) := by decide +kernel
theorem dX4_append_22 : decode cX4_append 22 = .ok (.aload_n 0, 1) := by decide +kernel
theorem dX4_append_23 : decode cX4_append 23 = .ok (.getfield 23, 3) := by decide +kernel
theorem dX4_append_26 : decode cX4_append 26 = .ok (.getfield 128, 3) := by decide +kernel
theorem dX4_append_29 : decode cX4_append 29 = .ok (.bipush 60, 2) := by decide +kernel
theorem dX4_append_31 : decode cX4_append 31 = .ok (.if_icmp .lt 13, 3) := by decide +kernel
theorem dX4_append_34 : decode cX4_append 34 = .ok (.new 52, 3) := by decide +kernel
theorem dX4_append_37 : decode cX4_append 37 = .ok (.dup, 1) := by decide +kernel
theorem dX4_append_38 : decode cX4_append 38 = .ok (.ldc 131, 2) := by decide +kernel
theorem dX4_append_40 : decode cX4_append 40 = .ok (.invokespecial 56, 3) := by decide +kernel
theorem dX4_append_43 : decode cX4_append 43 = .ok (.athrow, 1) := by decide +kernel
theorem dX4_append_44 : decode cX4_append 44 = .ok (.aload_n 0, 1) := by decide +kernel
theorem dX4_append_45 : decode cX4_append 45 = .ok (.getfield 23, 3) := by decide +kernel
theorem dX4_append_48 : decode cX4_append 48 = .ok (.iload_n 1, 1) := by decide +kernel
theorem dX4_append_49 : decode cX4_append 49 = .ok (.invokevirtual 133, 3) := by decide +kernel
theorem dX4_append_52 : decode cX4_append 52 = .ok (.aload_n 0, 1) := by decide +kernel
theorem dX4_append_53 : decode cX4_append 53 = .ok (.getfield 23, 3) := by decide +kernel
theorem dX4_append_56 : decode cX4_append 56 = .ok (.getfield 128, 3) := by decide +kernel
theorem dX4_append_59 : decode cX4_append 59 = .ok (.ireturn, 1) := by decide +kernel
set_option maxRecDepth 20000 in
theorem ggX4_clearBuffer_X3_empty : GoodIn wsX4_clearBuffer wsX3_empty := goodIn_r _ [7, 8, 9, 10, 17, 18, 19, 20] (by decide +kernel) (by decide +kernel)
set_option maxRecDepth 20000 in
theorem gX4_clearBuffer_X3_empty : GoodIn wsX4_clearBuffer (wsV RX4 137 RX3 yX3_empty wsX3_empty) := goodIn_app (goodIn_of _ (by decide +kernel)) ggX4_clearBuffer_X3_empty
theorem dX4_clearBuffer_0 : decode cX4_clearBuffer 0 = .ok (.aload_n 0, 1) := by decide +kernel
theorem dX4_clearBuffer_1 : decode cX4_clearBuffer 1 = .ok (.getfield 23, 3) := by decide +kernel
theorem dX4_clearBuffer_4 : decode cX4_clearBuffer 4 = .ok (.getfield 128, 3) := by decide +kernel
theorem dX4_clearBuffer_7 : decode cX4_clearBuffer 7 = .ok (.istore_n 1, 1) := by decide +kernel
theorem dX4_clearBuffer_8 : decode cX4_clearBuffer 8 = .ok (.aload_n 0, 1) := by decide +kernel
theorem dX4_clearBuffer_9 : decode cX4_clearBuffer 9 = .ok (.getfield 23, 3) := by decide +kernel
theorem dX4_clearBuffer_12 : decode cX4_clearBuffer 12 = .ok (.invokevirtual 137, 3) := by decide +kernel
theorem dX4_clearBuffer_15 : decode cX4_clearBuffer 15 = .ok (.iload_n 1, 1) := by decide +kernel
theorem dX4_clearBuffer_16 : decode cX4_clearBuffer 16 = .ok (.ireturn, 1) := by decide +kernel
