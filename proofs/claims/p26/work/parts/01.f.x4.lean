theorem dX4_chalk_0 : decode cX4_chalk 0 = .ok (.iload_n 1, 1) := by decide +kernel
theorem dX4_chalk_1 : decode cX4_chalk 1 = .ok (.iconst 5, 1) := by decide +kernel
theorem dX4_chalk_2 : decode cX4_chalk 2 = .ok (.invokestatic 31, 3) := by decide +kernel
theorem dX4_chalk_5 : decode cX4_chalk 5 = .ok (.ifCond .ne 13, 3) := by decide +kernel
theorem dX4_chalk_8 : decode cX4_chalk 8 = .ok (.new 35, 3) := by decide +kernel
theorem dX4_chalk_11 : decode cX4_chalk 11 = .ok (.dup, 1) := by decide +kernel
theorem dX4_chalk_12 : decode cX4_chalk 12 = .ok (.ldc 64, 2) := by decide +kernel
theorem dX4_chalk_14 : decode cX4_chalk 14 = .ok (.invokespecial 39, 3) := by decide +kernel
theorem dX4_chalk_17 : decode cX4_chalk 17 = .ok (.athrow, 1) := by decide +kernel
theorem dX4_chalk_18 : decode cX4_chalk 18 = .ok (.iload_n 2, 1) := by decide +kernel
theorem dX4_chalk_19 : decode cX4_chalk 19 = .ok (.bipush 100, 2) := by decide +kernel
theorem dX4_chalk_21 : decode cX4_chalk 21 = .ok (.invokestatic 31, 3) := by decide +kernel
theorem dX4_chalk_24 : decode cX4_chalk 24 = .ok (.ifCond .ne 13, 3) := by decide +kernel
theorem dX4_chalk_27 : decode cX4_chalk 27 = .ok (.new 66, 3) := by decide +kernel
theorem dX4_chalk_30 : decode cX4_chalk 30 = .ok (.dup, 1) := by decide +kernel
theorem dX4_chalk_31 : decode cX4_chalk 31 = .ok (.ldc 68, 2) := by decide +kernel
theorem dX4_chalk_33 : decode cX4_chalk 33 = .ok (.invokespecial 70, 3) := by decide +kernel
theorem dX4_chalk_36 : decode cX4_chalk 36 = .ok (.athrow, 1) := by decide +kernel
theorem dX4_chalk_37 : decode cX4_chalk 37 = .ok (.aload_n 0, 1) := by decide +kernel
theorem dX4_chalk_38 : decode cX4_chalk 38 = .ok (.getfield 10, 3) := by decide +kernel
theorem dX4_chalk_41 : decode cX4_chalk 41 = .ok (.getfield 42, 3) := by decide +kernel
theorem dX4_chalk_44 : decode cX4_chalk 44 = .ok (.invokevirtual 71, 3) := by decide +kernel
theorem dX4_chalk_47 : decode cX4_chalk 47 = .ok (.ifCond .ne 13, 3) := by decide +kernel
theorem dX4_chalk_50 : decode cX4_chalk 50 = .ok (.new 52, 3) := by decide +kernel
theorem dX4_chalk_53 : decode cX4_chalk 53 = .ok (.dup, 1) := by decide +kernel
theorem dX4_chalk_54 : decode cX4_chalk 54 = .ok (.ldc 75, 2) := by decide +kernel
theorem dX4_chalk_56 : decode cX4_chalk 56 = .ok (.invokespecial 56, 3) := by decide +kernel
theorem dX4_chalk_59 : decode cX4_chalk 59 = .ok (.athrow, 1) := by decide +kernel
theorem dX4_chalk_60 : decode cX4_chalk 60 = .ok (.aload_n 0, 1) := by decide +kernel
theorem dX4_chalk_61 : decode cX4_chalk 61 = .ok (.invokevirtual 57, 3) := by decide +kernel
theorem dX4_chalk_64 : decode cX4_chalk 64 = .ok (.aload_n 0, 1) := by decide +kernel
theorem dX4_chalk_65 : decode cX4_chalk 65 = .ok (.getfield 10, 3) := by decide +kernel
theorem dX4_chalk_68 : decode cX4_chalk 68 = .ok (.getfield 42, 3) := by decide +kernel
theorem dX4_chalk_71 : decode cX4_chalk 71 = .ok (.iload_n 1, 1) := by decide +kernel
theorem dX4_chalk_72 : decode cX4_chalk 72 = .ok (.iload_n 2, 1) := by decide +kernel
theorem dX4_chalk_73 : decode cX4_chalk 73 = .ok (.invokevirtual 77, 3) := by decide +kernel
theorem dX4_chalk_76 : decode cX4_chalk 76 = .ok (.ireturn, 1) := by decide +kernel
set_option maxRecDepth 20000 in
theorem ggX4_done_X4_isBelow : GoodIn wsX4_done wsX4_isBelow := goodIn_r _ [10] (by decide +kernel) (by decide +kernel)
set_option maxRecDepth 20000 in
theorem gX4_done_X4_isBelow : GoodIn wsX4_done (va_wsS RX4 31 yX4_isBelow wsX4_isBelow) := goodIn_app (goodIn_of _ (by decide +kernel)) ggX4_done_X4_isBelow
set_option maxRecDepth 20000 in
theorem ggX4_done_X0_isChalking : GoodIn wsX4_done wsX0_isChalking := goodIn_r _ [15, 16, 106, 107, 108, 109, 110] (by decide +kernel) (by decide +kernel)
set_option maxRecDepth 20000 in
theorem gX4_done_X0_isChalking : GoodIn wsX4_done (wsV RX4 81 RX0 yX0_isChalking wsX0_isChalking) := goodIn_app (goodIn_of _ (by decide +kernel)) ggX4_done_X0_isChalking
set_option maxRecDepth 20000 in
theorem ggX4_done_X4_saveState : GoodIn wsX4_done wsX4_saveState := goodIn_r _ [20, 21, 22, 5, 23, 24, 25, 26, 9, 27, 28, 29, 30, 31, 32, 33, 34, 35, 36, 37, 38, 39, 14, 40, 41, 42, 43, 44, 45, 46, 47, 16, 48, 49, 50, 51, 52, 53, 54, 55, 56, 57, 58, 59, 60, 61, 62, 63, 64, 96, 97, 98, 99, 100, 101, 102, 103, 104, 105, 106, 107, 108, 109, 110, 111, 112, 113, 114, 115, 116, 117, 118, 119, 120] (by decide +kernel) (by decide +kernel)
set_option maxRecDepth 20000 in
theorem gX4_done_X4_saveState : GoodIn wsX4_done (wsV RX4 57 RX4 yX4_saveState wsX4_saveState) := goodIn_app (goodIn_of _ (by decide +kernel)) ggX4_done_X4_saveState
set_option maxRecDepth 20000 in
theorem ggX4_done_X0_leave : GoodIn wsX4_done wsX0_leave := goodIn_r _ [68, 47, 41, 69, 70, 71, 14, 72, 16, 73, 74, 75, 76, 42, 48, 43, 44, 45, 46, 77, 78, 79, 80, 81, 82, 83, 84, 85, 86, 87, 88, 89, 90, 91, 92, 93, 94, 95, 106, 107, 108, 109, 110] (by decide +kernel) (by decide +kernel)
set_option maxRecDepth 20000 in
theorem gX4_done_X0_leave : GoodIn wsX4_done (wsV RX4 86 RX0 yX0_leave wsX0_leave) := goodIn_app (goodIn_of _ (by decide +kernel)) ggX4_done_X0_leave
theorem dX4_done_0 : decode cX4_done 0 = .ok (.iload_n 1, 1) := by decide +kernel
theorem dX4_done_1 : decode cX4_done 1 = .ok (.iconst 3, 1) := by decide +kernel
theorem dX4_done_2 : decode cX4_done 2 = .ok (.invokestatic 31, 3) := by decide +kernel
theorem dX4_done_5 : decode cX4_done 5 = .ok (.ifCond .ne 13, 3) := by decide +kernel
theorem dX4_done_8 : decode cX4_done 8 = .ok (.new 35, 3) := by decide +kernel
theorem dX4_done_11 : decode cX4_done 11 = .ok (.dup, 1) := by decide +kernel
theorem dX4_done_12 : decode cX4_done 12 = .ok (.ldc 37, 2) := by decide +kernel
theorem dX4_done_14 : decode cX4_done 14 = .ok (.invokespecial 39, 3) := by decide +kernel
theorem dX4_done_17 : decode cX4_done 17 = .ok (.athrow, 1) := by decide +kernel
theorem dX4_done_18 : decode cX4_done 18 = .ok (.aload_n 0, 1) := by decide +kernel
theorem dX4_done_19 : decode cX4_done 19 = .ok (.getfield 10, 3) := by decide +kernel
theorem dX4_done_22 : decode cX4_done 22 = .ok (.getfield 42, 3) := by decide +kernel
theorem dX4_done_25 : decode cX4_done 25 = .ok (.iload_n 1, 1) := by decide +kernel
theorem dX4_done_26 : decode cX4_done 26 = .ok (.invokevirtual 81, 3) := by decide +kernel
theorem dX4_done_29 : decode cX4_done 29 = .ok (.ifCond .ne 13, 3) := by decide +kernel
theorem dX4_done_32 : decode cX4_done 32 = .ok (.new 52, 3) := by decide +kernel
theorem dX4_done_35 : decode cX4_done 35 = .ok (.dup, 1) := by decide +kernel
theorem dX4_done_36 : decode cX4_done 36 = .ok (.ldc 84, 2) := by decide +kernel
theorem dX4_done_38 : decode cX4_done 38 = .ok (.invokespecial 56, 3) := by decide +kernel
theorem dX4_done_41 : decode cX4_done 41 = .ok (.athrow, 1) := by decide +kernel
theorem dX4_done_42 : decode cX4_done 42 = .ok (.aload_n 0, 1) := by decide +kernel
theorem dX4_done_43 : decode cX4_done 43 = .ok (.invokevirtual 57, 3) := by decide +kernel
theorem dX4_done_46 : decode cX4_done 46 = .ok (.aload_n 0, 1) := by decide +kernel
theorem dX4_done_47 : decode cX4_done 47 = .ok (.getfield 10, 3) := by decide +kernel
theorem dX4_done_50 : decode cX4_done 50 = .ok (.getfield 42, 3) := by decide +kernel
theorem dX4_done_53 : decode cX4_done 53 = .ok (.iload_n 1, 1) := by decide +kernel
theorem dX4_done_54 : decode cX4_done 54 = .ok (.invokevirtual 86, 3) := by decide +kernel
theorem dX4_done_57 : decode cX4_done 57 = .ok (.ireturn, 1) := by decide +kernel
set_option maxRecDepth 20000 in
theorem ggX4_reader_X4_isBelow : GoodIn wsX4_reader wsX4_isBelow := goodIn_r _ [9] (by decide +kernel) (by decide +kernel)
set_option maxRecDepth 20000 in
theorem gX4_reader_X4_isBelow : GoodIn wsX4_reader (va_wsS RX4 31 yX4_isBelow wsX4_isBelow) := goodIn_app (goodIn_of _ (by decide +kernel)) ggX4_reader_X4_isBelow
set_option maxRecDepth 20000 in
theorem ggX4_reader_X4_saveState : GoodIn wsX4_reader wsX4_saveState := goodIn_r _ [13, 14, 15, 3, 16, 17, 18, 19, 8, 20, 21, 22, 23, 24, 25, 26, 27, 28, 29, 30, 31, 32, 33, 34, 35, 36, 37, 38, 39, 40, 41, 42, 43, 44, 45, 46, 47, 48, 49, 50, 51, 52, 53, 54, 55, 56, 57, 58, 59, 64, 65, 66, 67, 68, 69, 70, 71, 72, 73, 84, 85, 86, 87, 88, 74, 75, 76, 77, 78, 79, 80, 81, 82, 83] (by decide +kernel) (by decide +kernel)
set_option maxRecDepth 20000 in
theorem gX4_reader_X4_saveState : GoodIn wsX4_reader (wsV RX4 57 RX4 yX4_saveState wsX4_saveState) := goodIn_app (goodIn_of _ (by decide +kernel)) ggX4_reader_X4_saveState
set_option maxRecDepth 20000 in
theorem ggX4_reader_X1_startAnew : GoodIn wsX4_reader wsX1_startAnew := goodIn_r _ [63, 49, 50, 51, 54, 74, 75, 76, 77, 78, 79, 80, 81, 82, 83] (by decide +kernel) (by decide +kernel)
set_option maxRecDepth 20000 in
theorem gX4_reader_X1_startAnew : GoodIn wsX4_reader (wsV RX4 101 RX1 yX1_startAnew wsX1_startAnew) := goodIn_app (goodIn_of _ (by decide +kernel)) ggX4_reader_X1_startAnew
theorem dX4_reader_0 : decode cX4_reader 0 = .ok (.iload_n 1, 1) := by decide +kernel
theorem dX4_reader_1 : decode cX4_reader 1 = .ok (.iconst 4, 1) := by decide +kernel
theorem dX4_reader_2 : decode cX4_reader 2 = .ok (.invokestatic 31, 3) := by decide +kernel
theorem dX4_reader_5 : decode cX4_reader 5 = .ok (.ifCond .ne 13, 3) := by decide +kernel
theorem dX4_reader_8 : decode cX4_reader 8 = .ok (.new 35, 3) := by decide +kernel
theorem dX4_reader_11 : decode cX4_reader 11 = .ok (.dup, 1) := by decide +kernel
theorem dX4_reader_12 : decode cX4_reader 12 = .ok (.ldc 89, 2) := by decide +kernel
theorem dX4_reader_14 : decode cX4_reader 14 = .ok (.invokespecial 39, 3) := by decide +kernel
theorem dX4_reader_17 : decode cX4_reader 17 = .ok (.athrow, 1) := by decide +kernel
theorem dX4_reader_18 : decode cX4_reader 18 = .ok (.aload_n 0, 1) := by decide +kernel
theorem dX4_reader_19 : decode cX4_reader 19 = .ok (.invokevirtual 57, 3) := by decide +kernel
theorem dX4_reader_22 : decode cX4_reader 22 = .ok (.aload_n 0, 1) := by decide +kernel
theorem dX4_reader_23 : decode cX4_reader 23 = .ok (.getfield 10, 3) := by decide +kernel
theorem dX4_reader_26 : decode cX4_reader 26 = .ok (.getfield 91, 3) := by decide +kernel
theorem dX4_reader_29 : decode cX4_reader 29 = .ok (.iload_n 1, 1) := by decide +kernel
theorem dX4_reader_30 : decode cX4_reader 30 = .ok (.aaload, 1) := by decide +kernel
theorem dX4_reader_31 : decode cX4_reader 31 = .ok (.getfield 95, 3) := by decide +kernel
theorem dX4_reader_34 : decode cX4_reader 34 = .ok (.ifCond .eq 7, 3) := by decide +kernel
theorem dX4_reader_37 : decode cX4_reader 37 = .ok (.iconst 1, 1) := by decide +kernel
theorem dX4_reader_38 : decode cX4_reader 38 = .ok (.goto 4, 3) := by decide +kernel
theorem dX4_reader_41 : decode cX4_reader 41 = .ok (.iconst 0, 1) := by decide +kernel
theorem dX4_reader_42 : decode cX4_reader 42 = .ok (.istore_n 3, 1) := by decide +kernel
theorem dX4_reader_43 : decode cX4_reader 43 = .ok (.aload_n 0, 1) := by decide +kernel
theorem dX4_reader_44 : decode cX4_reader 44 = .ok (.getfield 10, 3) := by decide +kernel
theorem dX4_reader_47 : decode cX4_reader 47 = .ok (.getfield 91, 3) := by decide +kernel
theorem dX4_reader_50 : decode cX4_reader 50 = .ok (.iload_n 1, 1) := by decide +kernel
theorem dX4_reader_51 : decode cX4_reader 51 = .ok (.aaload, 1) := by decide +kernel
theorem dX4_reader_52 : decode cX4_reader 52 = .ok (.iload_n 2, 1) := by decide +kernel
theorem dX4_reader_53 : decode cX4_reader 53 = .ok (.invokevirtual 101, 3) := by decide +kernel
theorem dX4_reader_56 : decode cX4_reader 56 = .ok (.iload_n 3, 1) := by decide +kernel
theorem dX4_reader_57 : decode cX4_reader 57 = .ok (.ireturn, 1) := by decide +kernel
set_option maxRecDepth 20000 in
theorem ggX4_begin_X4_isBelow : GoodIn wsX4_begin wsX4_isBelow := goodIn_r _ [11] (by decide +kernel) (by decide +kernel)
set_option maxRecDepth 20000 in
theorem gX4_begin_X4_isBelow : GoodIn wsX4_begin (va_wsS RX4 31 yX4_isBelow wsX4_isBelow) := goodIn_app (goodIn_of _ (by decide +kernel)) ggX4_begin_X4_isBelow
set_option maxRecDepth 20000 in
theorem ggX4_begin_X2_mayBegin : GoodIn wsX4_begin wsX2_mayBegin := goodIn_r _ [16, 17, 18, 19, 20, 21, 22, 23, 24, 25, 26, 27, 94, 95, 96, 97, 98, 99, 100, 101, 102, 103, 104, 105, 106, 107] (by decide +kernel) (by decide +kernel)
set_option maxRecDepth 20000 in
theorem gX4_begin_X2_mayBegin : GoodIn wsX4_begin (wsV RX4 105 RX2 yX2_mayBegin wsX2_mayBegin) := goodIn_app (goodIn_of _ (by decide +kernel)) ggX4_begin_X2_mayBegin
set_option maxRecDepth 20000 in
theorem ggX4_begin_X4_saveState : GoodIn wsX4_begin wsX4_saveState := goodIn_r _ [31, 32, 33, 5, 34, 35, 36, 37, 10, 38, 39, 40, 41, 15, 42, 43, 17, 44, 19, 45, 46, 47, 48, 49, 50, 51, 52, 53, 54, 55, 56, 57, 58, 59, 60, 61, 23, 62, 25, 26, 63, 64, 65, 27, 66, 67, 68, 69, 70, 88, 89, 90, 91, 92, 93, 94, 95, 96, 97, 108, 109, 110, 111, 112, 98, 99, 100, 101, 102, 103, 104, 105, 106, 107] (by decide +kernel) (by decide +kernel)
set_option maxRecDepth 20000 in
theorem gX4_begin_X4_saveState : GoodIn wsX4_begin (wsV RX4 57 RX4 yX4_saveState wsX4_saveState) := goodIn_app (goodIn_of _ (by decide +kernel)) ggX4_begin_X4_saveState
set_option maxRecDepth 20000 in
theorem ggX4_begin_X1_open : GoodIn wsX4_begin wsX1_open := goodIn_r _ [74, 26, 75, 64, 65, 76, 77, 78, 23, 79, 25, 80, 81, 82, 48, 83, 50, 84, 85, 86, 87, 27, 66, 98, 99, 100, 101, 102, 103, 104, 105, 106, 107, 108, 109, 110, 111, 112] (by decide +kernel) (by decide +kernel)
set_option maxRecDepth 20000 in
theorem gX4_begin_X1_open : GoodIn wsX4_begin (wsV RX4 110 RX1 yX1_open wsX1_open) := goodIn_app (goodIn_of _ (by decide +kernel)) ggX4_begin_X1_open
theorem dX4_begin_0 : decode cX4_begin 0 = .ok (.iload_n 1, 1) := by decide +kernel
theorem dX4_begin_1 : decode cX4_begin 1 = .ok (.iconst 4, 1) := by decide +kernel
theorem dX4_begin_2 : decode cX4_begin 2 = .ok (.invokestatic 31, 3) := by decide +kernel
theorem dX4_begin_5 : decode cX4_begin 5 = .ok (.ifCond .ne 13, 3) := by decide +kernel
theorem dX4_begin_8 : decode cX4_begin 8 = .ok (.new 35, 3) := by decide +kernel
theorem dX4_begin_11 : decode cX4_begin 11 = .ok (.dup, 1) := by decide +kernel
theorem dX4_begin_12 : decode cX4_begin 12 = .ok (.ldc 89, 2) := by decide +kernel
theorem dX4_begin_14 : decode cX4_begin 14 = .ok (.invokespecial 39, 3) := by decide +kernel
theorem dX4_begin_17 : decode cX4_begin 17 = .ok (.athrow, 1) := by decide +kernel
theorem dX4_begin_18 : decode cX4_begin 18 = .ok (.aload_n 0, 1) := by decide +kernel
theorem dX4_begin_19 : decode cX4_begin 19 = .ok (.getfield 10, 3) := by decide +kernel
theorem dX4_begin_22 : decode cX4_begin 22 = .ok (.iload_n 1, 1) := by decide +kernel
theorem dX4_begin_23 : decode cX4_begin 23 = .ok (.invokevirtual 105, 3) := by decide +kernel
theorem dX4_begin_26 : decode cX4_begin 26 = .ok (.ifCond .ne 13, 3) := by decide +kernel
theorem dX4_begin_29 : decode cX4_begin 29 = .ok (.new 52, 3) := by decide +kernel
theorem dX4_begin_32 : decode cX4_begin 32 = .ok (.dup, 1) := by decide +kernel
theorem dX4_begin_33 : decode cX4_begin 33 = .ok (.ldc 108, 2) := by decide +kernel
theorem dX4_begin_35 : decode cX4_begin 35 = .ok (.invokespecial 56, 3) := by decide +kernel
theorem dX4_begin_38 : decode cX4_begin 38 = .ok (.athrow, 1) := by decide +kernel
theorem dX4_begin_39 : decode cX4_begin 39 = .ok (.aload_n 0, 1) := by decide +kernel
theorem dX4_begin_40 : decode cX4_begin 40 = .ok (.invokevirtual 57, 3) := by decide +kernel
theorem dX4_begin_43 : decode cX4_begin 43 = .ok (.aload_n 0, 1) := by decide +kernel
theorem dX4_begin_44 : decode cX4_begin 44 = .ok (.getfield 10, 3) := by decide +kernel
theorem dX4_begin_47 : decode cX4_begin 47 = .ok (.getfield 91, 3) := by decide +kernel
theorem dX4_begin_50 : decode cX4_begin 50 = .ok (.iload_n 1, 1) := by decide +kernel
theorem dX4_begin_51 : decode cX4_begin 51 = .ok (.aaload, 1) := by decide +kernel
theorem dX4_begin_52 : decode cX4_begin 52 = .ok (.aload_n 0, 1) := by decide +kernel
theorem dX4_begin_53 : decode cX4_begin 53 = .ok (.getfield 10, 3) := by decide +kernel
theorem dX4_begin_56 : decode cX4_begin 56 = .ok (.getfield 42, 3) := by decide +kernel
theorem dX4_begin_59 : decode cX4_begin 59 = .ok (.invokevirtual 110, 3) := by decide +kernel
theorem dX4_begin_62 : decode cX4_begin 62 = .ok (.ifCond .eq 7, 3) := by decide +kernel
theorem dX4_begin_65 : decode cX4_begin 65 = .ok (.iconst 1, 1) := by decide +kernel
theorem dX4_begin_66 : decode cX4_begin 66 = .ok (.goto 4, 3) := by decide +kernel
theorem dX4_begin_69 : decode cX4_begin 69 = .ok (.iconst 0, 1) := by decide +kernel
theorem dX4_begin_70 : decode cX4_begin 70 = .ok (.ireturn, 1) := by decide +kernel
set_option maxRecDepth 20000 in
theorem ggX4_look_X4_isBelow : GoodIn wsX4_look wsX4_isBelow := goodIn_r _ [11] (by decide +kernel) (by decide +kernel)
set_option maxRecDepth 20000 in
theorem gX4_look_X4_isBelow : GoodIn wsX4_look (va_wsS RX4 31 yX4_isBelow wsX4_isBelow) := goodIn_app (goodIn_of _ (by decide +kernel)) ggX4_look_X4_isBelow
set_option maxRecDepth 20000 in
theorem ggX4_look_X4_saveState : GoodIn wsX4_look wsX4_saveState := goodIn_r _ [15, 16, 17, 5, 18, 19, 20, 21, 10, 22, 23, 24, 25, 26, 27, 28, 29, 30, 31, 32, 33, 34, 35, 36, 37, 38, 39, 40, 41, 42, 43, 44, 45, 46, 47, 48, 49, 50, 51, 52, 53, 54, 55, 56, 57, 58, 59, 60, 61, 109, 110, 111, 112, 113, 114, 115, 116, 117, 118, 129, 130, 131, 132, 133, 119, 120, 121, 122, 123, 124, 125, 126, 127, 128] (by decide +kernel) (by decide +kernel)
set_option maxRecDepth 20000 in
theorem gX4_look_X4_saveState : GoodIn wsX4_look (wsV RX4 57 RX4 yX4_saveState wsX4_saveState) := goodIn_app (goodIn_of _ (by decide +kernel)) ggX4_look_X4_saveState
set_option maxRecDepth 20000 in
theorem ggX4_look_X2_glance : GoodIn wsX4_look wsX2_glance := goodIn_r _ [65, 29, 66, 28, 67, 30, 68, 69, 70, 49, 71, 72, 55, 61, 73, 74, 75, 76, 51, 52, 54, 77, 78, 79, 80, 35, 81, 37, 82, 83, 84, 85, 56, 57, 86, 87, 88, 89, 53, 59, 60, 40, 41, 42, 58, 90, 91, 92, 93, 94, 95, 96, 97, 98, 99, 100, 101, 102, 103, 104, 105, 106, 107, 108, 45, 115, 116, 117, 118, 119, 120, 121, 122, 123, 124, 125, 126, 127, 128, 129, 130, 131, 132, 133] (by decide +kernel) (by decide +kernel)
set_option maxRecDepth 20000 in
theorem gX4_look_X2_glance : GoodIn wsX4_look (wsV RX4 119 RX2 yX2_glance wsX2_glance) := goodIn_app (goodIn_of _ (by decide +kernel)) ggX4_look_X2_glance
theorem dX4_look_0 : decode cX4_look 0 = .ok (.iload_n 1, 1) := by decide +kernel
theorem dX4_look_1 : decode cX4_look 1 = .ok (.iconst 4, 1) := by decide +kernel
theorem dX4_look_2 : decode cX4_look 2 = .ok (.invokestatic 31, 3) := by decide +kernel
theorem dX4_look_5 : decode cX4_look 5 = .ok (.ifCond .ne 13, 3) := by decide +kernel
theorem dX4_look_8 : decode cX4_look 8 = .ok (.new 35, 3) := by decide +kernel
theorem dX4_look_11 : decode cX4_look 11 = .ok (.dup, 1) := by decide +kernel
theorem dX4_look_12 : decode cX4_look 12 = .ok (.ldc 89, 2) := by decide +kernel
theorem dX4_look_14 : decode cX4_look 14 = .ok (.invokespecial 39, 3) := by decide +kernel
theorem dX4_look_17 : decode cX4_look 17 = .ok (.athrow, 1) := by decide +kernel
theorem dX4_look_18 : decode cX4_look 18 = .ok (.aload_n 0, 1) := by decide +kernel
theorem dX4_look_19 : decode cX4_look 19 = .ok (.getfield 10, 3) := by decide +kernel
theorem dX4_look_22 : decode cX4_look 22 = .ok (.getfield 91, 3) := by decide +kernel
theorem dX4_look_25 : decode cX4_look 25 = .ok (.iload_n 1, 1) := by decide +kernel
theorem dX4_look_26 : decode cX4_look 26 = .ok (.aaload, 1) := by decide +kernel
theorem dX4_look_27 : decode cX4_look 27 = .ok (.getfield 114, 3) := by decide +kernel
theorem dX4_look_30 : decode cX4_look 30 = .ok (.ifCond .ne 13, 3) := by decide +kernel
theorem dX4_look_33 : decode cX4_look 33 = .ok (.new 52, 3) := by decide +kernel
theorem dX4_look_36 : decode cX4_look 36 = .ok (.dup, 1) := by decide +kernel
theorem dX4_look_37 : decode cX4_look 37 = .ok (.ldc 117, 2) := by decide +kernel
theorem dX4_look_39 : decode cX4_look 39 = .ok (.invokespecial 56, 3) := by decide +kernel
theorem dX4_look_42 : decode cX4_look 42 = .ok (.athrow, 1) := by decide +kernel
theorem dX4_look_43 : decode cX4_look 43 = .ok (.aload_n 0, 1) := by decide +kernel
theorem dX4_look_44 : decode cX4_look 44 = .ok (.invokevirtual 57, 3) := by decide +kernel
theorem dX4_look_47 : decode cX4_look 47 = .ok (.aload_n 0, 1) := by decide +kernel
theorem dX4_look_48 : decode cX4_look 48 = .ok (.getfield 10, 3) := by decide +kernel
theorem dX4_look_51 : decode cX4_look 51 = .ok (.iload_n 1, 1) := by decide +kernel
theorem dX4_look_52 : decode cX4_look 52 = .ok (.invokevirtual 119, 3) := by decide +kernel
theorem dX4_look_55 : decode cX4_look 55 = .ok (.ireturn, 1) := by decide +kernel
set_option maxRecDepth 20000 in
theorem ggX4_set_X4_saveState : GoodIn wsX4_set wsX4_saveState := goodIn_r _ [9, 10, 11, 3, 12, 13, 14, 15, 8, 16, 17, 18, 19, 20, 21, 22, 23, 24, 25, 26, 27, 28, 29, 30, 31, 32, 33, 34, 35, 36, 37, 38, 39, 40, 41, 42, 43, 44, 45, 46, 47, 48, 49, 50, 51, 52, 53, 54, 55, 56, 57, 58, 59, 60, 61, 62, 63, 64, 65, 66, 67, 68, 69, 70, 71, 72, 73, 74, 75, 76, 77, 78, 79, 80] (by decide +kernel) (by decide +kernel)
set_option maxRecDepth 20000 in
theorem gX4_set_X4_saveState : GoodIn wsX4_set (wsV RX4 57 RX4 yX4_saveState wsX4_saveState) := goodIn_app (goodIn_of _ (by decide +kernel)) ggX4_set_X4_saveState
theorem dX4_set_0 : decode cX4_set 0 = .ok (.iload_n 1, 1) := by decide +kernel
theorem dX4_set_1 : decode cX4_set 1 = .ok (.iconst 1, 1) := by decide +kernel
theorem dX4_set_2 : decode cX4_set 2 = .ok (.if_icmp .lt 9, 3) := by decide +kernel
theorem dX4_set_5 : decode cX4_set 5 = .ok (.iload_n 1, 1) := by decide +kernel
theorem dX4_set_6 : decode cX4_set 6 = .ok (.bipush 20, 2) := by decide +kernel
theorem dX4_set_8 : decode cX4_set 8 = .ok (.if_icmp .le 13, 3) := by decide +kernel
theorem dX4_set_11 : decode cX4_set 11 = .ok (.new 66, 3) := by decide +kernel
theorem dX4_set_14 : decode cX4_set 14 = .ok (.dup, 1) := by decide +kernel
theorem dX4_set_15 : decode cX4_set 15 = .ok (.ldc 68, 2) := by decide +kernel
theorem dX4_set_17 : decode cX4_set 17 = .ok (.invokespecial 70, 3) := by decide +kernel
theorem dX4_set_20 : decode cX4_set 20 = .ok (.athrow, 1) := by decide +kernel
theorem dX4_set_21 : decode cX4_set 21 = .ok (.aload_n 0, 1) := by decide +kernel
theorem dX4_set_22 : decode cX4_set 22 = .ok (.invokevirtual 57, 3) := by decide +kernel
theorem dX4_set_25 : decode cX4_set 25 = .ok (.aload_n 0, 1) := by decide +kernel
theorem dX4_set_26 : decode cX4_set 26 = .ok (.getfield 10, 3) := by decide +kernel
theorem dX4_set_29 : decode cX4_set 29 = .ok (.getfield 122, 3) := by decide +kernel
theorem dX4_set_32 : decode cX4_set 32 = .ok (.istore_n 2, 1) := by decide +kernel
theorem dX4_set_33 : decode cX4_set 33 = .ok (.aload_n 0, 1) := by decide +kernel
theorem dX4_set_34 : decode cX4_set 34 = .ok (.getfield 10, 3) := by decide +kernel
theorem dX4_set_37 : decode cX4_set 37 = .ok (.iload_n 1, 1) := by decide +kernel
theorem dX4_set_38 : decode cX4_set 38 = .ok (.putfield 122, 3) := by decide +kernel
theorem dX4_set_41 : decode cX4_set 41 = .ok (.iload_n 2, 1) := by decide +kernel
theorem dX4_set_42 : decode cX4_set 42 = .ok (.ireturn, 1) := by decide +kernel
set_option maxRecDepth 20000 in
theorem ggX4_undo_X4_savedPlace : GoodIn wsX4_undo wsX4_savedPlace := goodIn_r _ [10, 11, 51, 52, 53, 54, 55, 56] (by decide +kernel) (by decide +kernel)
set_option maxRecDepth 20000 in
theorem gX4_undo_X4_savedPlace : GoodIn wsX4_undo (wsV RX4 157 RX4 yX4_savedPlace wsX4_savedPlace) := goodIn_app (goodIn_of _ (by decide +kernel)) ggX4_undo_X4_savedPlace
set_option maxRecDepth 20000 in
theorem ggX4_undo_X2_copyFrom : GoodIn wsX4_undo wsX2_copyFrom := goodIn_r _ [16, 17, 18, 19, 20, 21, 22, 23, 24, 25, 26, 27, 28, 29, 30, 31, 32, 33, 34, 35, 36, 37, 38, 39, 40, 41, 42, 43, 44, 45, 46, 47, 48, 49, 50, 57, 58, 59, 60, 61, 62, 63, 64, 65, 66, 67, 68, 69, 70, 71, 72, 73, 74, 75] (by decide +kernel) (by decide +kernel)
set_option maxRecDepth 20000 in
theorem gX4_undo_X2_copyFrom : GoodIn wsX4_undo (wsV RX4 160 RX2 yX2_copyFrom wsX2_copyFrom) := goodIn_app (goodIn_of _ (by decide +kernel)) ggX4_undo_X2_copyFrom
theorem dX4_undo_0 : decode cX4_undo 0 = .ok (.aload_n 0, 1) := by decide +kernel
theorem dX4_undo_1 : decode cX4_undo 1 = .ok (.getfield 152, 3) := by decide +kernel
theorem dX4_undo_4 : decode cX4_undo 4 = .ok (.ifCond .gt 13, 3) := by decide +kernel
theorem dX4_undo_7 : decode cX4_undo 7 = .ok (.new 52, 3) := by decide +kernel
theorem dX4_undo_10 : decode cX4_undo 10 = .ok (.dup, 1) := by decide +kernel
theorem dX4_undo_11 : decode cX4_undo 11 = .ok (.ldc 155, 2) := by decide +kernel
theorem dX4_undo_13 : decode cX4_undo 13 = .ok (.invokespecial 56, 3) := by decide +kernel
theorem dX4_undo_16 : decode cX4_undo 16 = .ok (.athrow, 1) := by decide +kernel
theorem dX4_undo_17 : decode cX4_undo 17 = .ok (.aload_n 0, 1) := by decide +kernel
theorem dX4_undo_18 : decode cX4_undo 18 = .ok (.dup, 1) := by decide +kernel
theorem dX4_undo_19 : decode cX4_undo 19 = .ok (.getfield 152, 3) := by decide +kernel
theorem dX4_undo_22 : decode cX4_undo 22 = .ok (.iconst 1, 1) := by decide +kernel
theorem dX4_undo_23 : decode cX4_undo 23 = .ok (.isub, 1) := by decide +kernel
theorem dX4_undo_24 : decode cX4_undo 24 = .ok (.putfield 152, 3) := by decide +kernel
theorem dX4_undo_27 : decode cX4_undo 27 = .ok (.aload_n 0, 1) := by decide +kernel
theorem dX4_undo_28 : decode cX4_undo 28 = .ok (.getfield 10, 3) := by decide +kernel
theorem dX4_undo_31 : decode cX4_undo 31 = .ok (.aload_n 0, 1) := by decide +kernel
theorem dX4_undo_32 : decode cX4_undo 32 = .ok (.getfield 16, 3) := by decide +kernel
theorem dX4_undo_35 : decode cX4_undo 35 = .ok (.aload_n 0, 1) := by decide +kernel
theorem dX4_undo_36 : decode cX4_undo 36 = .ok (.aload_n 0, 1) := by decide +kernel
theorem dX4_undo_37 : decode cX4_undo 37 = .ok (.getfield 152, 3) := by decide +kernel
theorem dX4_undo_40 : decode cX4_undo 40 = .ok (.invokevirtual 157, 3) := by decide +kernel
theorem dX4_undo_43 : decode cX4_undo 43 = .ok (.aaload, 1) := by decide +kernel
theorem dX4_undo_44 : decode cX4_undo 44 = .ok (.invokevirtual 160, 3) := by decide +kernel
theorem dX4_undo_47 : decode cX4_undo 47 = .ok (.aload_n 0, 1) := by decide +kernel
theorem dX4_undo_48 : decode cX4_undo 48 = .ok (.getfield 152, 3) := by decide +kernel
theorem dX4_undo_51 : decode cX4_undo 51 = .ok (.ireturn, 1) := by decide +kernel
set_option maxRecDepth 20000 in
theorem ggX4_field_X4_isBelow : GoodIn wsX4_field wsX4_isBelow := goodIn_r _ [9] (by decide +kernel) (by decide +kernel)
set_option maxRecDepth 20000 in
theorem gX4_field_X4_isBelow : GoodIn wsX4_field (va_wsS RX4 31 yX4_isBelow wsX4_isBelow) := goodIn_app (goodIn_of _ (by decide +kernel)) ggX4_field_X4_isBelow
theorem dX4_field_0 : decode cX4_field 0 = .ok (.iload_n 1, 1) := by decide +kernel
theorem dX4_field_1 : decode cX4_field 1 = .ok (.iconst 5, 1) := by decide +kernel
theorem dX4_field_2 : decode cX4_field 2 = .ok (.invokestatic 31, 3) := by decide +kernel
theorem dX4_field_5 : decode cX4_field 5 = .ok (.ifCond .ne 13, 3) := by decide +kernel
theorem dX4_field_8 : decode cX4_field 8 = .ok (.new 35, 3) := by decide +kernel
theorem dX4_field_11 : decode cX4_field 11 = .ok (.dup, 1) := by decide +kernel
theorem dX4_field_12 : decode cX4_field 12 = .ok (.ldc 64, 2) := by decide +kernel
theorem dX4_field_14 : decode cX4_field 14 = .ok (.invokespecial 39, 3) := by decide +kernel
theorem dX4_field_17 : decode cX4_field 17 = .ok (.athrow, 1) := by decide +kernel
theorem dX4_field_18 : decode cX4_field 18 = .ok (.aload_n 0, 1) := by decide +kernel
theorem dX4_field_19 : decode cX4_field 19 = .ok (.getfield 10, 3) := by decide +kernel
theorem dX4_field_22 : decode cX4_field 22 = .ok (.getfield 42, 3) := by decide +kernel
theorem dX4_field_25 : decode cX4_field 25 = .ok (.getfield 164, 3) := by decide +kernel
theorem dX4_field_28 : decode cX4_field 28 = .ok (.iload_n 1, 1) := by decide +kernel
theorem dX4_field_29 : decode cX4_field 29 = .ok (.iaload, 1) := by decide +kernel
theorem dX4_field_30 : decode cX4_field 30 = .ok (.ireturn, 1) := by decide +kernel
set_option maxRecDepth 20000 in
theorem ggX4_notice_X4_isBelow : GoodIn wsX4_notice wsX4_isBelow := goodIn_r _ [10] (by decide +kernel) (by decide +kernel)
set_option maxRecDepth 20000 in
theorem gX4_notice_X4_isBelow : GoodIn wsX4_notice (va_wsS RX4 31 yX4_isBelow wsX4_isBelow) := goodIn_app (goodIn_of _ (by decide +kernel)) ggX4_notice_X4_isBelow
set_option maxRecDepth 20000 in
theorem ggX4_notice_X0_keptValue : GoodIn wsX4_notice wsX0_keptValue := goodIn_r _ [15, 16, 17, 18, 19, 14, 20, 21, 22, 23, 24, 25, 26, 27, 28, 29, 30, 31, 32, 33, 34, 35, 36, 47, 48, 49, 50, 51] (by decide +kernel) (by decide +kernel)
set_option maxRecDepth 20000 in
theorem gX4_notice_X0_keptValue : GoodIn wsX4_notice (wsV RX4 169 RX0 yX0_keptValue wsX0_keptValue) := goodIn_app (goodIn_of _ (by decide +kernel)) ggX4_notice_X0_keptValue
theorem dX4_notice_0 : decode cX4_notice 0 = .ok (.iload_n 2, 1) := by decide +kernel
theorem dX4_notice_1 : decode cX4_notice 1 = .ok (.iconst 5, 1) := by decide +kernel
theorem dX4_notice_2 : decode cX4_notice 2 = .ok (.invokestatic 31, 3) := by decide +kernel
theorem dX4_notice_5 : decode cX4_notice 5 = .ok (.ifCond .ne 13, 3) := by decide +kernel
theorem dX4_notice_8 : decode cX4_notice 8 = .ok (.new 35, 3) := by decide +kernel
theorem dX4_notice_11 : decode cX4_notice 11 = .ok (.dup, 1) := by decide +kernel
theorem dX4_notice_12 : decode cX4_notice 12 = .ok (.ldc 64, 2) := by decide +kernel
theorem dX4_notice_14 : decode cX4_notice 14 = .ok (.invokespecial 39, 3) := by decide +kernel
theorem dX4_notice_17 : decode cX4_notice 17 = .ok (.athrow, 1) := by decide +kernel
theorem dX4_notice_18 : decode cX4_notice 18 = .ok (.iload_n 1, 1) := by decide +kernel
theorem dX4_notice_19 : decode cX4_notice 19 = .ok (.ifCond .ge 13, 3) := by decide +kernel
theorem dX4_notice_22 : decode cX4_notice 22 = .ok (.new 66, 3) := by decide +kernel
theorem dX4_notice_25 : decode cX4_notice 25 = .ok (.dup, 1) := by decide +kernel
theorem dX4_notice_26 : decode cX4_notice 26 = .ok (.ldc 167, 2) := by decide +kernel
theorem dX4_notice_28 : decode cX4_notice 28 = .ok (.invokespecial 70, 3) := by decide +kernel
theorem dX4_notice_31 : decode cX4_notice 31 = .ok (.athrow, 1) := by decide +kernel
theorem dX4_notice_32 : decode cX4_notice 32 = .ok (.aload_n 0, 1) := by decide +kernel
theorem dX4_notice_33 : decode cX4_notice 33 = .ok (.getfield 10, 3) := by decide +kernel
theorem dX4_notice_36 : decode cX4_notice 36 = .ok (.getfield 42, 3) := by decide +kernel
theorem dX4_notice_39 : decode cX4_notice 39 = .ok (.iload_n 1, 1) := by decide +kernel
theorem dX4_notice_40 : decode cX4_notice 40 = .ok (.iload_n 2, 1) := by decide +kernel
theorem dX4_notice_41 : decode cX4_notice 41 = .ok (.invokevirtual 169, 3) := by decide +kernel
theorem dX4_notice_44 : decode cX4_notice 44 = .ok (.ireturn, 1) := by decide +kernel
set_option maxRecDepth 20000 in
theorem ggX4_clerk_X4_isBelow : GoodIn wsX4_clerk wsX4_isBelow := goodIn_r _ [11] (by decide +kernel) (by decide +kernel)
set_option maxRecDepth 20000 in
theorem gX4_clerk_X4_isBelow : GoodIn wsX4_clerk (va_wsS RX4 31 yX4_isBelow wsX4_isBelow) := goodIn_app (goodIn_of _ (by decide +kernel)) ggX4_clerk_X4_isBelow
set_option maxRecDepth 20000 in
theorem ggX4_clerk_X0_doing : GoodIn wsX4_clerk wsX0_doing := goodIn_r _ [16, 17, 18, 19, 15, 20, 21, 22, 23, 24, 25, 40, 41, 42, 43, 44] (by decide +kernel) (by decide +kernel)
set_option maxRecDepth 20000 in
theorem gX4_clerk_X0_doing : GoodIn wsX4_clerk (wsV RX4 172 RX0 yX0_doing wsX0_doing) := goodIn_app (goodIn_of _ (by decide +kernel)) ggX4_clerk_X0_doing
set_option maxRecDepth 20000 in
theorem ggX4_clerk_X0_waitingAhead : GoodIn wsX4_clerk wsX0_waitingAhead := goodIn_r _ [29, 21, 40, 41, 42, 43, 44] (by decide +kernel) (by decide +kernel)
set_option maxRecDepth 20000 in
theorem gX4_clerk_X0_waitingAhead : GoodIn wsX4_clerk (wsV RX4 175 RX0 yX0_waitingAhead wsX0_waitingAhead) := goodIn_app (goodIn_of _ (by decide +kernel)) ggX4_clerk_X0_waitingAhead
theorem dX4_clerk_0 : decode cX4_clerk 0 = .ok (.iload_n 1, 1) := by decide +kernel
theorem dX4_clerk_1 : decode cX4_clerk 1 = .ok (.iconst 3, 1) := by decide +kernel
theorem dX4_clerk_2 : decode cX4_clerk 2 = .ok (.invokestatic 31, 3) := by decide +kernel
theorem dX4_clerk_5 : decode cX4_clerk 5 = .ok (.ifCond .ne 13, 3) := by decide +kernel
theorem dX4_clerk_8 : decode cX4_clerk 8 = .ok (.new 35, 3) := by decide +kernel
theorem dX4_clerk_11 : decode cX4_clerk 11 = .ok (.dup, 1) := by decide +kernel
theorem dX4_clerk_12 : decode cX4_clerk 12 = .ok (.ldc 37, 2) := by decide +kernel
theorem dX4_clerk_14 : decode cX4_clerk 14 = .ok (.invokespecial 39, 3) := by decide +kernel
theorem dX4_clerk_17 : decode cX4_clerk 17 = .ok (.athrow, 1) := by decide +kernel
theorem dX4_clerk_18 : decode cX4_clerk 18 = .ok (.iload_n 2, 1) := by decide +kernel
theorem dX4_clerk_19 : decode cX4_clerk 19 = .ok (.tableswitch 62 0 2 #[25, 37, 49], 25) := by decide +kernel
theorem dX4_clerk_44 : decode cX4_clerk 44 = .ok (.aload_n 0, 1) := by decide +kernel
theorem dX4_clerk_45 : decode cX4_clerk 45 = .ok (.getfield 10, 3) := by decide +kernel
theorem dX4_clerk_48 : decode cX4_clerk 48 = .ok (.getfield 42, 3) := by decide +kernel
theorem dX4_clerk_51 : decode cX4_clerk 51 = .ok (.iload_n 1, 1) := by decide +kernel
theorem dX4_clerk_52 : decode cX4_clerk 52 = .ok (.invokevirtual 172, 3) := by decide +kernel
theorem dX4_clerk_55 : decode cX4_clerk 55 = .ok (.ireturn, 1) := by decide +kernel
theorem dX4_clerk_56 : decode cX4_clerk 56 = .ok (.aload_n 0, 1) := by decide +kernel
theorem dX4_clerk_57 : decode cX4_clerk 57 = .ok (.getfield 10, 3) := by decide +kernel
theorem dX4_clerk_60 : decode cX4_clerk 60 = .ok (.getfield 42, 3) := by decide +kernel
theorem dX4_clerk_63 : decode cX4_clerk 63 = .ok (.iload_n 1, 1) := by decide +kernel
theorem dX4_clerk_64 : decode cX4_clerk 64 = .ok (.invokevirtual 175, 3) := by decide +kernel
theorem dX4_clerk_67 : decode cX4_clerk 67 = .ok (.ireturn, 1) := by decide +kernel
theorem dX4_clerk_68 : decode cX4_clerk 68 = .ok (.aload_n 0, 1) := by decide +kernel
theorem dX4_clerk_69 : decode cX4_clerk 69 = .ok (.getfield 10, 3) := by decide +kernel
theorem dX4_clerk_72 : decode cX4_clerk 72 = .ok (.getfield 42, 3) := by decide +kernel
theorem dX4_clerk_75 : decode cX4_clerk 75 = .ok (.getfield 178, 3) := by decide +kernel
theorem dX4_clerk_78 : decode cX4_clerk 78 = .ok (.iload_n 1, 1) := by decide +kernel
theorem dX4_clerk_79 : decode cX4_clerk 79 = .ok (.iaload, 1) := by decide +kernel
theorem dX4_clerk_80 : decode cX4_clerk 80 = .ok (.ireturn, 1) := by decide +kernel
theorem dX4_clerk_81 : decode cX4_clerk 81 = .ok (.new 66, 3) := by decide +kernel
theorem dX4_clerk_84 : decode cX4_clerk 84 = .ok (.dup, 1) := by decide +kernel
theorem dX4_clerk_85 : decode cX4_clerk 85 = .ok (.ldc 181, 2) := by decide +kernel
theorem dX4_clerk_87 : decode cX4_clerk 87 = .ok (.invokespecial 70, 3) := by decide +kernel
theorem dX4_clerk_90 : decode cX4_clerk 90 = .ok (.athrow, 1) := by decide +kernel
set_option maxRecDepth 20000 in
theorem ggX4_readerOf_X4_isBelow : GoodIn wsX4_readerOf wsX4_isBelow := goodIn_r _ [21] (by decide +kernel) (by decide +kernel)
set_option maxRecDepth 20000 in
theorem gX4_readerOf_X4_isBelow : GoodIn wsX4_readerOf (va_wsS RX4 31 yX4_isBelow wsX4_isBelow) := goodIn_app (goodIn_of _ (by decide +kernel)) ggX4_readerOf_X4_isBelow
set_option maxRecDepth 20000 in
theorem ggX4_readerOf_X1_doing : GoodIn wsX4_readerOf wsX1_doing := goodIn_r _ [26, 27, 28, 29, 30, 25, 31, 32, 33, 66, 67, 68, 69, 70, 71, 72, 73, 74, 75] (by decide +kernel) (by decide +kernel)
set_option maxRecDepth 20000 in
theorem gX4_readerOf_X1_doing : GoodIn wsX4_readerOf (wsV RX4 183 RX1 yX1_doing wsX1_doing) := goodIn_app (goodIn_of _ (by decide +kernel)) ggX4_readerOf_X1_doing
set_option maxRecDepth 20000 in
theorem ggX4_readerOf_X0_latestSame : GoodIn wsX4_readerOf wsX0_latestSame := goodIn_r _ [38, 39, 40, 41, 37, 42, 43, 44, 45, 46, 47, 48, 49, 50, 51, 52, 53, 54, 55, 76, 77, 78, 79, 80] (by decide +kernel) (by decide +kernel)
set_option maxRecDepth 20000 in
theorem gX4_readerOf_X0_latestSame : GoodIn wsX4_readerOf (wsV RX4 205 RX0 yX0_latestSame wsX0_latestSame) := goodIn_app (goodIn_of _ (by decide +kernel)) ggX4_readerOf_X0_latestSame
theorem dX4_readerOf_0 : decode cX4_readerOf 0 = .ok (.iload_n 1, 1) := by decide +kernel
theorem dX4_readerOf_1 : decode cX4_readerOf 1 = .ok (.iconst 4, 1) := by decide +kernel
theorem dX4_readerOf_2 : decode cX4_readerOf 2 = .ok (.invokestatic 31, 3) := by decide +kernel
theorem dX4_readerOf_5 : decode cX4_readerOf 5 = .ok (.ifCond .ne 13, 3) := by decide +kernel
theorem dX4_readerOf_8 : decode cX4_readerOf 8 = .ok (.new 35, 3) := by decide +kernel
theorem dX4_readerOf_11 : decode cX4_readerOf 11 = .ok (.dup, 1) := by decide +kernel
theorem dX4_readerOf_12 : decode cX4_readerOf 12 = .ok (.ldc 89, 2) := by decide +kernel
theorem dX4_readerOf_14 : decode cX4_readerOf 14 = .ok (.invokespecial 39, 3) := by decide +kernel
theorem dX4_readerOf_17 : decode cX4_readerOf 17 = .ok (.athrow, 1) := by decide +kernel
theorem dX4_readerOf_18 : decode cX4_readerOf 18 = .ok (.aload_n 0, 1) := by decide +kernel
theorem dX4_readerOf_19 : decode cX4_readerOf 19 = .ok (.getfield 10, 3) := by decide +kernel
theorem dX4_readerOf_22 : decode cX4_readerOf 22 = .ok (.getfield 91, 3) := by decide +kernel
theorem dX4_readerOf_25 : decode cX4_readerOf 25 = .ok (.iload_n 1, 1) := by decide +kernel
theorem dX4_readerOf_26 : decode cX4_readerOf 26 = .ok (.aaload, 1) := by decide +kernel
theorem dX4_readerOf_27 : decode cX4_readerOf 27 = .ok (.astore_n 3, 1) := by decide +kernel
theorem dX4_readerOf_28 : decode cX4_readerOf 28 = .ok (.iload_n 2, 1) := by decide +kernel
theorem dX4_readerOf_29 : decode cX4_readerOf 29 = .ok (.tableswitch 145 0 7 #[47, 59, 75, 91, 96, 101, 106, 132], 47) := by decide +kernel
theorem dX4_readerOf_76 : decode cX4_readerOf 76 = .ok (.aload_n 3, 1) := by decide +kernel
theorem dX4_readerOf_77 : decode cX4_readerOf 77 = .ok (.aload_n 0, 1) := by decide +kernel
theorem dX4_readerOf_78 : decode cX4_readerOf 78 = .ok (.getfield 10, 3) := by decide +kernel
theorem dX4_readerOf_81 : decode cX4_readerOf 81 = .ok (.getfield 122, 3) := by decide +kernel
theorem dX4_readerOf_84 : decode cX4_readerOf 84 = .ok (.invokevirtual 183, 3) := by decide +kernel
theorem dX4_readerOf_87 : decode cX4_readerOf 87 = .ok (.ireturn, 1) := by decide +kernel
theorem dX4_readerOf_88 : decode cX4_readerOf 88 = .ok (.aload_n 3, 1) := by decide +kernel
theorem dX4_readerOf_89 : decode cX4_readerOf 89 = .ok (.getfield 114, 3) := by decide +kernel
theorem dX4_readerOf_92 : decode cX4_readerOf 92 = .ok (.ifCond .eq 10, 3) := by decide +kernel
theorem dX4_readerOf_95 : decode cX4_readerOf 95 = .ok (.aload_n 3, 1) := by decide +kernel
theorem dX4_readerOf_96 : decode cX4_readerOf 96 = .ok (.getfield 184, 3) := by decide +kernel
theorem dX4_readerOf_99 : decode cX4_readerOf 99 = .ok (.goto 4, 3) := by decide +kernel
theorem dX4_readerOf_102 : decode cX4_readerOf 102 = .ok (.iconst (-1), 1) := by decide +kernel
theorem dX4_readerOf_103 : decode cX4_readerOf 103 = .ok (.ireturn, 1) := by decide +kernel
theorem dX4_readerOf_104 : decode cX4_readerOf 104 = .ok (.aload_n 3, 1) := by decide +kernel
theorem dX4_readerOf_105 : decode cX4_readerOf 105 = .ok (.getfield 114, 3) := by decide +kernel
theorem dX4_readerOf_108 : decode cX4_readerOf 108 = .ok (.ifCond .eq 10, 3) := by decide +kernel
theorem dX4_readerOf_111 : decode cX4_readerOf 111 = .ok (.aload_n 3, 1) := by decide +kernel
theorem dX4_readerOf_112 : decode cX4_readerOf 112 = .ok (.getfield 187, 3) := by decide +kernel
theorem dX4_readerOf_115 : decode cX4_readerOf 115 = .ok (.goto 4, 3) := by decide +kernel
theorem dX4_readerOf_118 : decode cX4_readerOf 118 = .ok (.iconst (-1), 1) := by decide +kernel
theorem dX4_readerOf_119 : decode cX4_readerOf 119 = .ok (.ireturn, 1) := by decide +kernel
theorem dX4_readerOf_120 : decode cX4_readerOf 120 = .ok (.aload_n 3, 1) := by decide +kernel
theorem dX4_readerOf_121 : decode cX4_readerOf 121 = .ok (.getfield 190, 3) := by decide +kernel
theorem dX4_readerOf_124 : decode cX4_readerOf 124 = .ok (.ireturn, 1) := by decide +kernel
theorem dX4_readerOf_125 : decode cX4_readerOf 125 = .ok (.aload_n 3, 1) := by decide +kernel
theorem dX4_readerOf_126 : decode cX4_readerOf 126 = .ok (.getfield 193, 3) := by decide +kernel
theorem dX4_readerOf_129 : decode cX4_readerOf 129 = .ok (.ireturn, 1) := by decide +kernel
theorem dX4_readerOf_130 : decode cX4_readerOf 130 = .ok (.aload_n 3, 1) := by decide +kernel
theorem dX4_readerOf_131 : decode cX4_readerOf 131 = .ok (.getfield 196, 3) := by decide +kernel
theorem dX4_readerOf_134 : decode cX4_readerOf 134 = .ok (.ireturn, 1) := by decide +kernel
theorem dX4_readerOf_135 : decode cX4_readerOf 135 = .ok (.aload_n 3, 1) := by decide +kernel
theorem dX4_readerOf_136 : decode cX4_readerOf 136 = .ok (.getfield 199, 3) := by decide +kernel
theorem dX4_readerOf_139 : decode cX4_readerOf 139 = .ok (.ifCond .eq 20, 3) := by decide +kernel
theorem dX4_readerOf_142 : decode cX4_readerOf 142 = .ok (.aload_n 0, 1) := by decide +kernel
theorem dX4_readerOf_143 : decode cX4_readerOf 143 = .ok (.getfield 10, 3) := by decide +kernel
theorem dX4_readerOf_146 : decode cX4_readerOf 146 = .ok (.getfield 42, 3) := by decide +kernel
theorem dX4_readerOf_149 : decode cX4_readerOf 149 = .ok (.aload_n 3, 1) := by decide +kernel
theorem dX4_readerOf_150 : decode cX4_readerOf 150 = .ok (.getfield 202, 3) := by decide +kernel
theorem dX4_readerOf_153 : decode cX4_readerOf 153 = .ok (.invokevirtual 205, 3) := by decide +kernel
theorem dX4_readerOf_156 : decode cX4_readerOf 156 = .ok (.goto 4, 3) := by decide +kernel
theorem dX4_readerOf_159 : decode cX4_readerOf 159 = .ok (.iconst (-1), 1) := by decide +kernel
theorem dX4_readerOf_160 : decode cX4_readerOf 160 = .ok (.ireturn, 1) := by decide +kernel
theorem dX4_readerOf_161 : decode cX4_readerOf 161 = .ok (.aload_n 3, 1) := by decide +kernel
theorem dX4_readerOf_162 : decode cX4_readerOf 162 = .ok (.getfield 95, 3) := by decide +kernel
theorem dX4_readerOf_165 : decode cX4_readerOf 165 = .ok (.ifCond .eq 7, 3) := by decide +kernel
theorem dX4_readerOf_168 : decode cX4_readerOf 168 = .ok (.iconst 1, 1) := by decide +kernel
theorem dX4_readerOf_169 : decode cX4_readerOf 169 = .ok (.goto 4, 3) := by decide +kernel
theorem dX4_readerOf_172 : decode cX4_readerOf 172 = .ok (.iconst 0, 1) := by decide +kernel
theorem dX4_readerOf_173 : decode cX4_readerOf 173 = .ok (.ireturn, 1) := by decide +kernel
theorem dX4_readerOf_174 : decode cX4_readerOf 174 = .ok (.new 66, 3) := by decide +kernel
theorem dX4_readerOf_177 : decode cX4_readerOf 177 = .ok (.dup, 1) := by decide +kernel
theorem dX4_readerOf_178 : decode cX4_readerOf 178 = .ok (.ldc 209, 2) := by decide +kernel
theorem dX4_readerOf_180 : decode cX4_readerOf 180 = .ok (.invokespecial 70, 3) := by decide +kernel
theorem dX4_readerOf_183 : decode cX4_readerOf 183 = .ok (.athrow, 1) := by decide +kernel
set_option maxRecDepth 20000 in
theorem ggX4_has_X4_isBelow : GoodIn wsX4_has wsX4_isBelow := goodIn_r _ [10] (by decide +kernel) (by decide +kernel)
set_option maxRecDepth 20000 in
theorem gX4_has_X4_isBelow : GoodIn wsX4_has (va_wsS RX4 31 yX4_isBelow wsX4_isBelow) := goodIn_app (goodIn_of _ (by decide +kernel)) ggX4_has_X4_isBelow
theorem dX4_has_0 : decode cX4_has 0 = .ok (.iload_n 1, 1) := by decide +kernel
theorem dX4_has_1 : decode cX4_has 1 = .ok (.iconst 4, 1) := by decide +kernel
theorem dX4_has_2 : decode cX4_has 2 = .ok (.invokestatic 31, 3) := by decide +kernel
theorem dX4_has_5 : decode cX4_has 5 = .ok (.ifCond .eq 11, 3) := by decide +kernel
theorem dX4_has_8 : decode cX4_has 8 = .ok (.iload_n 2, 1) := by decide +kernel
theorem dX4_has_9 : decode cX4_has 9 = .ok (.iconst 5, 1) := by decide +kernel
theorem dX4_has_10 : decode cX4_has 10 = .ok (.invokestatic 31, 3) := by decide +kernel
theorem dX4_has_13 : decode cX4_has 13 = .ok (.ifCond .ne 13, 3) := by decide +kernel
theorem dX4_has_16 : decode cX4_has 16 = .ok (.new 35, 3) := by decide +kernel
theorem dX4_has_19 : decode cX4_has 19 = .ok (.dup, 1) := by decide +kernel
theorem dX4_has_20 : decode cX4_has 20 = .ok (.ldc 211, 2) := by decide +kernel
theorem dX4_has_22 : decode cX4_has 22 = .ok (.invokespecial 39, 3) := by decide +kernel
theorem dX4_has_25 : decode cX4_has 25 = .ok (.athrow, 1) := by decide +kernel
theorem dX4_has_26 : decode cX4_has 26 = .ok (.aload_n 0, 1) := by decide +kernel
theorem dX4_has_27 : decode cX4_has 27 = .ok (.getfield 10, 3) := by decide +kernel
theorem dX4_has_30 : decode cX4_has 30 = .ok (.getfield 91, 3) := by decide +kernel
theorem dX4_has_33 : decode cX4_has 33 = .ok (.iload_n 1, 1) := by decide +kernel
theorem dX4_has_34 : decode cX4_has 34 = .ok (.aaload, 1) := by decide +kernel
theorem dX4_has_35 : decode cX4_has 35 = .ok (.astore_n 3, 1) := by decide +kernel
theorem dX4_has_36 : decode cX4_has 36 = .ok (.aload_n 3, 1) := by decide +kernel
theorem dX4_has_37 : decode cX4_has 37 = .ok (.getfield 199, 3) := by decide +kernel
theorem dX4_has_40 : decode cX4_has 40 = .ok (.ifCond .eq 12, 3) := by decide +kernel
theorem dX4_has_43 : decode cX4_has 43 = .ok (.aload_n 3, 1) := by decide +kernel
theorem dX4_has_44 : decode cX4_has 44 = .ok (.getfield 202, 3) := by decide +kernel
theorem dX4_has_47 : decode cX4_has 47 = .ok (.iload_n 2, 1) := by decide +kernel
theorem dX4_has_48 : decode cX4_has 48 = .ok (.iaload, 1) := by decide +kernel
theorem dX4_has_49 : decode cX4_has 49 = .ok (.goto 4, 3) := by decide +kernel
theorem dX4_has_52 : decode cX4_has 52 = .ok (.iconst (-1), 1) := by decide +kernel
theorem dX4_has_53 : decode cX4_has 53 = .ok (.ireturn, 1) := by decide +kernel
set_option maxRecDepth 20000 in
theorem ggX4_count_X0_whoChalks : GoodIn wsX4_count wsX0_whoChalks := goodIn_r _ [17, 18, 19, 20, 16, 21, 22, 58, 59, 60, 61, 62] (by decide +kernel) (by decide +kernel)
set_option maxRecDepth 20000 in
theorem gX4_count_X0_whoChalks : GoodIn wsX4_count (wsV RX4 216 RX0 yX0_whoChalks wsX0_whoChalks) := goodIn_app (goodIn_of _ (by decide +kernel)) ggX4_count_X0_whoChalks
set_option maxRecDepth 20000 in
theorem ggX4_count_X0_inLine : GoodIn wsX4_count wsX0_inLine := goodIn_r _ [26, 27, 28, 29, 16, 30, 22, 58, 59, 60, 61, 62] (by decide +kernel) (by decide +kernel)
set_option maxRecDepth 20000 in
theorem gX4_count_X0_inLine : GoodIn wsX4_count (wsV RX4 219 RX0 yX0_inLine wsX0_inLine) := goodIn_app (goodIn_of _ (by decide +kernel)) ggX4_count_X0_inLine
set_option maxRecDepth 20000 in
theorem ggX4_count_X2_reading : GoodIn wsX4_count wsX2_reading := goodIn_r _ [35, 36, 37, 54, 55, 56, 57, 63, 64, 65, 66, 67, 68, 69, 70, 71, 72] (by decide +kernel) (by decide +kernel)
set_option maxRecDepth 20000 in
theorem gX4_count_X2_reading : GoodIn wsX4_count (wsV RX4 227 RX2 yX2_reading wsX2_reading) := goodIn_app (goodIn_of _ (by decide +kernel)) ggX4_count_X2_reading
set_option maxRecDepth 20000 in
theorem ggX4_count_X2_failedOfAll : GoodIn wsX4_count wsX2_failedOfAll := goodIn_r _ [41, 36, 42, 54, 55, 56, 57, 63, 64, 65, 66, 67, 68, 69, 70, 71, 72] (by decide +kernel) (by decide +kernel)
set_option maxRecDepth 20000 in
theorem gX4_count_X2_failedOfAll : GoodIn wsX4_count (wsV RX4 230 RX2 yX2_failedOfAll wsX2_failedOfAll) := goodIn_app (goodIn_of _ (by decide +kernel)) ggX4_count_X2_failedOfAll
set_option maxRecDepth 20000 in
theorem ggX4_count_X2_wellOfAll : GoodIn wsX4_count wsX2_wellOfAll := goodIn_r _ [46, 36, 47, 54, 55, 56, 57, 63, 64, 65, 66, 67, 68, 69, 70, 71, 72] (by decide +kernel) (by decide +kernel)
set_option maxRecDepth 20000 in
theorem gX4_count_X2_wellOfAll : GoodIn wsX4_count (wsV RX4 233 RX2 yX2_wellOfAll wsX2_wellOfAll) := goodIn_app (goodIn_of _ (by decide +kernel)) ggX4_count_X2_wellOfAll
theorem dX4_count_0 : decode cX4_count 0 = .ok (.iload_n 1, 1) := by decide +kernel
theorem dX4_count_1 : decode cX4_count 1 = .ok (.tableswitch 135 0 8 #[51, 62, 73, 90, 98, 106, 114, 122, 130], 51) := by decide +kernel
theorem dX4_count_52 : decode cX4_count 52 = .ok (.aload_n 0, 1) := by decide +kernel
theorem dX4_count_53 : decode cX4_count 53 = .ok (.getfield 10, 3) := by decide +kernel
theorem dX4_count_56 : decode cX4_count 56 = .ok (.getfield 42, 3) := by decide +kernel
theorem dX4_count_59 : decode cX4_count 59 = .ok (.getfield 213, 3) := by decide +kernel
theorem dX4_count_62 : decode cX4_count 62 = .ok (.ireturn, 1) := by decide +kernel
theorem dX4_count_63 : decode cX4_count 63 = .ok (.aload_n 0, 1) := by decide +kernel
theorem dX4_count_64 : decode cX4_count 64 = .ok (.getfield 10, 3) := by decide +kernel
theorem dX4_count_67 : decode cX4_count 67 = .ok (.getfield 42, 3) := by decide +kernel
theorem dX4_count_70 : decode cX4_count 70 = .ok (.invokevirtual 216, 3) := by decide +kernel
theorem dX4_count_73 : decode cX4_count 73 = .ok (.ireturn, 1) := by decide +kernel
theorem dX4_count_74 : decode cX4_count 74 = .ok (.iconst 0, 1) := by decide +kernel
theorem dX4_count_75 : decode cX4_count 75 = .ok (.aload_n 0, 1) := by decide +kernel
theorem dX4_count_76 : decode cX4_count 76 = .ok (.getfield 10, 3) := by decide +kernel
theorem dX4_count_79 : decode cX4_count 79 = .ok (.getfield 42, 3) := by decide +kernel
theorem dX4_count_82 : decode cX4_count 82 = .ok (.invokevirtual 219, 3) := by decide +kernel
theorem dX4_count_85 : decode cX4_count 85 = .ok (.iconst 1, 1) := by decide +kernel
theorem dX4_count_86 : decode cX4_count 86 = .ok (.isub, 1) := by decide +kernel
theorem dX4_count_87 : decode cX4_count 87 = .ok (.invokestatic 222, 3) := by decide +kernel
theorem dX4_count_90 : decode cX4_count 90 = .ok (.ireturn, 1) := by decide +kernel
theorem dX4_count_91 : decode cX4_count 91 = .ok (.aload_n 0, 1) := by decide +kernel
theorem dX4_count_92 : decode cX4_count 92 = .ok (.getfield 10, 3) := by decide +kernel
theorem dX4_count_95 : decode cX4_count 95 = .ok (.invokevirtual 227, 3) := by decide +kernel
theorem dX4_count_98 : decode cX4_count 98 = .ok (.ireturn, 1) := by decide +kernel
theorem dX4_count_99 : decode cX4_count 99 = .ok (.aload_n 0, 1) := by decide +kernel
theorem dX4_count_100 : decode cX4_count 100 = .ok (.getfield 10, 3) := by decide +kernel
theorem dX4_count_103 : decode cX4_count 103 = .ok (.invokevirtual 230, 3) := by decide +kernel
theorem dX4_count_106 : decode cX4_count 106 = .ok (.ireturn, 1) := by decide +kernel
theorem dX4_count_107 : decode cX4_count 107 = .ok (.aload_n 0, 1) := by decide +kernel
theorem dX4_count_108 : decode cX4_count 108 = .ok (.getfield 10, 3) := by decide +kernel
theorem dX4_count_111 : decode cX4_count 111 = .ok (.invokevirtual 233, 3) := by decide +kernel
theorem dX4_count_114 : decode cX4_count 114 = .ok (.ireturn, 1) := by decide +kernel
theorem dX4_count_115 : decode cX4_count 115 = .ok (.aload_n 0, 1) := by decide +kernel
theorem dX4_count_116 : decode cX4_count 116 = .ok (.getfield 10, 3) := by decide +kernel
theorem dX4_count_119 : decode cX4_count 119 = .ok (.getfield 236, 3) := by decide +kernel
theorem dX4_count_122 : decode cX4_count 122 = .ok (.ireturn, 1) := by decide +kernel
theorem dX4_count_123 : decode cX4_count 123 = .ok (.aload_n 0, 1) := by decide +kernel
theorem dX4_count_124 : decode cX4_count 124 = .ok (.getfield 10, 3) := by decide +kernel
theorem dX4_count_127 : decode cX4_count 127 = .ok (.getfield 122, 3) := by decide +kernel
theorem dX4_count_130 : decode cX4_count 130 = .ok (.ireturn, 1) := by decide +kernel
theorem dX4_count_131 : decode cX4_count 131 = .ok (.aload_n 0, 1) := by decide +kernel
theorem dX4_count_132 : decode cX4_count 132 = .ok (.getfield 152, 3) := by decide +kernel
theorem dX4_count_135 : decode cX4_count 135 = .ok (.ireturn, 1) := by decide +kernel
theorem dX4_count_136 : decode cX4_count 136 = .ok (.new 66, 3) := by decide +kernel
theorem dX4_count_139 : decode cX4_count 139 = .ok (.dup, 1) := by decide +kernel
theorem dX4_count_140 : decode cX4_count 140 = .ok (.ldc 239, 2) := by decide +kernel
theorem dX4_count_142 : decode cX4_count 142 = .ok (.invokespecial 70, 3) := by decide +kernel
theorem dX4_count_145 : decode cX4_count 145 = .ok (.athrow, 1) := by decide +kernel
set_option maxRecDepth 20000 in
theorem ggX4_ifRead_X4_isBelow : GoodIn wsX4_ifRead wsX4_isBelow := goodIn_r _ [7] (by decide +kernel) (by decide +kernel)
set_option maxRecDepth 20000 in
theorem gX4_ifRead_X4_isBelow : GoodIn wsX4_ifRead (va_wsS RX4 31 yX4_isBelow wsX4_isBelow) := goodIn_app (goodIn_of _ (by decide +kernel)) ggX4_ifRead_X4_isBelow
set_option maxRecDepth 20000 in
theorem ggX4_ifRead_X2_outcome : GoodIn wsX4_ifRead wsX2_outcome := goodIn_r _ [12, 13, 14, 15, 16, 17, 18, 19, 20, 21, 22, 23, 24, 25, 26, 27, 28, 29, 30, 31, 32, 33, 34, 35, 42, 43, 44, 45, 46, 47, 48, 49, 50, 51, 52, 53, 54, 55, 56, 57, 58, 59, 60] (by decide +kernel) (by decide +kernel)
set_option maxRecDepth 20000 in
theorem gX4_ifRead_X2_outcome : GoodIn wsX4_ifRead (wsV RX4 241 RX2 yX2_outcome wsX2_outcome) := goodIn_app (goodIn_of _ (by decide +kernel)) ggX4_ifRead_X2_outcome
theorem dX4_ifRead_0 : decode cX4_ifRead 0 = .ok (.iload_n 1, 1) := by decide +kernel
theorem dX4_ifRead_1 : decode cX4_ifRead 1 = .ok (.iconst 4, 1) := by decide +kernel
theorem dX4_ifRead_2 : decode cX4_ifRead 2 = .ok (.invokestatic 31, 3) := by decide +kernel
theorem dX4_ifRead_5 : decode cX4_ifRead 5 = .ok (.ifCond .ne 13, 3) := by decide +kernel
theorem dX4_ifRead_8 : decode cX4_ifRead 8 = .ok (.new 35, 3) := by decide +kernel
theorem dX4_ifRead_11 : decode cX4_ifRead 11 = .ok (.dup, 1) := by decide +kernel
theorem dX4_ifRead_12 : decode cX4_ifRead 12 = .ok (.ldc 89, 2) := by decide +kernel
theorem dX4_ifRead_14 : decode cX4_ifRead 14 = .ok (.invokespecial 39, 3) := by decide +kernel
theorem dX4_ifRead_17 : decode cX4_ifRead 17 = .ok (.athrow, 1) := by decide +kernel
theorem dX4_ifRead_18 : decode cX4_ifRead 18 = .ok (.aload_n 0, 1) := by decide +kernel
theorem dX4_ifRead_19 : decode cX4_ifRead 19 = .ok (.getfield 10, 3) := by decide +kernel
theorem dX4_ifRead_22 : decode cX4_ifRead 22 = .ok (.iload_n 1, 1) := by decide +kernel
theorem dX4_ifRead_23 : decode cX4_ifRead 23 = .ok (.invokevirtual 241, 3) := by decide +kernel
theorem dX4_ifRead_26 : decode cX4_ifRead 26 = .ok (.ireturn, 1) := by decide +kernel
set_option maxRecDepth 20000 in
theorem ggX4_wouldBeHalf_X4_isBelow : GoodIn wsX4_wouldBeHalf wsX4_isBelow := goodIn_r _ [10] (by decide +kernel) (by decide +kernel)
set_option maxRecDepth 20000 in
theorem gX4_wouldBeHalf_X4_isBelow : GoodIn wsX4_wouldBeHalf (va_wsS RX4 31 yX4_isBelow wsX4_isBelow) := goodIn_app (goodIn_of _ (by decide +kernel)) ggX4_wouldBeHalf_X4_isBelow
set_option maxRecDepth 20000 in
theorem ggX4_wouldBeHalf_X2_outcome : GoodIn wsX4_wouldBeHalf wsX2_outcome := goodIn_r _ [15, 16, 17, 18, 19, 20, 21, 22, 23, 24, 25, 26, 27, 28, 29, 30, 31, 32, 33, 34, 35, 36, 37, 38, 72, 73, 74, 75, 76, 77, 78, 79, 80, 81, 82, 83, 84, 85, 86, 87, 88, 89, 90] (by decide +kernel) (by decide +kernel)
set_option maxRecDepth 20000 in
theorem gX4_wouldBeHalf_X2_outcome : GoodIn wsX4_wouldBeHalf (wsV RX4 241 RX2 yX2_outcome wsX2_outcome) := goodIn_app (goodIn_of _ (by decide +kernel)) ggX4_wouldBeHalf_X2_outcome
set_option maxRecDepth 20000 in
theorem ggX4_wouldBeHalf_X1_fillWouldTake : GoodIn wsX4_wouldBeHalf wsX1_fillWouldTake := goodIn_r _ [42, 25, 43, 44, 45, 76, 77, 78, 79, 80, 81, 82, 83, 84, 85, 86, 87, 88, 89, 90] (by decide +kernel) (by decide +kernel)
set_option maxRecDepth 20000 in
theorem gX4_wouldBeHalf_X1_fillWouldTake : GoodIn wsX4_wouldBeHalf (wsV RX4 244 RX1 yX1_fillWouldTake wsX1_fillWouldTake) := goodIn_app (goodIn_of _ (by decide +kernel)) ggX4_wouldBeHalf_X1_fillWouldTake
set_option maxRecDepth 20000 in
theorem ggX4_wouldBeHalf_X0_latestSame : GoodIn wsX4_wouldBeHalf wsX0_latestSame := goodIn_r _ [49, 50, 51, 52, 36, 53, 38, 54, 55, 56, 57, 58, 59, 60, 61, 62, 63, 64, 65, 86, 87, 88, 89, 90] (by decide +kernel) (by decide +kernel)
set_option maxRecDepth 20000 in
theorem gX4_wouldBeHalf_X0_latestSame : GoodIn wsX4_wouldBeHalf (wsV RX4 205 RX0 yX0_latestSame wsX0_latestSame) := goodIn_app (goodIn_of _ (by decide +kernel)) ggX4_wouldBeHalf_X0_latestSame
theorem dX4_wouldBeHalf_0 : decode cX4_wouldBeHalf 0 = .ok (.iload_n 1, 1) := by decide +kernel
theorem dX4_wouldBeHalf_1 : decode cX4_wouldBeHalf 1 = .ok (.iconst 4, 1) := by decide +kernel
theorem dX4_wouldBeHalf_2 : decode cX4_wouldBeHalf 2 = .ok (.invokestatic 31, 3) := by decide +kernel
theorem dX4_wouldBeHalf_5 : decode cX4_wouldBeHalf 5 = .ok (.ifCond .ne 13, 3) := by decide +kernel
theorem dX4_wouldBeHalf_8 : decode cX4_wouldBeHalf 8 = .ok (.new 35, 3) := by decide +kernel
theorem dX4_wouldBeHalf_11 : decode cX4_wouldBeHalf 11 = .ok (.dup, 1) := by decide +kernel
theorem dX4_wouldBeHalf_12 : decode cX4_wouldBeHalf 12 = .ok (.ldc 89, 2) := by decide +kernel
theorem dX4_wouldBeHalf_14 : decode cX4_wouldBeHalf 14 = .ok (.invokespecial 39, 3) := by decide +kernel
theorem dX4_wouldBeHalf_17 : decode cX4_wouldBeHalf 17 = .ok (.athrow, 1) := by decide +kernel
theorem dX4_wouldBeHalf_18 : decode cX4_wouldBeHalf 18 = .ok (.aload_n 0, 1) := by decide +kernel
theorem dX4_wouldBeHalf_19 : decode cX4_wouldBeHalf 19 = .ok (.getfield 10, 3) := by decide +kernel
theorem dX4_wouldBeHalf_22 : decode cX4_wouldBeHalf 22 = .ok (.iload_n 1, 1) := by decide +kernel
theorem dX4_wouldBeHalf_23 : decode cX4_wouldBeHalf 23 = .ok (.invokevirtual 241, 3) := by decide +kernel
theorem dX4_wouldBeHalf_26 : decode cX4_wouldBeHalf 26 = .ok (.iconst 1, 1) := by decide +kernel
theorem dX4_wouldBeHalf_27 : decode cX4_wouldBeHalf 27 = .ok (.if_icmp .eq 5, 3) := by decide +kernel
theorem dX4_wouldBeHalf_30 : decode cX4_wouldBeHalf 30 = .ok (.iconst 0, 1) := by decide +kernel
theorem dX4_wouldBeHalf_31 : decode cX4_wouldBeHalf 31 = .ok (.ireturn, 1) := by decide +kernel
theorem dX4_wouldBeHalf_32 : decode cX4_wouldBeHalf 32 = .ok (.aload_n 0, 1) := by decide +kernel
theorem dX4_wouldBeHalf_33 : decode cX4_wouldBeHalf 33 = .ok (.getfield 10, 3) := by decide +kernel
theorem dX4_wouldBeHalf_36 : decode cX4_wouldBeHalf 36 = .ok (.getfield 91, 3) := by decide +kernel
theorem dX4_wouldBeHalf_39 : decode cX4_wouldBeHalf 39 = .ok (.iload_n 1, 1) := by decide +kernel
theorem dX4_wouldBeHalf_40 : decode cX4_wouldBeHalf 40 = .ok (.aaload, 1) := by decide +kernel
theorem dX4_wouldBeHalf_41 : decode cX4_wouldBeHalf 41 = .ok (.aload_n 0, 1) := by decide +kernel
theorem dX4_wouldBeHalf_42 : decode cX4_wouldBeHalf 42 = .ok (.getfield 27, 3) := by decide +kernel
theorem dX4_wouldBeHalf_45 : decode cX4_wouldBeHalf 45 = .ok (.aload_n 0, 1) := by decide +kernel
theorem dX4_wouldBeHalf_46 : decode cX4_wouldBeHalf 46 = .ok (.getfield 10, 3) := by decide +kernel
theorem dX4_wouldBeHalf_49 : decode cX4_wouldBeHalf 49 = .ok (.getfield 42, 3) := by decide +kernel
theorem dX4_wouldBeHalf_52 : decode cX4_wouldBeHalf 52 = .ok (.invokevirtual 244, 3) := by decide +kernel
theorem dX4_wouldBeHalf_55 : decode cX4_wouldBeHalf 55 = .ok (.aload_n 0, 1) := by decide +kernel
theorem dX4_wouldBeHalf_56 : decode cX4_wouldBeHalf 56 = .ok (.getfield 10, 3) := by decide +kernel
theorem dX4_wouldBeHalf_59 : decode cX4_wouldBeHalf 59 = .ok (.getfield 42, 3) := by decide +kernel
theorem dX4_wouldBeHalf_62 : decode cX4_wouldBeHalf 62 = .ok (.aload_n 0, 1) := by decide +kernel
theorem dX4_wouldBeHalf_63 : decode cX4_wouldBeHalf 63 = .ok (.getfield 27, 3) := by decide +kernel
theorem dX4_wouldBeHalf_66 : decode cX4_wouldBeHalf 66 = .ok (.invokevirtual 205, 3) := by decide +kernel
theorem dX4_wouldBeHalf_69 : decode cX4_wouldBeHalf 69 = .ok (.iconst (-1), 1) := by decide +kernel
theorem dX4_wouldBeHalf_70 : decode cX4_wouldBeHalf 70 = .ok (.if_icmp .ne 7, 3) := by decide +kernel
theorem dX4_wouldBeHalf_73 : decode cX4_wouldBeHalf 73 = .ok (.iconst 1, 1) := by decide +kernel
theorem dX4_wouldBeHalf_74 : decode cX4_wouldBeHalf 74 = .ok (.goto 4, 3) := by decide +kernel
theorem dX4_wouldBeHalf_77 : decode cX4_wouldBeHalf 77 = .ok (.iconst 0, 1) := by decide +kernel
theorem dX4_wouldBeHalf_78 : decode cX4_wouldBeHalf 78 = .ok (.ireturn, 1) := by decide +kernel
set_option maxRecDepth 20000 in
theorem ggX4_busy_X0_inLine : GoodIn wsX4_busy wsX0_inLine := goodIn_r _ [7, 8, 9, 10, 6, 11, 12, 23, 24, 25, 26, 27] (by decide +kernel) (by decide +kernel)
set_option maxRecDepth 20000 in
theorem gX4_busy_X0_inLine : GoodIn wsX4_busy (wsV RX4 219 RX0 yX0_inLine wsX0_inLine) := goodIn_app (goodIn_of _ (by decide +kernel)) ggX4_busy_X0_inLine
theorem dX4_busy_0 : decode cX4_busy 0 = .ok (.aload_n 0, 1) := by decide +kernel
theorem dX4_busy_1 : decode cX4_busy 1 = .ok (.getfield 10, 3) := by decide +kernel
theorem dX4_busy_4 : decode cX4_busy 4 = .ok (.getfield 42, 3) := by decide +kernel
theorem dX4_busy_7 : decode cX4_busy 7 = .ok (.invokevirtual 219, 3) := by decide +kernel
theorem dX4_busy_10 : decode cX4_busy 10 = .ok (.ireturn, 1) := by decide +kernel
set_option maxRecDepth 20000 in
theorem ggX4_wellShare_X2_wellOfAll : GoodIn wsX4_wellShare wsX2_wellOfAll := goodIn_r _ [6, 7, 8, 20, 21, 22, 23, 24, 25, 26, 27, 28, 29, 30, 31, 32, 33] (by decide +kernel) (by decide +kernel)
set_option maxRecDepth 20000 in
theorem gX4_wellShare_X2_wellOfAll : GoodIn wsX4_wellShare (wsV RX4 233 RX2 yX2_wellOfAll wsX2_wellOfAll) := goodIn_app (goodIn_of _ (by decide +kernel)) ggX4_wellShare_X2_wellOfAll
set_option maxRecDepth 20000 in
theorem ggX4_wellShare_X2_failedOfAll : GoodIn wsX4_wellShare wsX2_failedOfAll := goodIn_r _ [12, 7, 13, 20, 21, 22, 23, 24, 25, 26, 27, 28, 29, 30, 31, 32, 33] (by decide +kernel) (by decide +kernel)
set_option maxRecDepth 20000 in
theorem gX4_wellShare_X2_failedOfAll : GoodIn wsX4_wellShare (wsV RX4 230 RX2 yX2_failedOfAll wsX2_failedOfAll) := goodIn_app (goodIn_of _ (by decide +kernel)) ggX4_wellShare_X2_failedOfAll
theorem dX4_wellShare_0 : decode cX4_wellShare 0 = .ok (.aload_n 0, 1) := by decide +kernel
theorem dX4_wellShare_1 : decode cX4_wellShare 1 = .ok (.getfield 10, 3) := by decide +kernel
theorem dX4_wellShare_4 : decode cX4_wellShare 4 = .ok (.invokevirtual 233, 3) := by decide +kernel
theorem dX4_wellShare_7 : decode cX4_wellShare 7 = .ok (.istore_n 1, 1) := by decide +kernel
theorem dX4_wellShare_8 : decode cX4_wellShare 8 = .ok (.iload_n 1, 1) := by decide +kernel
theorem dX4_wellShare_9 : decode cX4_wellShare 9 = .ok (.aload_n 0, 1) := by decide +kernel
theorem dX4_wellShare_10 : decode cX4_wellShare 10 = .ok (.getfield 10, 3) := by decide +kernel
theorem dX4_wellShare_13 : decode cX4_wellShare 13 = .ok (.invokevirtual 230, 3) := by decide +kernel
theorem dX4_wellShare_16 : decode cX4_wellShare 16 = .ok (.iadd, 1) := by decide +kernel
theorem dX4_wellShare_17 : decode cX4_wellShare 17 = .ok (.istore_n 2, 1) := by decide +kernel
theorem dX4_wellShare_18 : decode cX4_wellShare 18 = .ok (.iload_n 2, 1) := by decide +kernel
theorem dX4_wellShare_19 : decode cX4_wellShare 19 = .ok (.ifCond .gt 7, 3) := by decide +kernel
theorem dX4_wellShare_22 : decode cX4_wellShare 22 = .ok (.dconst 1, 1) := by decide +kernel
theorem dX4_wellShare_23 : decode cX4_wellShare 23 = .ok (.goto 8, 3) := by decide +kernel
theorem dX4_wellShare_26 : decode cX4_wellShare 26 = .ok (.iload_n 1, 1) := by decide +kernel
theorem dX4_wellShare_27 : decode cX4_wellShare 27 = .ok (.i2d, 1) := by decide +kernel
theorem dX4_wellShare_28 : decode cX4_wellShare 28 = .ok (.iload_n 2, 1) := by decide +kernel
theorem dX4_wellShare_29 : decode cX4_wellShare 29 = .ok (.i2d, 1) := by decide +kernel
theorem dX4_wellShare_30 : decode cX4_wellShare 30 = .ok (.ddiv, 1) := by decide +kernel
theorem dX4_wellShare_31 : decode cX4_wellShare 31 = .ok (.dreturn, 1) := by decide +kernel
theorem dX4_isBelow_0 : decode cX4_isBelow 0 = .ok (.iload_n 0, 1) := by decide +kernel
theorem dX4_isBelow_1 : decode cX4_isBelow 1 = .ok (.ifCond .lt 12, 3) := by decide +kernel
theorem dX4_isBelow_4 : decode cX4_isBelow 4 = .ok (.iload_n 0, 1) := by decide +kernel
theorem dX4_isBelow_5 : decode cX4_isBelow 5 = .ok (.iload_n 1, 1) := by decide +kernel
theorem dX4_isBelow_6 : decode cX4_isBelow 6 = .ok (.if_icmp .ge 7, 3) := by decide +kernel
theorem dX4_isBelow_9 : decode cX4_isBelow 9 = .ok (.iconst 1, 1) := by decide +kernel
theorem dX4_isBelow_10 : decode cX4_isBelow 10 = .ok (.goto 4, 3) := by decide +kernel
theorem dX4_isBelow_13 : decode cX4_isBelow 13 = .ok (.iconst 0, 1) := by decide +kernel
theorem dX4_isBelow_14 : decode cX4_isBelow 14 = .ok (.ireturn, 1) := by decide +kernel
theorem dX4_savedPlace_0 : decode cX4_savedPlace 0 = .ok (.aload_n 0, 1) := by decide +kernel
theorem dX4_savedPlace_1 : decode cX4_savedPlace 1 = .ok (.getfield 282, 3) := by decide +kernel
theorem dX4_savedPlace_4 : decode cX4_savedPlace 4 = .ok (.iload_n 1, 1) := by decide +kernel
theorem dX4_savedPlace_5 : decode cX4_savedPlace 5 = .ok (.iadd, 1) := by decide +kernel
theorem dX4_savedPlace_6 : decode cX4_savedPlace 6 = .ok (.bipush 6, 2) := by decide +kernel
theorem dX4_savedPlace_8 : decode cX4_savedPlace 8 = .ok (.irem, 1) := by decide +kernel
theorem dX4_savedPlace_9 : decode cX4_savedPlace 9 = .ok (.ireturn, 1) := by decide +kernel
set_option maxRecDepth 20000 in
theorem ggX4_saveState_X4_savedPlace : GoodIn wsX4_saveState wsX4_savedPlace := goodIn_r _ [9, 4, 49, 50, 51, 52, 53, 54] (by decide +kernel) (by decide +kernel)
set_option maxRecDepth 20000 in
theorem gX4_saveState_X4_savedPlace : GoodIn wsX4_saveState (wsV RX4 157 RX4 yX4_savedPlace wsX4_savedPlace) := goodIn_app (goodIn_of _ (by decide +kernel)) ggX4_saveState_X4_savedPlace
set_option maxRecDepth 20000 in
theorem ggX4_saveState_X2_copyFrom : GoodIn wsX4_saveState wsX2_copyFrom := goodIn_r _ [14, 15, 16, 17, 18, 19, 20, 21, 22, 23, 24, 25, 26, 27, 28, 29, 30, 31, 32, 33, 34, 35, 36, 37, 38, 39, 40, 41, 42, 43, 44, 45, 46, 47, 48, 55, 56, 57, 58, 59, 60, 61, 62, 63, 64, 65, 66, 67, 68, 69, 70, 71, 72, 73] (by decide +kernel) (by decide +kernel)
set_option maxRecDepth 20000 in
theorem gX4_saveState_X2_copyFrom : GoodIn wsX4_saveState (wsV RX4 160 RX2 yX2_copyFrom wsX2_copyFrom) := goodIn_app (goodIn_of _ (by decide +kernel)) ggX4_saveState_X2_copyFrom
theorem dX4_saveState_0 : decode cX4_saveState 0 = .ok (.aload_n 0, 1) := by decide +kernel
theorem dX4_saveState_1 : decode cX4_saveState 1 = .ok (.getfield 16, 3) := by decide +kernel
theorem dX4_saveState_4 : decode cX4_saveState 4 = .ok (.aload_n 0, 1) := by decide +kernel
theorem dX4_saveState_5 : decode cX4_saveState 5 = .ok (.aload_n 0, 1) := by decide +kernel
theorem dX4_saveState_6 : decode cX4_saveState 6 = .ok (.getfield 152, 3) := by decide +kernel
theorem dX4_saveState_9 : decode cX4_saveState 9 = .ok (.invokevirtual 157, 3) := by decide +kernel
theorem dX4_saveState_12 : decode cX4_saveState 12 = .ok (.aaload, 1) := by decide +kernel
theorem dX4_saveState_13 : decode cX4_saveState 13 = .ok (.aload_n 0, 1) := by decide +kernel
theorem dX4_saveState_14 : decode cX4_saveState 14 = .ok (.getfield 10, 3) := by decide +kernel
theorem dX4_saveState_17 : decode cX4_saveState 17 = .ok (.invokevirtual 160, 3) := by decide +kernel
theorem dX4_saveState_20 : decode cX4_saveState 20 = .ok (.aload_n 0, 1) := by decide +kernel
theorem dX4_saveState_21 : decode cX4_saveState 21 = .ok (.getfield 152, 3) := by decide +kernel
theorem dX4_saveState_24 : decode cX4_saveState 24 = .ok (.bipush 6, 2) := by decide +kernel
theorem dX4_saveState_26 : decode cX4_saveState 26 = .ok (.if_icmp .ge 16, 3) := by decide +kernel
theorem dX4_saveState_29 : decode cX4_saveState 29 = .ok (.aload_n 0, 1) := by decide +kernel
theorem dX4_saveState_30 : decode cX4_saveState 30 = .ok (.dup, 1) := by decide +kernel
theorem dX4_saveState_31 : decode cX4_saveState 31 = .ok (.getfield 152, 3) := by decide +kernel
theorem dX4_saveState_34 : decode cX4_saveState 34 = .ok (.iconst 1, 1) := by decide +kernel
theorem dX4_saveState_35 : decode cX4_saveState 35 = .ok (.iadd, 1) := by decide +kernel
theorem dX4_saveState_36 : decode cX4_saveState 36 = .ok (.putfield 152, 3) := by decide +kernel
theorem dX4_saveState_39 : decode cX4_saveState 39 = .ok (.goto 12, 3) := by decide +kernel
theorem dX4_saveState_42 : decode cX4_saveState 42 = .ok (.aload_n 0, 1) := by decide +kernel
theorem dX4_saveState_43 : decode cX4_saveState 43 = .ok (.aload_n 0, 1) := by decide +kernel
theorem dX4_saveState_44 : decode cX4_saveState 44 = .ok (.iconst 1, 1) := by decide +kernel
theorem dX4_saveState_45 : decode cX4_saveState 45 = .ok (.invokevirtual 157, 3) := by decide +kernel
theorem dX4_saveState_48 : decode cX4_saveState 48 = .ok (.putfield 282, 3) := by decide +kernel
theorem dX4_saveState_51 : decode cX4_saveState 51 = .ok (.return_, 1) := by decide +kernel
