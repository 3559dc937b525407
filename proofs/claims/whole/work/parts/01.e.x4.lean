theorem dX4_firstError_0 : decode cX4_firstError 0 = .ok (.aload_n 0, 1) := by decide +kernel
theorem dX4_firstError_1 : decode cX4_firstError 1 = .ok (.getfield 23, 3) := by decide +kernel
theorem dX4_firstError_4 : decode cX4_firstError 4 = .ok (.getfield 140, 3) := by decide +kernel
theorem dX4_firstError_7 : decode cX4_firstError 7 = .ok (.ireturn, 1) := by decide +kernel
set_option maxRecDepth 20000 in
theorem ggX4_play_X3_isComplete : GoodIn wsX4_play wsX3_isComplete := goodIn_r _ [8, 9, 10, 206, 207, 208, 209] (by decide +kernel) (by decide +kernel)
set_option maxRecDepth 20000 in
theorem gX4_play_X3_isComplete : GoodIn wsX4_play (wsV RX4 143 RX3 yX3_isComplete wsX3_isComplete) := goodIn_app (goodIn_of _ (by decide +kernel)) ggX4_play_X3_isComplete
set_option maxRecDepth 20000 in
theorem ggX4_play_X4_saveState : GoodIn wsX4_play wsX4_saveState := goodIn_r _ [15, 16, 17, 18, 19, 20, 21, 22, 14, 23, 24, 25, 26, 27, 28, 29, 30, 31, 32, 33, 34, 35, 36, 37, 38, 39, 40, 41, 42, 43, 44, 45, 46, 47, 48, 49, 50, 51, 52, 53, 54, 55, 56, 57, 58, 59, 60, 61, 62, 200, 201, 202, 203, 204, 205, 210, 211, 212, 213, 214, 215, 216, 217, 218, 219, 220, 221, 222, 223, 224, 225, 226, 227, 228] (by decide +kernel) (by decide +kernel)
set_option maxRecDepth 20000 in
theorem gX4_play_X4_saveState : GoodIn wsX4_play (wsV RX4 57 RX4 yX4_saveState wsX4_saveState) := goodIn_app (goodIn_of _ (by decide +kernel)) ggX4_play_X4_saveState
set_option maxRecDepth 20000 in
theorem ggX4_play_X4_doDeeds : GoodIn wsX4_play wsX4_doDeeds := goodIn_r _ [66, 3, 67, 18, 68, 69, 70, 7, 71, 72, 73, 74, 75, 9, 76, 77, 14, 78, 79, 80, 81, 82, 83, 84, 85, 86, 27, 87, 29, 30, 88, 89, 90, 91, 36, 92, 45, 93, 94, 95, 96, 97, 98, 99, 100, 38, 101, 102, 103, 104, 32, 105, 106, 107, 50, 108, 52, 53, 57, 109, 110, 111, 112, 113, 114, 115, 116, 117, 118, 119, 120, 121, 122, 123, 124, 125, 126, 127, 44, 128, 129, 130, 131, 132, 133, 134, 135, 39, 46, 40, 41, 42, 43, 136, 137, 138, 139, 140, 141, 142, 143, 144, 145, 146, 147, 148, 149, 150, 151, 152, 153, 154, 155, 156, 157, 158, 159, 160, 55, 56, 161, 162, 163, 164, 165, 166, 167, 168, 169, 58, 170, 171, 172, 173, 174, 175, 31, 176, 177, 178, 179, 180, 62, 181, 182, 183, 184, 185, 186, 54, 60, 61, 59, 187, 188, 189, 190, 191, 192, 193, 194, 200, 201, 202, 203, 204, 205, 206, 207, 208, 209, 210, 211, 212, 213, 219, 220, 221, 222, 223, 224, 225, 226, 227, 228, 214, 215, 216, 217, 218] (by decide +kernel) (by decide +kernel)
set_option maxRecDepth 20000 in
theorem gX4_play_X4_doDeeds : GoodIn wsX4_play (wsV RX4 148 RX4 yX4_doDeeds wsX4_doDeeds) := goodIn_app (goodIn_of _ (by decide +kernel)) ggX4_play_X4_doDeeds
set_option maxRecDepth 20000 in
theorem ggX4_play_X3_empty : GoodIn wsX4_play wsX3_empty := goodIn_r _ [198, 9, 199, 10, 206, 207, 208, 209] (by decide +kernel) (by decide +kernel)
set_option maxRecDepth 20000 in
theorem gX4_play_X3_empty : GoodIn wsX4_play (wsV RX4 137 RX3 yX3_empty wsX3_empty) := goodIn_app (goodIn_of _ (by decide +kernel)) ggX4_play_X3_empty
theorem dX4_play_0 : decode cX4_play 0 = .ok (.aload_n 0, 1) := by decide +kernel
theorem dX4_play_1 : decode cX4_play 1 = .ok (.getfield 23, 3) := by decide +kernel
theorem dX4_play_4 : decode cX4_play 4 = .ok (.invokevirtual 143, 3) := by decide +kernel
theorem dX4_play_7 : decode cX4_play 7 = .ok (.ifCond .ne 13, 3) := by decide +kernel
theorem dX4_play_10 : decode cX4_play 10 = .ok (.new 66, 3) := by decide +kernel
theorem dX4_play_13 : decode cX4_play 13 = .ok (.dup, 1) := by decide +kernel
theorem dX4_play_14 : decode cX4_play 14 = .ok (.ldc 146, 2) := by decide +kernel
theorem dX4_play_16 : decode cX4_play 16 = .ok (.invokespecial 70, 3) := by decide +kernel
theorem dX4_play_19 : decode cX4_play 19 = .ok (.athrow, 1) := by decide +kernel
theorem dX4_play_20 : decode cX4_play 20 = .ok (.aload_n 0, 1) := by decide +kernel
theorem dX4_play_21 : decode cX4_play 21 = .ok (.invokevirtual 57, 3) := by decide +kernel
theorem dX4_play_24 : decode cX4_play 24 = .ok (.aload_n 0, 1) := by decide +kernel
theorem dX4_play_25 : decode cX4_play 25 = .ok (.invokevirtual 148, 3) := by decide +kernel
theorem dX4_play_28 : decode cX4_play 28 = .ok (.istore_n 1, 1) := by decide +kernel
theorem dX4_play_29 : decode cX4_play 29 = .ok (.aload_n 0, 1) := by decide +kernel
theorem dX4_play_30 : decode cX4_play 30 = .ok (.getfield 23, 3) := by decide +kernel
theorem dX4_play_33 : decode cX4_play 33 = .ok (.invokevirtual 137, 3) := by decide +kernel
theorem dX4_play_36 : decode cX4_play 36 = .ok (.iload_n 1, 1) := by decide +kernel
theorem dX4_play_37 : decode cX4_play 37 = .ok (.ireturn, 1) := by decide +kernel
set_option maxRecDepth 20000 in
theorem ggX4_undo_X4_savedPlace : GoodIn wsX4_undo wsX4_savedPlace := goodIn_r _ [10, 11, 51, 52, 53, 54, 55, 56] (by decide +kernel) (by decide +kernel)
set_option maxRecDepth 20000 in
theorem gX4_undo_X4_savedPlace : GoodIn wsX4_undo (wsV RX4 157 RX4 yX4_savedPlace wsX4_savedPlace) := goodIn_app (goodIn_of _ (by decide +kernel)) ggX4_undo_X4_savedPlace
set_option maxRecDepth 20000 in
theorem ggX4_undo_X2_copyFrom : GoodIn wsX4_undo wsX2_copyFrom := goodIn_r _ [16, 17, 18, 19, 20, 21, 22, 23, 24, 25, 26, 27, 28, 29, 30, 31, 32, 33, 34, 35, 36, 37, 38, 39, 40, 41, 42, 43, 44, 45, 46, 47, 48, 49, 50, 57, 58, 59, 60, 61, 62, 63, 64, 65, 66, 67, 68, 69, 70, 71, 72, 73, 74, 75] (by decide +kernel) (by decide +kernel)
set_option maxRecDepth 20000 in
theorem gX4_undo_X2_copyFrom : GoodIn wsX4_undo (wsV RX4 160 RX2 yX2_copyFrom wsX2_copyFrom) := goodIn_app (goodIn_of _ (by decide +kernel)) ggX4_undo_X2_copyFrom
theorem dX4_undo_0 : decode cX4_undo 0 = .ok (.aload_n 0, 1) := by decide +kernel
theorem dX4_undo_1 : decode cX4_undo 1 = .ok (.getfield 152, 3) := by decide +kernel
theorem dX4_undo_4 : decode cX4_undo 4 = .ok (.ifCond .gt 13, 3) := by decide +kernel
theorem dX4_undo_7 : decode cX4_undo 7 = .ok (.new 52, 3) := by decide +kernel
theorem dX4_undo_10 : decode cX4_undo 10 = .ok (.dup, 1) := by decide +kernel
theorem dX4_undo_11 : decode cX4_undo 11 = .ok (.ldc 155, 2) := by decide +kernel
theorem dX4_undo_13 : decode cX4_undo 13 = .ok (.invokespecial 56, 3) := by decide +kernel
theorem dX4_undo_16 : decode cX4_undo 16 = .ok (.athrow, 1) := by decide +kernel
theorem dX4_undo_17 : decode cX4_undo 17 = .ok (.aload_n 0, 1) := by decide +kernel
theorem dX4_undo_18 : decode cX4_undo 18 = .ok (.dup, 1) := by decide +kernel
theorem dX4_undo_19 : decode cX4_undo 19 = .ok (.getfield 152, 3) := by decide +kernel
theorem dX4_undo_22 : decode cX4_undo 22 = .ok (.iconst 1, 1) := by decide +kernel
theorem dX4_undo_23 : decode cX4_undo 23 = .ok (.isub, 1) := by decide +kernel
theorem dX4_undo_24 : decode cX4_undo 24 = .ok (.putfield 152, 3) := by decide +kernel
theorem dX4_undo_27 : decode cX4_undo 27 = .ok (.aload_n 0, 1) := by decide +kernel
theorem dX4_undo_28 : decode cX4_undo 28 = .ok (.getfield 10, 3) := by decide +kernel
theorem dX4_undo_31 : decode cX4_undo 31 = .ok (.aload_n 0, 1) := by decide +kernel
theorem dX4_undo_32 : decode cX4_undo 32 = .ok (.getfield 16, 3) := by decide +kernel
theorem dX4_undo_35 : decode cX4_undo 35 = .ok (.aload_n 0, 1) := by decide +kernel
theorem dX4_undo_36 : decode cX4_undo 36 = .ok (.aload_n 0, 1) := by decide +kernel
theorem dX4_undo_37 : decode cX4_undo 37 = .ok (.getfield 152, 3) := by decide +kernel
theorem dX4_undo_40 : decode cX4_undo 40 = .ok (.invokevirtual 157, 3) := by decide +kernel
theorem dX4_undo_43 : decode cX4_undo 43 = .ok (.aaload, 1) := by decide +kernel
theorem dX4_undo_44 : decode cX4_undo 44 = .ok (.invokevirtual 160, 3) := by decide +kernel
theorem dX4_undo_47 : decode cX4_undo 47 = .ok (.aload_n 0, 1) := by decide +kernel
theorem dX4_undo_48 : decode cX4_undo 48 = .ok (.getfield 152, 3) := by decide +kernel
theorem dX4_undo_51 : decode cX4_undo 51 = .ok (.ireturn, 1) := by decide +kernel
set_option maxRecDepth 20000 in
theorem ggX4_field_X4_isBelow : GoodIn wsX4_field wsX4_isBelow := goodIn_r _ [9] (by decide +kernel) (by decide +kernel)
set_option maxRecDepth 20000 in
theorem gX4_field_X4_isBelow : GoodIn wsX4_field (va_wsS RX4 31 yX4_isBelow wsX4_isBelow) := goodIn_app (goodIn_of _ (by decide +kernel)) ggX4_field_X4_isBelow
theorem dX4_field_0 : decode cX4_field 0 = .ok (.iload_n 1, 1) := by decide +kernel
theorem dX4_field_1 : decode cX4_field 1 = .ok (.iconst 5, 1) := by decide +kernel
theorem dX4_field_2 : decode cX4_field 2 = .ok (.invokestatic 31, 3) := by decide +kernel
theorem dX4_field_5 : decode cX4_field 5 = .ok (.ifCond .ne 13, 3) := by decide +kernel
theorem dX4_field_8 : decode cX4_field 8 = .ok (.new 35, 3) := by decide +kernel
theorem dX4_field_11 : decode cX4_field 11 = .ok (.dup, 1) := by decide +kernel
theorem dX4_field_12 : decode cX4_field 12 = .ok (.ldc 64, 2) := by decide +kernel
theorem dX4_field_14 : decode cX4_field 14 = .ok (.invokespecial 39, 3) := by decide +kernel
theorem dX4_field_17 : decode cX4_field 17 = .ok (.athrow, 1) := by decide +kernel
theorem dX4_field_18 : decode cX4_field 18 = .ok (.aload_n 0, 1) := by decide +kernel
theorem dX4_field_19 : decode cX4_field 19 = .ok (.getfield 10, 3) := by decide +kernel
theorem dX4_field_22 : decode cX4_field 22 = .ok (.getfield 42, 3) := by decide +kernel
theorem dX4_field_25 : decode cX4_field 25 = .ok (.getfield 164, 3) := by decide +kernel
theorem dX4_field_28 : decode cX4_field 28 = .ok (.iload_n 1, 1) := by decide +kernel
theorem dX4_field_29 : decode cX4_field 29 = .ok (.iaload, 1) := by decide +kernel
theorem dX4_field_30 : decode cX4_field 30 = .ok (.ireturn, 1) := by decide +kernel
set_option maxRecDepth 20000 in
theorem ggX4_notice_X4_isBelow : GoodIn wsX4_notice wsX4_isBelow := goodIn_r _ [10] (by decide +kernel) (by decide +kernel)
set_option maxRecDepth 20000 in
theorem gX4_notice_X4_isBelow : GoodIn wsX4_notice (va_wsS RX4 31 yX4_isBelow wsX4_isBelow) := goodIn_app (goodIn_of _ (by decide +kernel)) ggX4_notice_X4_isBelow
set_option maxRecDepth 20000 in
theorem ggX4_notice_X0_keptValue : GoodIn wsX4_notice wsX0_keptValue := goodIn_r _ [15, 16, 17, 18, 19, 14, 20, 21, 22, 23, 24, 25, 26, 27, 28, 29, 30, 31, 32, 33, 34, 35, 36, 47, 48, 49, 50, 51] (by decide +kernel) (by decide +kernel)
set_option maxRecDepth 20000 in
theorem gX4_notice_X0_keptValue : GoodIn wsX4_notice (wsV RX4 169 RX0 yX0_keptValue wsX0_keptValue) := goodIn_app (goodIn_of _ (by decide +kernel)) ggX4_notice_X0_keptValue
theorem dX4_notice_0 : decode cX4_notice 0 = .ok (.iload_n 2, 1) := by decide +kernel
theorem dX4_notice_1 : decode cX4_notice 1 = .ok (.iconst 5, 1) := by decide +kernel
theorem dX4_notice_2 : decode cX4_notice 2 = .ok (.invokestatic 31, 3) := by decide +kernel
theorem dX4_notice_5 : decode cX4_notice 5 = .ok (.ifCond .ne 13, 3) := by decide +kernel
theorem dX4_notice_8 : decode cX4_notice 8 = .ok (.new 35, 3) := by decide +kernel
theorem dX4_notice_11 : decode cX4_notice 11 = .ok (.dup, 1) := by decide +kernel
theorem dX4_notice_12 : decode cX4_notice 12 = .ok (.ldc 64, 2) := by decide +kernel
theorem dX4_notice_14 : decode cX4_notice 14 = .ok (.invokespecial 39, 3) := by decide +kernel
theorem dX4_notice_17 : decode cX4_notice 17 = .ok (.athrow, 1) := by decide +kernel
theorem dX4_notice_18 : decode cX4_notice 18 = .ok (.iload_n 1, 1) := by decide +kernel
theorem dX4_notice_19 : decode cX4_notice 19 = .ok (.ifCond .ge 13, 3) := by decide +kernel
theorem dX4_notice_22 : decode cX4_notice 22 = .ok (.new 66, 3) := by decide +kernel
theorem dX4_notice_25 : decode cX4_notice 25 = .ok (.dup, 1) := by decide +kernel
theorem dX4_notice_26 : decode cX4_notice 26 = .ok (.ldc 167, 2) := by decide +kernel
theorem dX4_notice_28 : decode cX4_notice 28 = .ok (.invokespecial 70, 3) := by decide +kernel
theorem dX4_notice_31 : decode cX4_notice 31 = .ok (.athrow, 1) := by decide +kernel
theorem dX4_notice_32 : decode cX4_notice 32 = .ok (.aload_n 0, 1) := by decide +kernel
theorem dX4_notice_33 : decode cX4_notice 33 = .ok (.getfield 10, 3) := by decide +kernel
theorem dX4_notice_36 : decode cX4_notice 36 = .ok (.getfield 42, 3) := by decide +kernel
theorem dX4_notice_39 : decode cX4_notice 39 = .ok (.iload_n 1, 1) := by decide +kernel
theorem dX4_notice_40 : decode cX4_notice 40 = .ok (.iload_n 2, 1) := by decide +kernel
theorem dX4_notice_41 : decode cX4_notice 41 = .ok (.invokevirtual 169, 3) := by decide +kernel
theorem dX4_notice_44 : decode cX4_notice 44 = .ok (.ireturn, 1) := by decide +kernel
set_option maxRecDepth 20000 in
theorem ggX4_clerk_X4_isBelow : GoodIn wsX4_clerk wsX4_isBelow := goodIn_r _ [11] (by decide +kernel) (by decide +kernel)
set_option maxRecDepth 20000 in
theorem gX4_clerk_X4_isBelow : GoodIn wsX4_clerk (va_wsS RX4 31 yX4_isBelow wsX4_isBelow) := goodIn_app (goodIn_of _ (by decide +kernel)) ggX4_clerk_X4_isBelow
set_option maxRecDepth 20000 in
theorem ggX4_clerk_X0_doing : GoodIn wsX4_clerk wsX0_doing := goodIn_r _ [16, 17, 18, 19, 15, 20, 21, 22, 23, 24, 25, 40, 41, 42, 43, 44] (by decide +kernel) (by decide +kernel)
set_option maxRecDepth 20000 in
theorem gX4_clerk_X0_doing : GoodIn wsX4_clerk (wsV RX4 172 RX0 yX0_doing wsX0_doing) := goodIn_app (goodIn_of _ (by decide +kernel)) ggX4_clerk_X0_doing
set_option maxRecDepth 20000 in
theorem ggX4_clerk_X0_waitingAhead : GoodIn wsX4_clerk wsX0_waitingAhead := goodIn_r _ [29, 21, 40, 41, 42, 43, 44] (by decide +kernel) (by decide +kernel)
set_option maxRecDepth 20000 in
theorem gX4_clerk_X0_waitingAhead : GoodIn wsX4_clerk (wsV RX4 175 RX0 yX0_waitingAhead wsX0_waitingAhead) := goodIn_app (goodIn_of _ (by decide +kernel)) ggX4_clerk_X0_waitingAhead
theorem dX4_clerk_0 : decode cX4_clerk 0 = .ok (.iload_n 1, 1) := by decide +kernel
theorem dX4_clerk_1 : decode cX4_clerk 1 = .ok (.iconst 3, 1) := by decide +kernel
theorem dX4_clerk_2 : decode cX4_clerk 2 = .ok (.invokestatic 31, 3) := by decide +kernel
theorem dX4_clerk_5 : decode cX4_clerk 5 = .ok (.ifCond .ne 13, 3) := by decide +kernel
theorem dX4_clerk_8 : decode cX4_clerk 8 = .ok (.new 35, 3) := by decide +kernel
theorem dX4_clerk_11 : decode cX4_clerk 11 = .ok (.dup, 1) := by decide +kernel
theorem dX4_clerk_12 : decode cX4_clerk 12 = .ok (.ldc 37, 2) := by decide +kernel
theorem dX4_clerk_14 : decode cX4_clerk 14 = .ok (.invokespecial 39, 3) := by decide +kernel
theorem dX4_clerk_17 : decode cX4_clerk 17 = .ok (.athrow, 1) := by decide +kernel
theorem dX4_clerk_18 : decode cX4_clerk 18 = .ok (.iload_n 2, 1) := by decide +kernel
theorem dX4_clerk_19 : decode cX4_clerk 19 = .ok (.tableswitch 62 0 2 #[25, 37, 49], 25) := by decide +kernel
theorem dX4_clerk_44 : decode cX4_clerk 44 = .ok (.aload_n 0, 1) := by decide +kernel
theorem dX4_clerk_45 : decode cX4_clerk 45 = .ok (.getfield 10, 3) := by decide +kernel
theorem dX4_clerk_48 : decode cX4_clerk 48 = .ok (.getfield 42, 3) := by decide +kernel
theorem dX4_clerk_51 : decode cX4_clerk 51 = .ok (.iload_n 1, 1) := by decide +kernel
theorem dX4_clerk_52 : decode cX4_clerk 52 = .ok (.invokevirtual 172, 3) := by decide +kernel
theorem dX4_clerk_55 : decode cX4_clerk 55 = .ok (.ireturn, 1) := by decide +kernel
theorem dX4_clerk_56 : decode cX4_clerk 56 = .ok (.aload_n 0, 1) := by decide +kernel
theorem dX4_clerk_57 : decode cX4_clerk 57 = .ok (.getfield 10, 3) := by decide +kernel
theorem dX4_clerk_60 : decode cX4_clerk 60 = .ok (.getfield 42, 3) := by decide +kernel
theorem dX4_clerk_63 : decode cX4_clerk 63 = .ok (.iload_n 1, 1) := by decide +kernel
theorem dX4_clerk_64 : decode cX4_clerk 64 = .ok (.invokevirtual 175, 3) := by decide +kernel
theorem dX4_clerk_67 : decode cX4_clerk 67 = .ok (.ireturn, 1) := by decide +kernel
theorem dX4_clerk_68 : decode cX4_clerk 68 = .ok (.aload_n 0, 1) := by decide +kernel
theorem dX4_clerk_69 : decode cX4_clerk 69 = .ok (.getfield 10, 3) := by decide +kernel
theorem dX4_clerk_72 : decode cX4_clerk 72 = .ok (.getfield 42, 3) := by decide +kernel
theorem dX4_clerk_75 : decode cX4_clerk 75 = .ok (.getfield 178, 3) := by decide +kernel
theorem dX4_clerk_78 : decode cX4_clerk 78 = .ok (.iload_n 1, 1) := by decide +kernel
theorem dX4_clerk_79 : decode cX4_clerk 79 = .ok (.iaload, 1) := by decide +kernel
theorem dX4_clerk_80 : decode cX4_clerk 80 = .ok (.ireturn, 1) := by decide +kernel
theorem dX4_clerk_81 : decode cX4_clerk 81 = .ok (.new 66, 3) := by decide +kernel
theorem dX4_clerk_84 : decode cX4_clerk 84 = .ok (.dup, 1) := by decide +kernel
theorem dX4_clerk_85 : decode cX4_clerk 85 = .ok (.ldc 181, 2) := by decide +kernel
theorem dX4_clerk_87 : decode cX4_clerk 87 = .ok (.invokespecial 70, 3) := by decide +kernel
theorem dX4_clerk_90 : decode cX4_clerk 90 = .ok (.athrow, 1) := by decide +kernel
set_option maxRecDepth 20000 in
theorem ggX4_readerOf_X4_isBelow : GoodIn wsX4_readerOf wsX4_isBelow := goodIn_r _ [21] (by decide +kernel) (by decide +kernel)
set_option maxRecDepth 20000 in
theorem gX4_readerOf_X4_isBelow : GoodIn wsX4_readerOf (va_wsS RX4 31 yX4_isBelow wsX4_isBelow) := goodIn_app (goodIn_of _ (by decide +kernel)) ggX4_readerOf_X4_isBelow
set_option maxRecDepth 20000 in
theorem ggX4_readerOf_X1_doing : GoodIn wsX4_readerOf wsX1_doing := goodIn_r _ [26, 27, 28, 29, 30, 25, 31, 32, 33, 66, 67, 68, 69, 70, 71, 72, 73, 74, 75] (by decide +kernel) (by decide +kernel)
set_option maxRecDepth 20000 in
theorem gX4_readerOf_X1_doing : GoodIn wsX4_readerOf (wsV RX4 183 RX1 yX1_doing wsX1_doing) := goodIn_app (goodIn_of _ (by decide +kernel)) ggX4_readerOf_X1_doing
set_option maxRecDepth 20000 in
theorem ggX4_readerOf_X0_latestSame : GoodIn wsX4_readerOf wsX0_latestSame := goodIn_r _ [38, 39, 40, 41, 37, 42, 43, 44, 45, 46, 47, 48, 49, 50, 51, 52, 53, 54, 55, 76, 77, 78, 79, 80] (by decide +kernel) (by decide +kernel)
set_option maxRecDepth 20000 in
theorem gX4_readerOf_X0_latestSame : GoodIn wsX4_readerOf (wsV RX4 205 RX0 yX0_latestSame wsX0_latestSame) := goodIn_app (goodIn_of _ (by decide +kernel)) ggX4_readerOf_X0_latestSame
theorem dX4_readerOf_0 : decode cX4_readerOf 0 = .ok (.iload_n 1, 1) := by decide +kernel
theorem dX4_readerOf_1 : decode cX4_readerOf 1 = .ok (.iconst 4, 1) := by decide +kernel
theorem dX4_readerOf_2 : decode cX4_readerOf 2 = .ok (.invokestatic 31, 3) := by decide +kernel
theorem dX4_readerOf_5 : decode cX4_readerOf 5 = .ok (.ifCond .ne 13, 3) := by decide +kernel
theorem dX4_readerOf_8 : decode cX4_readerOf 8 = .ok (.new 35, 3) := by decide +kernel
theorem dX4_readerOf_11 : decode cX4_readerOf 11 = .ok (.dup, 1) := by decide +kernel
theorem dX4_readerOf_12 : decode cX4_readerOf 12 = .ok (.ldc 89, 2) := by decide +kernel
theorem dX4_readerOf_14 : decode cX4_readerOf 14 = .ok (.invokespecial 39, 3) := by decide +kernel
theorem dX4_readerOf_17 : decode cX4_readerOf 17 = .ok (.athrow, 1) := by decide +kernel
theorem dX4_readerOf_18 : decode cX4_readerOf 18 = .ok (.aload_n 0, 1) := by decide +kernel
theorem dX4_readerOf_19 : decode cX4_readerOf 19 = .ok (.getfield 10, 3) := by decide +kernel
theorem dX4_readerOf_22 : decode cX4_readerOf 22 = .ok (.getfield 91, 3) := by decide +kernel
theorem dX4_readerOf_25 : decode cX4_readerOf 25 = .ok (.iload_n 1, 1) := by decide +kernel
theorem dX4_readerOf_26 : decode cX4_readerOf 26 = .ok (.aaload, 1) := by decide +kernel
theorem dX4_readerOf_27 : decode cX4_readerOf 27 = .ok (.astore_n 3, 1) := by decide +kernel
theorem dX4_readerOf_28 : decode cX4_readerOf 28 = .ok (.iload_n 2, 1) := by decide +kernel
theorem dX4_readerOf_29 : decode cX4_readerOf 29 = .ok (.tableswitch 145 0 7 #[47, 59, 75, 91, 96, 101, 106, 132], 47) := by decide +kernel
theorem dX4_readerOf_76 : decode cX4_readerOf 76 = .ok (.aload_n 3, 1) := by decide +kernel
theorem dX4_readerOf_77 : decode cX4_readerOf 77 = .ok (.aload_n 0, 1) := by decide +kernel
theorem dX4_readerOf_78 : decode cX4_readerOf 78 = .ok (.getfield 10, 3) := by decide +kernel
theorem dX4_readerOf_81 : decode cX4_readerOf 81 = .ok (.getfield 122, 3) := by decide +kernel
theorem dX4_readerOf_84 : decode cX4_readerOf 84 = .ok (.invokevirtual 183, 3) := by decide +kernel
theorem dX4_readerOf_87 : decode cX4_readerOf 87 = .ok (.ireturn, 1) := by decide +kernel
theorem dX4_readerOf_88 : decode cX4_readerOf 88 = .ok (.aload_n 3, 1) := by decide +kernel
theorem dX4_readerOf_89 : decode cX4_readerOf 89 = .ok (.getfield 114, 3) := by decide +kernel
theorem dX4_readerOf_92 : decode cX4_readerOf 92 = .ok (.ifCond .eq 10, 3) := by decide +kernel
theorem dX4_readerOf_95 : decode cX4_readerOf 95 = .ok (.aload_n 3, 1) := by decide +kernel
theorem dX4_readerOf_96 : decode cX4_readerOf 96 = .ok (.getfield 184, 3) := by decide +kernel
theorem dX4_readerOf_99 : decode cX4_readerOf 99 = .ok (.goto 4, 3) := by decide +kernel
theorem dX4_readerOf_102 : decode cX4_readerOf 102 = .ok (.iconst (-1), 1) := by decide +kernel
theorem dX4_readerOf_103 : decode cX4_readerOf 103 = .ok (.ireturn, 1) := by decide +kernel
theorem dX4_readerOf_104 : decode cX4_readerOf 104 = .ok (.aload_n 3, 1) := by decide +kernel
theorem dX4_readerOf_105 : decode cX4_readerOf 105 = .ok (.getfield 114, 3) := by decide +kernel
theorem dX4_readerOf_108 : decode cX4_readerOf 108 = .ok (.ifCond .eq 10, 3) := by decide +kernel
theorem dX4_readerOf_111 : decode cX4_readerOf 111 = .ok (.aload_n 3, 1) := by decide +kernel
theorem dX4_readerOf_112 : decode cX4_readerOf 112 = .ok (.getfield 187, 3) := by decide +kernel
theorem dX4_readerOf_115 : decode cX4_readerOf 115 = .ok (.goto 4, 3) := by decide +kernel
theorem dX4_readerOf_118 : decode cX4_readerOf 118 = .ok (.iconst (-1), 1) := by decide +kernel
theorem dX4_readerOf_119 : decode cX4_readerOf 119 = .ok (.ireturn, 1) := by decide +kernel
theorem dX4_readerOf_120 : decode cX4_readerOf 120 = .ok (.aload_n 3, 1) := by decide +kernel
theorem dX4_readerOf_121 : decode cX4_readerOf 121 = .ok (.getfield 190, 3) := by decide +kernel
theorem dX4_readerOf_124 : decode cX4_readerOf 124 = .ok (.ireturn, 1) := by decide +kernel
theorem dX4_readerOf_125 : decode cX4_readerOf 125 = .ok (.aload_n 3, 1) := by decide +kernel
theorem dX4_readerOf_126 : decode cX4_readerOf 126 = .ok (.getfield 193, 3) := by decide +kernel
theorem dX4_readerOf_129 : decode cX4_readerOf 129 = .ok (.ireturn, 1) := by decide +kernel
theorem dX4_readerOf_130 : decode cX4_readerOf 130 = .ok (.aload_n 3, 1) := by decide +kernel
theorem dX4_readerOf_131 : decode cX4_readerOf 131 = .ok (.getfield 196, 3) := by decide +kernel
theorem dX4_readerOf_134 : decode cX4_readerOf 134 = .ok (.ireturn, 1) := by decide +kernel
theorem dX4_readerOf_135 : decode cX4_readerOf 135 = .ok (.aload_n 3, 1) := by decide +kernel
theorem dX4_readerOf_136 : decode cX4_readerOf 136 = .ok (.getfield 199, 3) := by decide +kernel
theorem dX4_readerOf_139 : decode cX4_readerOf 139 = .ok (.ifCond .eq 20, 3) := by decide +kernel
theorem dX4_readerOf_142 : decode cX4_readerOf 142 = .ok (.aload_n 0, 1) := by decide +kernel
theorem dX4_readerOf_143 : decode cX4_readerOf 143 = .ok (.getfield 10, 3) := by decide +kernel
theorem dX4_readerOf_146 : decode cX4_readerOf 146 = .ok (.getfield 42, 3) := by decide +kernel
theorem dX4_readerOf_149 : decode cX4_readerOf 149 = .ok (.aload_n 3, 1) := by decide +kernel
theorem dX4_readerOf_150 : decode cX4_readerOf 150 = .ok (.getfield 202, 3) := by decide +kernel
theorem dX4_readerOf_153 : decode cX4_readerOf 153 = .ok (.invokevirtual 205, 3) := by decide +kernel
theorem dX4_readerOf_156 : decode cX4_readerOf 156 = .ok (.goto 4, 3) := by decide +kernel
theorem dX4_readerOf_159 : decode cX4_readerOf 159 = .ok (.iconst (-1), 1) := by decide +kernel
theorem dX4_readerOf_160 : decode cX4_readerOf 160 = .ok (.ireturn, 1) := by decide +kernel
theorem dX4_readerOf_161 : decode cX4_readerOf 161 = .ok (.aload_n 3, 1) := by decide +kernel
theorem dX4_readerOf_162 : decode cX4_readerOf 162 = .ok (.getfield 95, 3) := by decide +kernel
theorem dX4_readerOf_165 : decode cX4_readerOf 165 = .ok (.ifCond .eq 7, 3) := by decide +kernel
theorem dX4_readerOf_168 : decode cX4_readerOf 168 = .ok (.iconst 1, 1) := by decide +kernel
theorem dX4_readerOf_169 : decode cX4_readerOf 169 = .ok (.goto 4, 3) := by decide +kernel
theorem dX4_readerOf_172 : decode cX4_readerOf 172 = .ok (.iconst 0, 1) := by decide +kernel
theorem dX4_readerOf_173 : decode cX4_readerOf 173 = .ok (.ireturn, 1) := by decide +kernel
theorem dX4_readerOf_174 : decode cX4_readerOf 174 = .ok (.new 66, 3) := by decide +kernel
theorem dX4_readerOf_177 : decode cX4_readerOf 177 = .ok (.dup, 1) := by decide +kernel
theorem dX4_readerOf_178 : decode cX4_readerOf 178 = .ok (.ldc 209, 2) := by decide +kernel
theorem dX4_readerOf_180 : decode cX4_readerOf 180 = .ok (.invokespecial 70, 3) := by decide +kernel
theorem dX4_readerOf_183 : decode cX4_readerOf 183 = .ok (.athrow, 1) := by decide +kernel
set_option maxRecDepth 20000 in
theorem ggX4_has_X4_isBelow : GoodIn wsX4_has wsX4_isBelow := goodIn_r _ [10] (by decide +kernel) (by decide +kernel)
set_option maxRecDepth 20000 in
theorem gX4_has_X4_isBelow : GoodIn wsX4_has (va_wsS RX4 31 yX4_isBelow wsX4_isBelow) := goodIn_app (goodIn_of _ (by decide +kernel)) ggX4_has_X4_isBelow
theorem dX4_has_0 : decode cX4_has 0 = .ok (.iload_n 1, 1) := by decide +kernel
theorem dX4_has_1 : decode cX4_has 1 = .ok (.iconst 4, 1) := by decide +kernel
theorem dX4_has_2 : decode cX4_has 2 = .ok (.invokestatic 31, 3) := by decide +kernel
theorem dX4_has_5 : decode cX4_has 5 = .ok (.ifCond .eq 11, 3) := by decide +kernel
theorem dX4_has_8 : decode cX4_has 8 = .ok (.iload_n 2, 1) := by decide +kernel
theorem dX4_has_9 : decode cX4_has 9 = .ok (.iconst 5, 1) := by decide +kernel
theorem dX4_has_10 : decode cX4_has 10 = .ok (.invokestatic 31, 3) := by decide +kernel
theorem dX4_has_13 : decode cX4_has 13 = .ok (.ifCond .ne 13, 3) := by decide +kernel
theorem dX4_has_16 : decode cX4_has 16 = .ok (.new 35, 3) := by decide +kernel
theorem dX4_has_19 : decode cX4_has 19 = .ok (.dup, 1) := by decide +kernel
theorem dX4_has_20 : decode cX4_has 20 = .ok (.ldc 211, 2) := by decide +kernel
theorem dX4_has_22 : decode cX4_has 22 = .ok (.invokespecial 39, 3) := by decide +kernel
theorem dX4_has_25 : decode cX4_has 25 = .ok (.athrow, 1) := by decide +kernel
theorem dX4_has_26 : decode cX4_has 26 = .ok (.aload_n 0, 1) := by decide +kernel
theorem dX4_has_27 : decode cX4_has 27 = .ok (.getfield 10, 3) := by decide +kernel
theorem dX4_has_30 : decode cX4_has 30 = .ok (.getfield 91, 3) := by decide +kernel
theorem dX4_has_33 : decode cX4_has 33 = .ok (.iload_n 1, 1) := by decide +kernel
theorem dX4_has_34 : decode cX4_has 34 = .ok (.aaload, 1) := by decide +kernel
theorem dX4_has_35 : decode cX4_has 35 = .ok (.astore_n 3, 1) := by decide +kernel
theorem dX4_has_36 : decode cX4_has 36 = .ok (.aload_n 3, 1) := by decide +kernel
theorem dX4_has_37 : decode cX4_has 37 = .ok (.getfield 199, 3) := by decide +kernel
theorem dX4_has_40 : decode cX4_has 40 = .ok (.ifCond .eq 12, 3) := by decide +kernel
theorem dX4_has_43 : decode cX4_has 43 = .ok (.aload_n 3, 1) := by decide +kernel
theorem dX4_has_44 : decode cX4_has 44 = .ok (.getfield 202, 3) := by decide +kernel
theorem dX4_has_47 : decode cX4_has 47 = .ok (.iload_n 2, 1) := by decide +kernel
theorem dX4_has_48 : decode cX4_has 48 = .ok (.iaload, 1) := by decide +kernel
theorem dX4_has_49 : decode cX4_has 49 = .ok (.goto 4, 3) := by decide +kernel
theorem dX4_has_52 : decode cX4_has 52 = .ok (.iconst (-1), 1) := by decide +kernel
theorem dX4_has_53 : decode cX4_has 53 = .ok (.ireturn, 1) := by decide +kernel
set_option maxRecDepth 20000 in
theorem ggX4_count_X0_whoChalks : GoodIn wsX4_count wsX0_whoChalks := goodIn_r _ [17, 18, 19, 20, 16, 21, 22, 58, 59, 60, 61, 62] (by decide +kernel) (by decide +kernel)
set_option maxRecDepth 20000 in
theorem gX4_count_X0_whoChalks : GoodIn wsX4_count (wsV RX4 216 RX0 yX0_whoChalks wsX0_whoChalks) := goodIn_app (goodIn_of _ (by decide +kernel)) ggX4_count_X0_whoChalks
set_option maxRecDepth 20000 in
theorem ggX4_count_X0_inLine : GoodIn wsX4_count wsX0_inLine := goodIn_r _ [26, 27, 28, 29, 16, 30, 22, 58, 59, 60, 61, 62] (by decide +kernel) (by decide +kernel)
set_option maxRecDepth 20000 in
theorem gX4_count_X0_inLine : GoodIn wsX4_count (wsV RX4 219 RX0 yX0_inLine wsX0_inLine) := goodIn_app (goodIn_of _ (by decide +kernel)) ggX4_count_X0_inLine
set_option maxRecDepth 20000 in
theorem ggX4_count_X2_reading : GoodIn wsX4_count wsX2_reading := goodIn_r _ [35, 36, 37, 54, 55, 56, 57, 63, 64, 65, 66, 67, 68, 69, 70, 71, 72] (by decide +kernel) (by decide +kernel)
set_option maxRecDepth 20000 in
theorem gX4_count_X2_reading : GoodIn wsX4_count (wsV RX4 227 RX2 yX2_reading wsX2_reading) := goodIn_app (goodIn_of _ (by decide +kernel)) ggX4_count_X2_reading
set_option maxRecDepth 20000 in
theorem ggX4_count_X2_failedOfAll : GoodIn wsX4_count wsX2_failedOfAll := goodIn_r _ [41, 36, 42, 54, 55, 56, 57, 63, 64, 65, 66, 67, 68, 69, 70, 71, 72] (by decide +kernel) (by decide +kernel)
set_option maxRecDepth 20000 in
theorem gX4_count_X2_failedOfAll : GoodIn wsX4_count (wsV RX4 230 RX2 yX2_failedOfAll wsX2_failedOfAll) := goodIn_app (goodIn_of _ (by decide +kernel)) ggX4_count_X2_failedOfAll
set_option maxRecDepth 20000 in
theorem ggX4_count_X2_wellOfAll : GoodIn wsX4_count wsX2_wellOfAll := goodIn_r _ [46, 36, 47, 54, 55, 56, 57, 63, 64, 65, 66, 67, 68, 69, 70, 71, 72] (by decide +kernel) (by decide +kernel)
set_option maxRecDepth 20000 in
theorem gX4_count_X2_wellOfAll : GoodIn wsX4_count (wsV RX4 233 RX2 yX2_wellOfAll wsX2_wellOfAll) := goodIn_app (goodIn_of _ (by decide +kernel)) ggX4_count_X2_wellOfAll
theorem dX4_count_0 : decode cX4_count 0 = .ok (.iload_n 1, 1) := by decide +kernel
theorem dX4_count_1 : decode cX4_count 1 = .ok (.tableswitch 135 0 8 #[51, 62, 73, 90, 98, 106, 114, 122, 130], 51) := by decide +kernel
theorem dX4_count_52 : decode cX4_count 52 = .ok (.aload_n 0, 1) := by decide +kernel
theorem dX4_count_53 : decode cX4_count 53 = .ok (.getfield 10, 3) := by decide +kernel
theorem dX4_count_56 : decode cX4_count 56 = .ok (.getfield 42, 3) := by decide +kernel
theorem dX4_count_59 : decode cX4_count 59 = .ok (.getfield 213, 3) := by decide +kernel
theorem dX4_count_62 : decode cX4_count 62 = .ok (.ireturn, 1) := by decide +kernel
theorem dX4_count_63 : decode cX4_count 63 = .ok (.aload_n 0, 1) := by decide +kernel
theorem dX4_count_64 : decode cX4_count 64 = .ok (.getfield 10, 3) := by decide +kernel
theorem dX4_count_67 : decode cX4_count 67 = .ok (.getfield 42, 3) := by decide +kernel
theorem dX4_count_70 : decode cX4_count 70 = .ok (.invokevirtual 216, 3) := by decide +kernel
theorem dX4_count_73 : decode cX4_count 73 = .ok (.ireturn, 1) := by decide +kernel
theorem dX4_count_74 : decode cX4_count 74 = .ok (.iconst 0, 1) := by decide +kernel
theorem dX4_count_75 : decode cX4_count 75 = .ok (.aload_n 0, 1) := by decide +kernel
theorem dX4_count_76 : decode cX4_count 76 = .ok (.getfield 10, 3) := by decide +kernel
theorem dX4_count_79 : decode cX4_count 79 = .ok (.getfield 42, 3) := by decide +kernel
theorem dX4_count_82 : decode cX4_count 82 = .ok (.invokevirtual 219, 3) := by decide +kernel
theorem dX4_count_85 : decode cX4_count 85 = .ok (.iconst 1, 1) := by decide +kernel
theorem dX4_count_86 : decode cX4_count 86 = .ok (.isub, 1) := by decide +kernel
theorem dX4_count_87 : decode cX4_count 87 = .ok (.invokestatic 222, 3) := by decide +kernel
theorem dX4_count_90 : decode cX4_count 90 = .ok (.ireturn, 1) := by decide +kernel
theorem dX4_count_91 : decode cX4_count 91 = .ok (.aload_n 0, 1) := by decide +kernel
theorem dX4_count_92 : decode cX4_count 92 = .ok (.getfield 10, 3) := by decide +kernel
theorem dX4_count_95 : decode cX4_count 95 = .ok (.invokevirtual 227, 3) := by decide +kernel
theorem dX4_count_98 : decode cX4_count 98 = .ok (.ireturn, 1) := by decide +kernel
theorem dX4_count_99 : decode cX4_count 99 = .ok (.aload_n 0, 1) := by decide +kernel
theorem dX4_count_100 : decode cX4_count 100 = .ok (.getfield 10, 3) := by decide +kernel
theorem dX4_count_103 : decode cX4_count 103 = .ok (.invokevirtual 230, 3) := by decide +kernel
theorem dX4_count_106 : decode cX4_count 106 = .ok (.ireturn, 1) := by decide +kernel
theorem dX4_count_107 : decode cX4_count 107 = .ok (.aload_n 0, 1) := by decide +kernel
theorem dX4_count_108 : decode cX4_count 108 = .ok (.getfield 10, 3) := by decide +kernel
theorem dX4_count_111 : decode cX4_count 111 = .ok (.invokevirtual 233, 3) := by decide +kernel
theorem dX4_count_114 : decode cX4_count 114 = .ok (.ireturn, 1) := by decide +kernel
theorem dX4_count_115 : decode cX4_count 115 = .ok (.aload_n 0, 1) := by decide +kernel
theorem dX4_count_116 : decode cX4_count 116 = .ok (.getfield 10, 3) := by decide +kernel
theorem dX4_count_119 : decode cX4_count 119 = .ok (.getfield 236, 3) := by decide +kernel
theorem dX4_count_122 : decode cX4_count 122 = .ok (.ireturn, 1) := by decide +kernel
theorem dX4_count_123 : decode cX4_count 123 = .ok (.aload_n 0, 1) := by decide +kernel
theorem dX4_count_124 : decode cX4_count 124 = .ok (.getfield 10, 3) := by decide +kernel
theorem dX4_count_127 : decode cX4_count 127 = .ok (.getfield 122, 3) := by decide +kernel
theorem dX4_count_130 : decode cX4_count 130 = .ok (.ireturn, 1) := by decide +kernel
theorem dX4_count_131 : decode cX4_count 131 = .ok (.aload_n 0, 1) := by decide +kernel
theorem dX4_count_132 : decode cX4_count 132 = .ok (.getfield 152, 3) := by decide +kernel
theorem dX4_count_135 : decode cX4_count 135 = .ok (.ireturn, 1) := by decide +kernel
theorem dX4_count_136 : decode cX4_count 136 = .ok (.new 66, 3) := by decide +kernel
theorem dX4_count_139 : decode cX4_count 139 = .ok (.dup, 1) := by decide +kernel
theorem dX4_count_140 : decode cX4_count 140 = .ok (.ldc 239, 2) := by decide +kernel
theorem dX4_count_142 : decode cX4_count 142 = .ok (.invokespecial 70, 3) := by decide +kernel
theorem dX4_count_145 : decode cX4_count 145 = .ok (.athrow, 1) := by decide +kernel
set_option maxRecDepth 20000 in
theorem ggX4_ifRead_X4_isBelow : GoodIn wsX4_ifRead wsX4_isBelow := goodIn_r _ [7] (by decide +kernel) (by decide +kernel)
set_option maxRecDepth 20000 in
theorem gX4_ifRead_X4_isBelow : GoodIn wsX4_ifRead (va_wsS RX4 31 yX4_isBelow wsX4_isBelow) := goodIn_app (goodIn_of _ (by decide +kernel)) ggX4_ifRead_X4_isBelow
set_option maxRecDepth 20000 in
theorem ggX4_ifRead_X2_outcome : GoodIn wsX4_ifRead wsX2_outcome := goodIn_r _ [12, 13, 14, 15, 16, 17, 18, 19, 20, 21, 22, 23, 24, 25, 26, 27, 28, 29, 30, 31, 32, 33, 34, 35, 42, 43, 44, 45, 46, 47, 48, 49, 50, 51, 52, 53, 54, 55, 56, 57, 58, 59, 60] (by decide +kernel) (by decide +kernel)
set_option maxRecDepth 20000 in
theorem gX4_ifRead_X2_outcome : GoodIn wsX4_ifRead (wsV RX4 241 RX2 yX2_outcome wsX2_outcome) := goodIn_app (goodIn_of _ (by decide +kernel)) ggX4_ifRead_X2_outcome
theorem dX4_ifRead_0 : decode cX4_ifRead 0 = .ok (.iload_n 1, 1) := by decide +kernel
theorem dX4_ifRead_1 : decode cX4_ifRead 1 = .ok (.iconst 4, 1) := by decide +kernel
theorem dX4_ifRead_2 : decode cX4_ifRead 2 = .ok (.invokestatic 31, 3) := by decide +kernel
theorem dX4_ifRead_5 : decode cX4_ifRead 5 = .ok (.ifCond .ne 13, 3) := by decide +kernel
theorem dX4_ifRead_8 : decode cX4_ifRead 8 = .ok (.new 35, 3) := by decide +kernel
theorem dX4_ifRead_11 : decode cX4_ifRead 11 = .ok (.dup, 1) := by decide +kernel
theorem dX4_ifRead_12 : decode cX4_ifRead 12 = .ok (.ldc 89, 2) := by decide +kernel
theorem dX4_ifRead_14 : decode cX4_ifRead 14 = .ok (.invokespecial 39, 3) := by decide +kernel
theorem dX4_ifRead_17 : decode cX4_ifRead 17 = .ok (.athrow, 1) := by decide +kernel
theorem dX4_ifRead_18 : decode cX4_ifRead 18 = .ok (.aload_n 0, 1) := by decide +kernel
theorem dX4_ifRead_19 : decode cX4_ifRead 19 = .ok (.getfield 10, 3) := by decide +kernel
theorem dX4_ifRead_22 : decode cX4_ifRead 22 = .ok (.iload_n 1, 1) := by decide +kernel
theorem dX4_ifRead_23 : decode cX4_ifRead 23 = .ok (.invokevirtual 241, 3) := by decide +kernel
theorem dX4_ifRead_26 : decode cX4_ifRead 26 = .ok (.ireturn, 1) := by decide +kernel
set_option maxRecDepth 20000 in
theorem ggX4_wouldBeHalf_X4_isBelow : GoodIn wsX4_wouldBeHalf wsX4_isBelow := goodIn_r _ [10] (by decide +kernel) (by decide +kernel)
set_option maxRecDepth 20000 in
theorem gX4_wouldBeHalf_X4_isBelow : GoodIn wsX4_wouldBeHalf (va_wsS RX4 31 yX4_isBelow wsX4_isBelow) := goodIn_app (goodIn_of _ (by decide +kernel)) ggX4_wouldBeHalf_X4_isBelow
set_option maxRecDepth 20000 in
theorem ggX4_wouldBeHalf_X2_outcome : GoodIn wsX4_wouldBeHalf wsX2_outcome := goodIn_r _ [15, 16, 17, 18, 19, 20, 21, 22, 23, 24, 25, 26, 27, 28, 29, 30, 31, 32, 33, 34, 35, 36, 37, 38, 72, 73, 74, 75, 76, 77, 78, 79, 80, 81, 82, 83, 84, 85, 86, 87, 88, 89, 90] (by decide +kernel) (by decide +kernel)
set_option maxRecDepth 20000 in
theorem gX4_wouldBeHalf_X2_outcome : GoodIn wsX4_wouldBeHalf (wsV RX4 241 RX2 yX2_outcome wsX2_outcome) := goodIn_app (goodIn_of _ (by decide +kernel)) ggX4_wouldBeHalf_X2_outcome
set_option maxRecDepth 20000 in
theorem ggX4_wouldBeHalf_X1_fillWouldTake : GoodIn wsX4_wouldBeHalf wsX1_fillWouldTake := goodIn_r _ [42, 25, 43, 44, 45, 76, 77, 78, 79, 80, 81, 82, 83, 84, 85, 86, 87, 88, 89, 90] (by decide +kernel) (by decide +kernel)
set_option maxRecDepth 20000 in
theorem gX4_wouldBeHalf_X1_fillWouldTake : GoodIn wsX4_wouldBeHalf (wsV RX4 244 RX1 yX1_fillWouldTake wsX1_fillWouldTake) := goodIn_app (goodIn_of _ (by decide +kernel)) ggX4_wouldBeHalf_X1_fillWouldTake
set_option maxRecDepth 20000 in
theorem ggX4_wouldBeHalf_X0_latestSame : GoodIn wsX4_wouldBeHalf wsX0_latestSame := goodIn_r _ [49, 50, 51, 52, 36, 53, 38, 54, 55, 56, 57, 58, 59, 60, 61, 62, 63, 64, 65, 86, 87, 88, 89, 90] (by decide +kernel) (by decide +kernel)
set_option maxRecDepth 20000 in
theorem gX4_wouldBeHalf_X0_latestSame : GoodIn wsX4_wouldBeHalf (wsV RX4 205 RX0 yX0_latestSame wsX0_latestSame) := goodIn_app (goodIn_of _ (by decide +kernel)) ggX4_wouldBeHalf_X0_latestSame
theorem dX4_wouldBeHalf_0 : decode cX4_wouldBeHalf 0 = .ok (.iload_n 1, 1) := by decide +kernel
theorem dX4_wouldBeHalf_1 : decode cX4_wouldBeHalf 1 = .ok (.iconst 4, 1) := by decide +kernel
theorem dX4_wouldBeHalf_2 : decode cX4_wouldBeHalf 2 = .ok (.invokestatic 31, 3) := by decide +kernel
theorem dX4_wouldBeHalf_5 : decode cX4_wouldBeHalf 5 = .ok (.ifCond .ne 13, 3) := by decide +kernel
theorem dX4_wouldBeHalf_8 : decode cX4_wouldBeHalf 8 = .ok (.new 35, 3) := by decide +kernel
theorem dX4_wouldBeHalf_11 : decode cX4_wouldBeHalf 11 = .ok (.dup, 1) := by decide +kernel
theorem dX4_wouldBeHalf_12 : decode cX4_wouldBeHalf 12 = .ok (.ldc 89, 2) := by decide +kernel
theorem dX4_wouldBeHalf_14 : decode cX4_wouldBeHalf 14 = .ok (.invokespecial 39, 3) := by decide +kernel
theorem dX4_wouldBeHalf_17 : decode cX4_wouldBeHalf 17 = .ok (.athrow, 1) := by decide +kernel
theorem dX4_wouldBeHalf_18 : decode cX4_wouldBeHalf 18 = .ok (.aload_n 0, 1) := by decide +kernel
theorem dX4_wouldBeHalf_19 : decode cX4_wouldBeHalf 19 = .ok (.getfield 10, 3) := by decide +kernel
theorem dX4_wouldBeHalf_22 : decode cX4_wouldBeHalf 22 = .ok (.iload_n 1, 1) := by decide +kernel
theorem dX4_wouldBeHalf_23 : decode cX4_wouldBeHalf 23 = .ok (.invokevirtual 241, 3) := by decide +kernel
theorem dX4_wouldBeHalf_26 : decode cX4_wouldBeHalf 26 = .ok (.iconst 1, 1) := by decide +kernel
theorem dX4_wouldBeHalf_27 : decode cX4_wouldBeHalf 27 = .ok (.if_icmp .eq 5, 3) := by decide +kernel
theorem dX4_wouldBeHalf_30 : decode cX4_wouldBeHalf 30 = .ok (.iconst 0, 1) := by decide +kernel
theorem dX4_wouldBeHalf_31 : decode cX4_wouldBeHalf 31 = .ok (.ireturn, 1) := by decide +kernel
theorem dX4_wouldBeHalf_32 : decode cX4_wouldBeHalf 32 = .ok (.aload_n 0, 1) := by decide +kernel
theorem dX4_wouldBeHalf_33 : decode cX4_wouldBeHalf 33 = .ok (.getfield 10, 3) := by decide +kernel
theorem dX4_wouldBeHalf_36 : decode cX4_wouldBeHalf 36 = .ok (.getfield 91, 3) := by decide +kernel
theorem dX4_wouldBeHalf_39 : decode cX4_wouldBeHalf 39 = .ok (.iload_n 1, 1) := by decide +kernel
theorem dX4_wouldBeHalf_40 : decode cX4_wouldBeHalf 40 = .ok (.aaload, 1) := by decide +kernel
theorem dX4_wouldBeHalf_41 : decode cX4_wouldBeHalf 41 = .ok (.aload_n 0, 1) := by decide +kernel
theorem dX4_wouldBeHalf_42 : decode cX4_wouldBeHalf 42 = .ok (.getfield 27, 3) := by decide +kernel
theorem dX4_wouldBeHalf_45 : decode cX4_wouldBeHalf 45 = .ok (.aload_n 0, 1) := by decide +kernel
theorem dX4_wouldBeHalf_46 : decode cX4_wouldBeHalf 46 = .ok (.getfield 10, 3) := by decide +kernel
theorem dX4_wouldBeHalf_49 : decode cX4_wouldBeHalf 49 = .ok (.getfield 42, 3) := by decide +kernel
theorem dX4_wouldBeHalf_52 : decode cX4_wouldBeHalf 52 = .ok (.invokevirtual 244, 3) := by decide +kernel
theorem dX4_wouldBeHalf_55 : decode cX4_wouldBeHalf 55 = .ok (.aload_n 0, 1) := by decide +kernel
theorem dX4_wouldBeHalf_56 : decode cX4_wouldBeHalf 56 = .ok (.getfield 10, 3) := by decide +kernel
theorem dX4_wouldBeHalf_59 : decode cX4_wouldBeHalf 59 = .ok (.getfield 42, 3) := by decide +kernel
theorem dX4_wouldBeHalf_62 : decode cX4_wouldBeHalf 62 = .ok (.aload_n 0, 1) := by decide +kernel
theorem dX4_wouldBeHalf_63 : decode cX4_wouldBeHalf 63 = .ok (.getfield 27, 3) := by decide +kernel
theorem dX4_wouldBeHalf_66 : decode cX4_wouldBeHalf 66 = .ok (.invokevirtual 205, 3) := by decide +kernel
theorem dX4_wouldBeHalf_69 : decode cX4_wouldBeHalf 69 = .ok (.iconst (-1), 1) := by decide +kernel
theorem dX4_wouldBeHalf_70 : decode cX4_wouldBeHalf 70 = .ok (.if_icmp .ne 7, 3) := by decide +kernel
theorem dX4_wouldBeHalf_73 : decode cX4_wouldBeHalf 73 = .ok (.iconst 1, 1) := by decide +kernel
theorem dX4_wouldBeHalf_74 : decode cX4_wouldBeHalf 74 = .ok (.goto 4, 3) := by decide +kernel
theorem dX4_wouldBeHalf_77 : decode cX4_wouldBeHalf 77 = .ok (.iconst 0, 1) := by decide +kernel
theorem dX4_wouldBeHalf_78 : decode cX4_wouldBeHalf 78 = .ok (.ireturn, 1) := by decide +kernel
set_option maxRecDepth 20000 in
theorem ggX4_busy_X0_inLine : GoodIn wsX4_busy wsX0_inLine := goodIn_r _ [7, 8, 9, 10, 6, 11, 12, 23, 24, 25, 26, 27] (by decide +kernel) (by decide +kernel)
set_option maxRecDepth 20000 in
theorem gX4_busy_X0_inLine : GoodIn wsX4_busy (wsV RX4 219 RX0 yX0_inLine wsX0_inLine) := goodIn_app (goodIn_of _ (by decide +kernel)) ggX4_busy_X0_inLine
theorem dX4_busy_0 : decode cX4_busy 0 = .ok (.aload_n 0, 1) := by decide +kernel
theorem dX4_busy_1 : decode cX4_busy 1 = .ok (.getfield 10, 3) := by decide +kernel
theorem dX4_busy_4 : decode cX4_busy 4 = .ok (.getfield 42, 3) := by decide +kernel
theorem dX4_busy_7 : decode cX4_busy 7 = .ok (.invokevirtual 219, 3) := by decide +kernel
theorem dX4_busy_10 : decode cX4_busy 10 = .ok (.ireturn, 1) := by decide +kernel
set_option maxRecDepth 20000 in
theorem ggX4_wellShare_X2_wellOfAll : GoodIn wsX4_wellShare wsX2_wellOfAll := goodIn_r _ [6, 7, 8, 20, 21, 22, 23, 24, 25, 26, 27, 28, 29, 30, 31, 32, 33] (by decide +kernel) (by decide +kernel)
set_option maxRecDepth 20000 in
theorem gX4_wellShare_X2_wellOfAll : GoodIn wsX4_wellShare (wsV RX4 233 RX2 yX2_wellOfAll wsX2_wellOfAll) := goodIn_app (goodIn_of _ (by decide +kernel)) ggX4_wellShare_X2_wellOfAll
set_option maxRecDepth 20000 in
theorem ggX4_wellShare_X2_failedOfAll : GoodIn wsX4_wellShare wsX2_failedOfAll := goodIn_r _ [12, 7, 13, 20, 21, 22, 23, 24, 25, 26, 27, 28, 29, 30, 31, 32, 33] (by decide +kernel) (by decide +kernel)
set_option maxRecDepth 20000 in
theorem gX4_wellShare_X2_failedOfAll : GoodIn wsX4_wellShare (wsV RX4 230 RX2 yX2_failedOfAll wsX2_failedOfAll) := goodIn_app (goodIn_of _ (by decide +kernel)) ggX4_wellShare_X2_failedOfAll
theorem dX4_wellShare_0 : decode cX4_wellShare 0 = .ok (.aload_n 0, 1) := by decide +kernel
theorem dX4_wellShare_1 : decode cX4_wellShare 1 = .ok (.getfield 10, 3) := by decide +kernel
theorem dX4_wellShare_4 : decode cX4_wellShare 4 = .ok (.invokevirtual 233, 3) := by decide +kernel
theorem dX4_wellShare_7 : decode cX4_wellShare 7 = .ok (.istore_n 1, 1) := by decide +kernel
theorem dX4_wellShare_8 : decode cX4_wellShare 8 = .ok (.iload_n 1, 1) := by decide +kernel
theorem dX4_wellShare_9 : decode cX4_wellShare 9 = .ok (.aload_n 0, 1) := by decide +kernel
theorem dX4_wellShare_10 : decode cX4_wellShare 10 = .ok (.getfield 10, 3) := by decide +kernel
theorem dX4_wellShare_13 : decode cX4_wellShare 13 = .ok (.invokevirtual 230, 3) := by decide +kernel
theorem dX4_wellShare_16 : decode cX4_wellShare 16 = .ok (.iadd, 1) := by decide +kernel
theorem dX4_wellShare_17 : decode cX4_wellShare 17 = .ok (.istore_n 2, 1) := by decide +kernel
theorem dX4_wellShare_18 : decode cX4_wellShare 18 = .ok (.iload_n 2, 1) := by decide +kernel
theorem dX4_wellShare_19 : decode cX4_wellShare 19 = .ok (.ifCond .gt 7, 3) := by decide +kernel
theorem dX4_wellShare_22 : decode cX4_wellShare 22 = .ok (.dconst 1, 1) := by decide +kernel
theorem dX4_wellShare_23 : decode cX4_wellShare 23 = .ok (.goto 8, 3) := by decide +kernel
theorem dX4_wellShare_26 : decode cX4_wellShare 26 = .ok (.iload_n 1, 1) := by decide +kernel
theorem dX4_wellShare_27 : decode cX4_wellShare 27 = .ok (.i2d, 1) := by decide +kernel
theorem dX4_wellShare_28 : decode cX4_wellShare 28 = .ok (.iload_n 2, 1) := by decide +kernel
theorem dX4_wellShare_29 : decode cX4_wellShare 29 = .ok (.i2d, 1) := by decide +kernel
theorem dX4_wellShare_30 : decode cX4_wellShare 30 = .ok (.ddiv, 1) := by decide +kernel
theorem dX4_wellShare_31 : decode cX4_wellShare 31 = .ok (.dreturn, 1) := by decide +kernel
set_option maxRecDepth 20000 in
theorem ggX4_digest_X4_hashCountsAndFields : GoodIn wsX4_digest wsX4_hashCountsAndFields := goodIn_ca (goodIn_r _ [6, 7, 8, 9, 10, 11, 12, 5, 13, 14, 15, 16, 17, 18, 19, 20, 21, 22, 23, 24, 25, 26, 27, 28, 29, 30, 31, 32, 33, 34, 35, 36, 37, 38, 39, 40, 41, 42, 43, 44, 45, 46, 47, 48, 49, 50, 51, 52, 53, 54, 55, 56, 57, 58, 59, 60, 61, 62, 215, 216, 217, 218, 219, 220, 221, 222, 223, 224, 225, 226, 227, 228, 229, 230, 231, 232, 233, 234, 235, 236, 237, 238, 239] (by decide +kernel) (by decide +kernel)) (goodIn_sub (fun _ h => List.mem_cons_of_mem _ (List.mem_append_left _ (List.mem_append_right _ h))) (by decide +kernel))
set_option maxRecDepth 20000 in
theorem gX4_digest_X4_hashCountsAndFields : GoodIn wsX4_digest (wsV RX4 250 RX4 yX4_hashCountsAndFields wsX4_hashCountsAndFields) := goodIn_app (goodIn_of _ (by decide +kernel)) ggX4_digest_X4_hashCountsAndFields
set_option maxRecDepth 20000 in
theorem ggX4_digest_X4_hashClerks : GoodIn wsX4_digest wsX4_hashClerks := goodIn_ca (goodIn_ca (goodIn_r _ [66, 67, 68, 69, 5, 70, 71, 72, 14, 15, 7, 8, 73, 74, 75, 76, 77, 78, 79, 27, 80, 38, 39, 40, 41, 33, 29, 30, 31, 32, 81, 82, 83, 84, 59, 60, 61, 62, 215, 216, 217, 218, 219, 220, 221, 222, 223, 224, 225, 226, 227, 228, 229] (by decide +kernel) (by decide +kernel)) (goodIn_sub (fun _ h => List.mem_cons_of_mem _ (List.mem_append_right _ h)) (by decide +kernel))) (goodIn_sub (fun _ h => List.mem_cons_of_mem _ (List.mem_append_left _ (List.mem_append_right _ h))) (by decide +kernel))
set_option maxRecDepth 20000 in
theorem gX4_digest_X4_hashClerks : GoodIn wsX4_digest (wsV RX4 254 RX4 yX4_hashClerks wsX4_hashClerks) := goodIn_app (goodIn_of _ (by decide +kernel)) ggX4_digest_X4_hashClerks
set_option maxRecDepth 20000 in
theorem ggX4_digest_X4_hashReader : GoodIn wsX4_digest wsX4_hashReader := goodIn_ca (goodIn_ca (goodIn_r _ [88, 89, 90, 91, 5, 92, 71, 72, 14, 15, 7, 93, 22, 94, 95, 96, 97, 98, 99, 100, 8, 101, 102, 74, 75, 76, 103, 104, 105, 106, 107, 108, 109, 110, 111, 112, 113, 114, 115, 116, 117, 27, 118, 119, 120, 121, 122, 123, 124, 125, 126, 127, 128, 129, 130, 131, 132, 133, 134, 135, 59, 60, 61, 62, 136, 137, 138, 139, 140, 141, 142, 143, 144, 145, 146, 45, 147, 47, 148, 149, 150, 151, 152, 153, 154, 155, 156, 157, 158, 159, 160, 161, 162, 163, 164, 165, 166, 167, 168, 169, 170, 171, 172, 215, 216, 217, 218, 219, 220, 221, 222, 223, 224, 230, 231, 232, 233, 234, 235, 236, 237, 238, 239, 225, 226, 227, 228, 229] (by decide +kernel) (by decide +kernel)) (goodIn_sub (fun _ h => List.mem_cons_of_mem _ (List.mem_append_right _ h)) (by decide +kernel))) (goodIn_sub (fun _ h => List.mem_cons_of_mem _ (List.mem_append_left _ (List.mem_append_right _ h))) (by decide +kernel))
set_option maxRecDepth 20000 in
theorem gX4_digest_X4_hashReader : GoodIn wsX4_digest (wsV RX4 257 RX4 yX4_hashReader wsX4_hashReader) := goodIn_app (goodIn_of _ (by decide +kernel)) ggX4_digest_X4_hashReader
set_option maxRecDepth 20000 in
theorem ggX4_digest_X4_hashNotices : GoodIn wsX4_digest wsX4_hashNotices := goodIn_r _ [176, 7, 8, 177, 178, 179, 27, 180, 181, 18, 19, 20, 119, 120, 121, 122, 123, 182, 183, 184, 185, 186, 135, 187, 124, 125, 126, 127, 128, 129, 130, 59, 60, 5, 61, 62, 215, 216, 217, 218, 219, 220, 221, 222, 223, 224, 225, 226, 227, 228, 229] (by decide +kernel) (by decide +kernel)
set_option maxRecDepth 20000 in
theorem gX4_digest_X4_hashNotices : GoodIn wsX4_digest (wsV RX4 261 RX4 yX4_hashNotices wsX4_hashNotices) := goodIn_app (goodIn_of _ (by decide +kernel)) ggX4_digest_X4_hashNotices
set_option maxRecDepth 20000 in
theorem ggX4_digest_X4_busy : GoodIn wsX4_digest wsX4_busy := goodIn_r _ [191, 7, 8, 34, 35, 36, 27, 37, 38, 39, 40, 41, 33, 215, 216, 217, 218, 219, 220, 221, 222, 223, 224, 225, 226, 227, 228, 229] (by decide +kernel) (by decide +kernel)
set_option maxRecDepth 20000 in
theorem gX4_digest_X4_busy : GoodIn wsX4_digest (wsV RX4 264 RX4 yX4_busy wsX4_busy) := goodIn_app (goodIn_of _ (by decide +kernel)) ggX4_digest_X4_busy
set_option maxRecDepth 20000 in
theorem ggX4_digest_X4_mix : GoodIn wsX4_digest wsX4_mix := goodIn_r _ [61, 62] (by decide +kernel) (by decide +kernel)
set_option maxRecDepth 20000 in
theorem gX4_digest_X4_mix : GoodIn wsX4_digest (va_wsS RX4 267 yX4_mix wsX4_mix) := goodIn_app (goodIn_of _ (by decide +kernel)) ggX4_digest_X4_mix
set_option maxRecDepth 20000 in
theorem ggX4_digest_X4_wellShare : GoodIn wsX4_digest wsX4_wellShare := goodIn_r _ [195, 7, 54, 55, 56, 45, 57, 47, 58, 49, 50, 51, 52, 53, 215, 216, 217, 218, 219, 220, 221, 222, 223, 224, 230, 231, 232, 233, 234, 235, 236, 237, 238, 239] (by decide +kernel) (by decide +kernel)
set_option maxRecDepth 20000 in
theorem gX4_digest_X4_wellShare : GoodIn wsX4_digest (wsV RX4 271 RX4 yX4_wellShare wsX4_wellShare) := goodIn_app (goodIn_of _ (by decide +kernel)) ggX4_digest_X4_wellShare
set_option maxRecDepth 20000 in
theorem ggX4_digest_X4_bitsOfShare : GoodIn wsX4_digest wsX4_bitsOfShare := goodIn_r _ [198, 199, 200, 201] (by decide +kernel) (by decide +kernel)
set_option maxRecDepth 20000 in
theorem gX4_digest_X4_bitsOfShare : GoodIn wsX4_digest (va_wsS RX4 275 yX4_bitsOfShare wsX4_bitsOfShare) := goodIn_app (goodIn_of _ (by decide +kernel)) ggX4_digest_X4_bitsOfShare
set_option maxRecDepth 20000 in
theorem ggX4_digest_X4_hashBuffer : GoodIn wsX4_digest wsX4_hashBuffer := goodIn_r _ [205, 206, 207, 59, 60, 5, 61, 62, 208, 209, 210, 211, 212, 213, 214, 75, 76, 215, 216, 217, 218, 219, 220, 240, 241, 242, 243] (by decide +kernel) (by decide +kernel)
set_option maxRecDepth 20000 in
theorem gX4_digest_X4_hashBuffer : GoodIn wsX4_digest (wsV RX4 279 RX4 yX4_hashBuffer wsX4_hashBuffer) := goodIn_app (goodIn_of _ (by decide +kernel)) ggX4_digest_X4_hashBuffer
theorem dX4_digest_0 : decode cX4_digest 0 = .ok (.aload_n 0, 1) := by decide +kernel
theorem dX4_digest_1 : decode cX4_digest 1 = .ok (.ldc2_w 248, 3) := by decide +kernel
theorem dX4_digest_4 : decode cX4_digest 4 = .ok (.invokevirtual 250, 3) := by decide +kernel
theorem dX4_digest_7 : decode cX4_digest 7 = .ok (.lstore_n 1, 1) := by decide +kernel
theorem dX4_digest_8 : decode cX4_digest 8 = .ok (.aload_n 0, 1) := by decide +kernel
theorem dX4_digest_9 : decode cX4_digest 9 = .ok (.lload_n 1, 1) := by decide +kernel
theorem dX4_digest_10 : decode cX4_digest 10 = .ok (.invokevirtual 254, 3) := by decide +kernel
theorem dX4_digest_13 : decode cX4_digest 13 = .ok (.lstore_n 1, 1) := by decide +kernel
theorem dX4_digest_14 : decode cX4_digest 14 = .ok (.iconst 0, 1) := by decide +kernel
theorem dX4_digest_15 : decode cX4_digest 15 = .ok (.istore_n 3, 1) := by decide +kernel
theorem dX4_digest_16 : decode cX4_digest 16 = .ok (.iload_n 3, 1) := by decide +kernel
theorem dX4_digest_17 : decode cX4_digest 17 = .ok (.iconst 4, 1) := by decide +kernel
theorem dX4_digest_18 : decode cX4_digest 18 = .ok (.if_icmp .ge 16, 3) := by decide +kernel
theorem dX4_digest_21 : decode cX4_digest 21 = .ok (.aload_n 0, 1) := by decide +kernel
theorem dX4_digest_22 : decode cX4_digest 22 = .ok (.lload_n 1, 1) := by decide +kernel
theorem dX4_digest_23 : decode cX4_digest 23 = .ok (.iload_n 3, 1) := by decide +kernel
theorem dX4_digest_24 : decode cX4_digest 24 = .ok (.invokevirtual 257, 3) := by decide +kernel
theorem dX4_digest_27 : decode cX4_digest 27 = .ok (.lstore_n 1, 1) := by decide +kernel
theorem dX4_digest_28 : decode cX4_digest 28 = .ok (.iinc 3 1, 3) := by decide +kernel
theorem dX4_digest_31 : decode cX4_digest 31 = .ok (.goto (-15), 3) := by decide +kernel
theorem dX4_digest_34 : decode cX4_digest 34 = .ok (.aload_n 0, 1) := by decide +kernel
theorem dX4_digest_35 : decode cX4_digest 35 = .ok (.lload_n 1, 1) := by decide +kernel
theorem dX4_digest_36 : decode cX4_digest 36 = .ok (.invokevirtual 261, 3) := by decide +kernel
theorem dX4_digest_39 : decode cX4_digest 39 = .ok (.lstore_n 1, 1) := by decide +kernel
theorem dX4_digest_40 : decode cX4_digest 40 = .ok (.lload_n 1, 1) := by decide +kernel
theorem dX4_digest_41 : decode cX4_digest 41 = .ok (.aload_n 0, 1) := by decide +kernel
theorem dX4_digest_42 : decode cX4_digest 42 = .ok (.invokevirtual 264, 3) := by decide +kernel
theorem dX4_digest_45 : decode cX4_digest 45 = .ok (.i2l, 1) := by decide +kernel
theorem dX4_digest_46 : decode cX4_digest 46 = .ok (.invokestatic 267, 3) := by decide +kernel
theorem dX4_digest_49 : decode cX4_digest 49 = .ok (.lstore_n 1, 1) := by decide +kernel
theorem dX4_digest_50 : decode cX4_digest 50 = .ok (.lload_n 1, 1) := by decide +kernel
theorem dX4_digest_51 : decode cX4_digest 51 = .ok (.aload_n 0, 1) := by decide +kernel
theorem dX4_digest_52 : decode cX4_digest 52 = .ok (.invokevirtual 271, 3) := by decide +kernel
theorem dX4_digest_55 : decode cX4_digest 55 = .ok (.invokestatic 275, 3) := by decide +kernel
theorem dX4_digest_58 : decode cX4_digest 58 = .ok (.invokestatic 267, 3) := by decide +kernel
theorem dX4_digest_61 : decode cX4_digest 61 = .ok (.lstore_n 1, 1) := by decide +kernel
theorem dX4_digest_62 : decode cX4_digest 62 = .ok (.aload_n 0, 1) := by decide +kernel
theorem dX4_digest_63 : decode cX4_digest 63 = .ok (.lload_n 1, 1) := by decide +kernel
theorem dX4_digest_64 : decode cX4_digest 64 = .ok (.invokevirtual 279, 3) := by decide +kernel
theorem dX4_digest_67 : decode cX4_digest 67 = .ok (.lreturn, 1) := by decide +kernel
theorem dX4_isBelow_0 : decode cX4_isBelow 0 = .ok (.iload_n 0, 1) := by decide +kernel
theorem dX4_isBelow_1 : decode cX4_isBelow 1 = .ok (.ifCond .lt 12, 3) := by decide +kernel
theorem dX4_isBelow_4 : decode cX4_isBelow 4 = .ok (.iload_n 0, 1) := by decide +kernel
theorem dX4_isBelow_5 : decode cX4_isBelow 5 = .ok (.iload_n 1, 1) := by decide +kernel
theorem dX4_isBelow_6 : decode cX4_isBelow 6 = .ok (.if_icmp .ge 7, 3) := by decide +kernel
theorem dX4_isBelow_9 : decode cX4_isBelow 9 = .ok (.iconst 1, 1) := by decide +kernel
theorem dX4_isBelow_10 : decode cX4_isBelow 10 = .ok (.goto 4, 3) := by decide +kernel
theorem dX4_isBelow_13 : decode cX4_isBelow 13 = .ok (.iconst 0, 1) := by decide +kernel
theorem dX4_isBelow_14 : decode cX4_isBelow 14 = .ok (.ireturn, 1) := by decide +kernel
theorem dX4_savedPlace_0 : decode cX4_savedPlace 0 = .ok (.aload_n 0, 1) := by decide +kernel
theorem dX4_savedPlace_1 : decode cX4_savedPlace 1 = .ok (.getfield 282, 3) := by decide +kernel
theorem dX4_savedPlace_4 : decode cX4_savedPlace 4 = .ok (.iload_n 1, 1) := by decide +kernel
theorem dX4_savedPlace_5 : decode cX4_savedPlace 5 = .ok (.iadd, 1) := by decide +kernel
theorem dX4_savedPlace_6 : decode cX4_savedPlace 6 = .ok (.bipush 6, 2) := by decide +kernel
theorem dX4_savedPlace_8 : decode cX4_savedPlace 8 = .ok (.irem, 1) := by decide +kernel
theorem dX4_savedPlace_9 : decode cX4_savedPlace 9 = .ok (.ireturn, 1) := by decide +kernel
set_option maxRecDepth 20000 in
theorem ggX4_saveState_X4_savedPlace : GoodIn wsX4_saveState wsX4_savedPlace := goodIn_r _ [9, 4, 49, 50, 51, 52, 53, 54] (by decide +kernel) (by decide +kernel)
set_option maxRecDepth 20000 in
theorem gX4_saveState_X4_savedPlace : GoodIn wsX4_saveState (wsV RX4 157 RX4 yX4_savedPlace wsX4_savedPlace) := goodIn_app (goodIn_of _ (by decide +kernel)) ggX4_saveState_X4_savedPlace
set_option maxRecDepth 20000 in
theorem ggX4_saveState_X2_copyFrom : GoodIn wsX4_saveState wsX2_copyFrom := goodIn_r _ [14, 15, 16, 17, 18, 19, 20, 21, 22, 23, 24, 25, 26, 27, 28, 29, 30, 31, 32, 33, 34, 35, 36, 37, 38, 39, 40, 41, 42, 43, 44, 45, 46, 47, 48, 55, 56, 57, 58, 59, 60, 61, 62, 63, 64, 65, 66, 67, 68, 69, 70, 71, 72, 73] (by decide +kernel) (by decide +kernel)
set_option maxRecDepth 20000 in
theorem gX4_saveState_X2_copyFrom : GoodIn wsX4_saveState (wsV RX4 160 RX2 yX2_copyFrom wsX2_copyFrom) := goodIn_app (goodIn_of _ (by decide +kernel)) ggX4_saveState_X2_copyFrom
theorem dX4_saveState_0 : decode cX4_saveState 0 = .ok (.aload_n 0, 1) := by decide +kernel
theorem dX4_saveState_1 : decode cX4_saveState 1 = .ok (.getfield 16, 3) := by decide +kernel
theorem dX4_saveState_4 : decode cX4_saveState 4 = .ok (.aload_n 0, 1) := by decide +kernel
theorem dX4_saveState_5 : decode cX4_saveState 5 = .ok (.aload_n 0, 1) := by decide +kernel
theorem dX4_saveState_6 : decode cX4_saveState 6 = .ok (.getfield 152, 3) := by decide +kernel
theorem dX4_saveState_9 : decode cX4_saveState 9 = .ok (.invokevirtual 157, 3) := by decide +kernel
theorem dX4_saveState_12 : decode cX4_saveState 12 = .ok (.aaload, 1) := by decide +kernel
theorem dX4_saveState_13 : decode cX4_saveState 13 = .ok (.aload_n 0, 1) := by decide +kernel
theorem dX4_saveState_14 : decode cX4_saveState 14 = .ok (.getfield 10, 3) := by decide +kernel
theorem dX4_saveState_17 : decode cX4_saveState 17 = .ok (.invokevirtual 160, 3) := by decide +kernel
theorem dX4_saveState_20 : decode cX4_saveState 20 = .ok (.aload_n 0, 1) := by decide +kernel
theorem dX4_saveState_21 : decode cX4_saveState 21 = .ok (.getfield 152, 3) := by decide +kernel
theorem dX4_saveState_24 : decode cX4_saveState 24 = .ok (.bipush 6, 2) := by decide +kernel
theorem dX4_saveState_26 : decode cX4_saveState 26 = .ok (.if_icmp .ge 16, 3) := by decide +kernel
theorem dX4_saveState_29 : decode cX4_saveState 29 = .ok (.aload_n 0, 1) := by decide +kernel
theorem dX4_saveState_30 : decode cX4_saveState 30 = .ok (.dup, 1) := by decide +kernel
theorem dX4_saveState_31 : decode cX4_saveState 31 = .ok (.getfield 152, 3) := by decide +kernel
theorem dX4_saveState_34 : decode cX4_saveState 34 = .ok (.iconst 1, 1) := by decide +kernel
theorem dX4_saveState_35 : decode cX4_saveState 35 = .ok (.iadd, 1) := by decide +kernel
theorem dX4_saveState_36 : decode cX4_saveState 36 = .ok (.putfield 152, 3) := by decide +kernel
theorem dX4_saveState_39 : decode cX4_saveState 39 = .ok (.goto 12, 3) := by decide +kernel
theorem dX4_saveState_42 : decode cX4_saveState 42 = .ok (.aload_n 0, 1) := by decide +kernel
theorem dX4_saveState_43 : decode cX4_saveState 43 = .ok (.aload_n 0, 1) := by decide +kernel
theorem dX4_saveState_44 : decode cX4_saveState 44 = .ok (.iconst 1, 1) := by decide +kernel
theorem dX4_saveState_45 : decode cX4_saveState 45 = .ok (.invokevirtual 157, 3) := by decide +kernel
theorem dX4_saveState_48 : decode cX4_saveState 48 = .ok (.putfield 282, 3) := by decide +kernel
theorem dX4_saveState_51 : decode cX4_saveState 51 = .ok (.return_, 1) := by decide +kernel
set_option maxRecDepth 20000 in
theorem ggX4_doDeeds_X3_isLetter : GoodIn wsX4_doDeeds wsX3_isLetter := goodIn_r _ [8, 9, 10, 11, 7, 12, 13, 14, 15, 16, 17, 167, 168, 169, 170] (by decide +kernel) (by decide +kernel)
set_option maxRecDepth 20000 in
theorem gX4_doDeeds_X3_isLetter : GoodIn wsX4_doDeeds (wsV RX4 285 RX3 yX3_isLetter wsX3_isLetter) := goodIn_app (goodIn_of _ (by decide +kernel)) ggX4_doDeeds_X3_isLetter
set_option maxRecDepth 20000 in
theorem ggX4_doDeeds_X3_codeAt : GoodIn wsX4_doDeeds wsX3_codeAt := goodIn_r _ [12, 13, 14, 15, 16, 17, 167, 168, 169, 170] (by decide +kernel) (by decide +kernel)
set_option maxRecDepth 20000 in
theorem gX4_doDeeds_X3_codeAt : GoodIn wsX4_doDeeds (wsV RX4 288 RX3 yX3_codeAt wsX3_codeAt) := goodIn_app (goodIn_of _ (by decide +kernel)) ggX4_doDeeds_X3_codeAt
set_option maxRecDepth 20000 in
theorem ggX4_doDeeds_X3_digitAt : GoodIn wsX4_doDeeds wsX3_digitAt := goodIn_r _ [22, 9, 10, 11, 7, 12, 13, 14, 15, 16, 17, 167, 168, 169, 170] (by decide +kernel) (by decide +kernel)
set_option maxRecDepth 20000 in
theorem gX4_doDeeds_X3_digitAt : GoodIn wsX4_doDeeds (wsV RX4 291 RX3 yX3_digitAt wsX3_digitAt) := goodIn_app (goodIn_of _ (by decide +kernel)) ggX4_doDeeds_X3_digitAt
set_option maxRecDepth 20000 in
theorem ggX4_doDeeds_X2_isPossible : GoodIn wsX4_doDeeds wsX2_isPossible := goodIn_r _ [27, 28, 29, 30, 31, 32, 33, 34, 35, 36, 37, 38, 39, 40, 41, 42, 43, 44, 45, 46, 47, 48, 26, 49, 50, 51, 52, 53, 54, 55, 56, 57, 58, 171, 172, 173, 174, 175, 176, 177, 178, 179, 180, 181, 182, 183, 184, 185, 186, 187, 188, 189] (by decide +kernel) (by decide +kernel)
set_option maxRecDepth 20000 in
theorem gX4_doDeeds_X2_isPossible : GoodIn wsX4_doDeeds (wsV RX4 294 RX2 yX2_isPossible wsX2_isPossible) := goodIn_app (goodIn_of _ (by decide +kernel)) ggX4_doDeeds_X2_isPossible
set_option maxRecDepth 20000 in
theorem ggX4_doDeeds_X4_doDeed : GoodIn wsX4_doDeeds wsX4_doDeed := goodIn_r _ [62, 1, 3, 63, 64, 19, 20, 21, 7, 22, 9, 10, 11, 12, 13, 14, 15, 16, 17, 65, 66, 67, 34, 68, 36, 45, 69, 70, 71, 72, 73, 32, 33, 35, 74, 75, 76, 77, 78, 79, 80, 81, 82, 83, 84, 85, 86, 87, 88, 89, 90, 91, 92, 93, 94, 95, 96, 97, 98, 99, 100, 101, 102, 103, 104, 105, 106, 107, 108, 109, 110, 111, 112, 113, 114, 115, 54, 116, 57, 117, 118, 119, 120, 121, 122, 123, 56, 124, 42, 43, 44, 125, 126, 127, 128, 58, 129, 130, 131, 132, 26, 133, 29, 134, 28, 135, 136, 137, 138, 139, 140, 141, 142, 143, 144, 145, 146, 147, 148, 149, 150, 151, 152, 153, 154, 155, 156, 157, 158, 159, 160, 161, 162, 163, 164, 165, 166, 171, 172, 173, 174, 167, 168, 169, 170, 185, 186, 187, 188, 189, 175, 176, 177, 178, 179, 180, 181, 182, 183, 184] (by decide +kernel) (by decide +kernel)
set_option maxRecDepth 20000 in
theorem gX4_doDeeds_X4_doDeed : GoodIn wsX4_doDeeds (wsV RX4 297 RX4 yX4_doDeed wsX4_doDeed) := goodIn_app (goodIn_of _ (by decide +kernel)) ggX4_doDeeds_X4_doDeed
theorem dX4_doDeeds_0 : decode cX4_doDeeds 0 = .ok (.iconst 0, 1) := by decide +kernel
theorem dX4_doDeeds_1 : decode cX4_doDeeds 1 = .ok (.istore_n 1, 1) := by decide +kernel
theorem dX4_doDeeds_2 : decode cX4_doDeeds 2 = .ok (.iconst 0, 1) := by decide +kernel
theorem dX4_doDeeds_3 : decode cX4_doDeeds 3 = .ok (.istore_n 2, 1) := by decide +kernel
theorem dX4_doDeeds_4 : decode cX4_doDeeds 4 = .ok (.iload_n 2, 1) := by decide +kernel
theorem dX4_doDeeds_5 : decode cX4_doDeeds 5 = .ok (.aload_n 0, 1) := by decide +kernel
theorem dX4_doDeeds_6 : decode cX4_doDeeds 6 = .ok (.getfield 23, 3) := by decide +kernel
theorem dX4_doDeeds_9 : decode cX4_doDeeds 9 = .ok (.getfield 128, 3) := by decide +kernel
theorem dX4_doDeeds_12 : decode cX4_doDeeds 12 = .ok (.if_icmp .ge 68, 3) := by decide +kernel
theorem dX4_doDeeds_15 : decode cX4_doDeeds 15 = .ok (.aload_n 0, 1) := by decide +kernel
theorem dX4_doDeeds_16 : decode cX4_doDeeds 16 = .ok (.getfield 23, 3) := by decide +kernel
theorem dX4_doDeeds_19 : decode cX4_doDeeds 19 = .ok (.iload_n 2, 1) := by decide +kernel
theorem dX4_doDeeds_20 : decode cX4_doDeeds 20 = .ok (.invokevirtual 285, 3) := by decide +kernel
theorem dX4_doDeeds_23 : decode cX4_doDeeds 23 = .ok (.ifCond .eq 51, 3) := by decide +kernel
theorem dX4_doDeeds_26 : decode cX4_doDeeds 26 = .ok (.aload_n 0, 1) := by decide +kernel
theorem dX4_doDeeds_27 : decode cX4_doDeeds 27 = .ok (.getfield 10, 3) := by decide +kernel
theorem dX4_doDeeds_30 : decode cX4_doDeeds 30 = .ok (.aload_n 0, 1) := by decide +kernel
theorem dX4_doDeeds_31 : decode cX4_doDeeds 31 = .ok (.getfield 23, 3) := by decide +kernel
theorem dX4_doDeeds_34 : decode cX4_doDeeds 34 = .ok (.iload_n 2, 1) := by decide +kernel
theorem dX4_doDeeds_35 : decode cX4_doDeeds 35 = .ok (.invokevirtual 288, 3) := by decide +kernel
theorem dX4_doDeeds_38 : decode cX4_doDeeds 38 = .ok (.aload_n 0, 1) := by decide +kernel
theorem dX4_doDeeds_39 : decode cX4_doDeeds 39 = .ok (.getfield 23, 3) := by decide +kernel
theorem dX4_doDeeds_42 : decode cX4_doDeeds 42 = .ok (.iload_n 2, 1) := by decide +kernel
theorem dX4_doDeeds_43 : decode cX4_doDeeds 43 = .ok (.iconst 1, 1) := by decide +kernel
theorem dX4_doDeeds_44 : decode cX4_doDeeds 44 = .ok (.iadd, 1) := by decide +kernel
theorem dX4_doDeeds_45 : decode cX4_doDeeds 45 = .ok (.invokevirtual 291, 3) := by decide +kernel
theorem dX4_doDeeds_48 : decode cX4_doDeeds 48 = .ok (.invokevirtual 294, 3) := by decide +kernel
theorem dX4_doDeeds_51 : decode cX4_doDeeds 51 = .ok (.ifCond .ne 5, 3) := by decide +kernel
theorem dX4_doDeeds_54 : decode cX4_doDeeds 54 = .ok (.iload_n 1, 1) := by decide +kernel
theorem dX4_doDeeds_55 : decode cX4_doDeeds 55 = .ok (.ireturn, 1) := by decide +kernel
theorem dX4_doDeeds_56 : decode cX4_doDeeds 56 = .ok (.aload_n 0, 1) := by decide +kernel
theorem dX4_doDeeds_57 : decode cX4_doDeeds 57 = .ok (.aload_n 0, 1) := by decide +kernel
theorem dX4_doDeeds_58 : decode cX4_doDeeds 58 = .ok (.getfield 23, 3) := by decide +kernel
theorem dX4_doDeeds_61 : decode cX4_doDeeds 61 = .ok (.iload_n 2, 1) := by decide +kernel
theorem dX4_doDeeds_62 : decode cX4_doDeeds 62 = .ok (.invokevirtual 288, 3) := by decide +kernel
theorem dX4_doDeeds_65 : decode cX4_doDeeds 65 = .ok (.iload_n 2, 1) := by decide +kernel
theorem dX4_doDeeds_66 : decode cX4_doDeeds 66 = .ok (.iconst 1, 1) := by decide +kernel
theorem dX4_doDeeds_67 : decode cX4_doDeeds 67 = .ok (.iadd, 1) := by decide +kernel
theorem dX4_doDeeds_68 : decode cX4_doDeeds 68 = .ok (.invokevirtual 297, 3) := by decide +kernel
theorem dX4_doDeeds_71 : decode cX4_doDeeds 71 = .ok (.iinc 1 1, 3) := by decide +kernel
theorem dX4_doDeeds_74 : decode cX4_doDeeds 74 = .ok (.iinc 2 1, 3) := by decide +kernel
theorem dX4_doDeeds_77 : decode cX4_doDeeds 77 = .ok (.goto (-73), 3) := by decide +kernel
theorem dX4_doDeeds_80 : decode cX4_doDeeds 80 = .ok (.iload_n 1, 1) := by decide +kernel
theorem dX4_doDeeds_81 : decode cX4_doDeeds 81 = .ok (.ireturn, 1) := by decide +kernel
set_option maxRecDepth 20000 in
theorem ggX4_doDeed_X3_digitAt : GoodIn wsX4_doDeed wsX3_digitAt := goodIn_r _ [9, 10, 11, 12, 8, 13, 14, 15, 16, 17, 18, 141, 142, 143, 144] (by decide +kernel) (by decide +kernel)
set_option maxRecDepth 20000 in
theorem gX4_doDeed_X3_digitAt : GoodIn wsX4_doDeed (wsV RX4 291 RX3 yX3_digitAt wsX3_digitAt) := goodIn_app (goodIn_of _ (by decide +kernel)) ggX4_doDeed_X3_digitAt
set_option maxRecDepth 20000 in
theorem ggX4_doDeed_X0_enter : GoodIn wsX4_doDeed wsX0_enter := goodIn_r _ [23, 24, 25, 26, 27, 28, 22, 29, 30, 31, 32, 33, 145, 146, 147, 148, 149] (by decide +kernel) (by decide +kernel)
set_option maxRecDepth 20000 in
theorem gX4_doDeed_X0_enter : GoodIn wsX4_doDeed (wsV RX4 60 RX0 yX0_enter wsX0_enter) := goodIn_app (goodIn_of _ (by decide +kernel)) ggX4_doDeed_X0_enter
set_option maxRecDepth 20000 in
theorem ggX4_doDeed_X0_leave : GoodIn wsX4_doDeed wsX0_leave := goodIn_r _ [37, 38, 25, 39, 40, 41, 22, 42, 24, 43, 44, 45, 46, 47, 48, 49, 50, 51, 52, 53, 54, 55, 56, 57, 58, 59, 60, 61, 62, 63, 26, 27, 28, 29, 30, 31, 32, 33, 145, 146, 147, 148, 149] (by decide +kernel) (by decide +kernel)
set_option maxRecDepth 20000 in
theorem gX4_doDeed_X0_leave : GoodIn wsX4_doDeed (wsV RX4 86 RX0 yX0_leave wsX0_leave) := goodIn_app (goodIn_of _ (by decide +kernel)) ggX4_doDeed_X0_leave
set_option maxRecDepth 20000 in
theorem ggX4_doDeed_X3_valueAt : GoodIn wsX4_doDeed wsX3_valueAt := goodIn_r _ [67, 68, 6, 7, 8, 9, 10, 11, 12, 13, 14, 15, 16, 17, 18, 141, 142, 143, 144] (by decide +kernel) (by decide +kernel)
set_option maxRecDepth 20000 in
theorem gX4_doDeed_X3_valueAt : GoodIn wsX4_doDeed (wsV RX4 301 RX3 yX3_valueAt wsX3_valueAt) := goodIn_app (goodIn_of _ (by decide +kernel)) ggX4_doDeed_X3_valueAt
set_option maxRecDepth 20000 in
theorem ggX4_doDeed_X0_write : GoodIn wsX4_doDeed wsX0_write := goodIn_r _ [72, 47, 145, 146, 147, 148, 149] (by decide +kernel) (by decide +kernel)
set_option maxRecDepth 20000 in
theorem gX4_doDeed_X0_write : GoodIn wsX4_doDeed (wsV RX4 77 RX0 yX0_write wsX0_write) := goodIn_app (goodIn_of _ (by decide +kernel)) ggX4_doDeed_X0_write
set_option maxRecDepth 20000 in
theorem ggX4_doDeed_X1_open : GoodIn wsX4_doDeed wsX1_open := goodIn_r _ [77, 78, 79, 80, 81, 82, 83, 84, 76, 85, 86, 87, 88, 89, 22, 90, 25, 91, 92, 93, 94, 95, 96, 150, 151, 152, 153, 154, 155, 156, 157, 158, 159, 145, 146, 147, 148, 149] (by decide +kernel) (by decide +kernel)
set_option maxRecDepth 20000 in
theorem gX4_doDeed_X1_open : GoodIn wsX4_doDeed (wsV RX4 110 RX1 yX1_open wsX1_open) := goodIn_app (goodIn_of _ (by decide +kernel)) ggX4_doDeed_X1_open
set_option maxRecDepth 20000 in
theorem ggX4_doDeed_X2_glance : GoodIn wsX4_doDeed wsX2_glance := goodIn_r _ [101, 102, 103, 104, 105, 106, 107, 108, 109, 76, 110, 111, 81, 112, 113, 83, 84, 85, 86, 78, 80, 79, 87, 88, 89, 22, 90, 25, 114, 92, 93, 94, 95, 96, 115, 116, 117, 118, 119, 120, 121, 50, 51, 52, 122, 123, 124, 125, 126, 53, 54, 55, 56, 57, 58, 59, 60, 61, 62, 63, 127, 128, 129, 130, 48, 137, 138, 139, 140, 150, 151, 152, 153, 154, 155, 156, 157, 158, 159, 145, 146, 147, 148, 149] (by decide +kernel) (by decide +kernel)
set_option maxRecDepth 20000 in
theorem gX4_doDeed_X2_glance : GoodIn wsX4_doDeed (wsV RX4 119 RX2 yX2_glance wsX2_glance) := goodIn_app (goodIn_of _ (by decide +kernel)) ggX4_doDeed_X2_glance
theorem dX4_doDeed_0 : decode cX4_doDeed 0 = .ok (.aload_n 0, 1) := by decide +kernel
theorem dX4_doDeed_1 : decode cX4_doDeed 1 = .ok (.getfield 23, 3) := by decide +kernel
theorem dX4_doDeed_4 : decode cX4_doDeed 4 = .ok (.iload_n 2, 1) := by decide +kernel
theorem dX4_doDeed_5 : decode cX4_doDeed 5 = .ok (.invokevirtual 291, 3) := by decide +kernel
theorem dX4_doDeed_8 : decode cX4_doDeed 8 = .ok (.istore_n 3, 1) := by decide +kernel
theorem dX4_doDeed_9 : decode cX4_doDeed 9 = .ok (.iload_n 1, 1) := by decide +kernel
theorem dX4_doDeed_10 : decode cX4_doDeed 10 = .ok (.lookupswitch 140 #[(98, 105), (99, 50), (100, 65), (108, 128), (119, 80)], 50) := by decide +kernel
theorem dX4_doDeed_60 : decode cX4_doDeed 60 = .ok (.aload_n 0, 1) := by decide +kernel
theorem dX4_doDeed_61 : decode cX4_doDeed 61 = .ok (.getfield 10, 3) := by decide +kernel
theorem dX4_doDeed_64 : decode cX4_doDeed 64 = .ok (.getfield 42, 3) := by decide +kernel
theorem dX4_doDeed_67 : decode cX4_doDeed 67 = .ok (.iload_n 3, 1) := by decide +kernel
theorem dX4_doDeed_68 : decode cX4_doDeed 68 = .ok (.invokevirtual 60, 3) := by decide +kernel
theorem dX4_doDeed_71 : decode cX4_doDeed 71 = .ok (.pop, 1) := by decide +kernel
theorem dX4_doDeed_72 : decode cX4_doDeed 72 = .ok (.goto 78, 3) := by decide +kernel
theorem dX4_doDeed_75 : decode cX4_doDeed 75 = .ok (.aload_n 0, 1) := by decide +kernel
theorem dX4_doDeed_76 : decode cX4_doDeed 76 = .ok (.getfield 10, 3) := by decide +kernel
theorem dX4_doDeed_79 : decode cX4_doDeed 79 = .ok (.getfield 42, 3) := by decide +kernel
theorem dX4_doDeed_82 : decode cX4_doDeed 82 = .ok (.iload_n 3, 1) := by decide +kernel
theorem dX4_doDeed_83 : decode cX4_doDeed 83 = .ok (.invokevirtual 86, 3) := by decide +kernel
theorem dX4_doDeed_86 : decode cX4_doDeed 86 = .ok (.pop, 1) := by decide +kernel
theorem dX4_doDeed_87 : decode cX4_doDeed 87 = .ok (.goto 63, 3) := by decide +kernel
theorem dX4_doDeed_90 : decode cX4_doDeed 90 = .ok (.aload_n 0, 1) := by decide +kernel
theorem dX4_doDeed_91 : decode cX4_doDeed 91 = .ok (.getfield 10, 3) := by decide +kernel
theorem dX4_doDeed_94 : decode cX4_doDeed 94 = .ok (.getfield 42, 3) := by decide +kernel
theorem dX4_doDeed_97 : decode cX4_doDeed 97 = .ok (.iload_n 3, 1) := by decide +kernel
theorem dX4_doDeed_98 : decode cX4_doDeed 98 = .ok (.aload_n 0, 1) := by decide +kernel
theorem dX4_doDeed_99 : decode cX4_doDeed 99 = .ok (.getfield 23, 3) := by decide +kernel
theorem dX4_doDeed_102 : decode cX4_doDeed 102 = .ok (.iload_n 2, 1) := by decide +kernel
theorem dX4_doDeed_103 : decode cX4_doDeed 103 = .ok (.iconst 1, 1) := by decide +kernel
theorem dX4_doDeed_104 : decode cX4_doDeed 104 = .ok (.iadd, 1) := by decide +kernel
theorem dX4_doDeed_105 : decode cX4_doDeed 105 = .ok (.invokevirtual 301, 3) := by decide +kernel
theorem dX4_doDeed_108 : decode cX4_doDeed 108 = .ok (.invokevirtual 77, 3) := by decide +kernel
theorem dX4_doDeed_111 : decode cX4_doDeed 111 = .ok (.pop, 1) := by decide +kernel
theorem dX4_doDeed_112 : decode cX4_doDeed 112 = .ok (.goto 38, 3) := by decide +kernel
theorem dX4_doDeed_115 : decode cX4_doDeed 115 = .ok (.aload_n 0, 1) := by decide +kernel
theorem dX4_doDeed_116 : decode cX4_doDeed 116 = .ok (.getfield 10, 3) := by decide +kernel
theorem dX4_doDeed_119 : decode cX4_doDeed 119 = .ok (.getfield 91, 3) := by decide +kernel
theorem dX4_doDeed_122 : decode cX4_doDeed 122 = .ok (.iload_n 3, 1) := by decide +kernel
theorem dX4_doDeed_123 : decode cX4_doDeed 123 = .ok (.aaload, 1) := by decide +kernel
theorem dX4_doDeed_124 : decode cX4_doDeed 124 = .ok (.aload_n 0, 1) := by decide +kernel
theorem dX4_doDeed_125 : decode cX4_doDeed 125 = .ok (.getfield 10, 3) := by decide +kernel
theorem dX4_doDeed_128 : decode cX4_doDeed 128 = .ok (.getfield 42, 3) := by decide +kernel
theorem dX4_doDeed_131 : decode cX4_doDeed 131 = .ok (.invokevirtual 110, 3) := by decide +kernel
theorem dX4_doDeed_134 : decode cX4_doDeed 134 = .ok (.pop, 1) := by decide +kernel
theorem dX4_doDeed_135 : decode cX4_doDeed 135 = .ok (.goto 15, 3) := by decide +kernel
theorem dX4_doDeed_138 : decode cX4_doDeed 138 = .ok (.aload_n 0, 1) := by decide +kernel
theorem dX4_doDeed_139 : decode cX4_doDeed 139 = .ok (.getfield 10, 3) := by decide +kernel
theorem dX4_doDeed_142 : decode cX4_doDeed 142 = .ok (.iload_n 3, 1) := by decide +kernel
theorem dX4_doDeed_143 : decode cX4_doDeed 143 = .ok (.invokevirtual 119, 3) := by decide +kernel
theorem dX4_doDeed_146 : decode cX4_doDeed 146 = .ok (.pop, 1) := by decide +kernel
theorem dX4_doDeed_147 : decode cX4_doDeed 147 = .ok (.goto 3, 3) := by decide +kernel
theorem dX4_doDeed_150 : decode cX4_doDeed 150 = .ok (.return_, 1) := by decide +kernel
theorem dX4_mix_0 : decode cX4_mix 0 = .ok (.ldc2_w 304, 3) := by decide +kernel
theorem dX4_mix_3 : decode cX4_mix 3 = .ok (.lload_n 0, 1) := by decide +kernel
theorem dX4_mix_4 : decode cX4_mix 4 = .ok (.lmul, 1) := by decide +kernel
theorem dX4_mix_5 : decode cX4_mix 5 = .ok (.lload_n 2, 1) := by decide +kernel
theorem dX4_mix_6 : decode cX4_mix 6 = .ok (.ladd, 1) := by decide +kernel
theorem dX4_mix_7 : decode cX4_mix 7 = .ok (.lreturn, 1) := by decide +kernel
set_option maxRecDepth 20000 in
theorem ggX4_hashCountsAndFields_X4_count : GoodIn wsX4_hashCountsAndFields wsX4_count := goodIn_ca (goodIn_r _ [8, 9, 10, 1, 2, 11, 12, 13, 14, 15, 16, 17, 18, 19, 20, 21, 22, 23, 24, 25, 26, 27, 28, 29, 30, 31, 32, 33, 34, 35, 36, 37, 38, 39, 40, 41, 42, 43, 44, 45, 46, 47, 48, 49, 50, 51, 52, 53, 58, 59, 60, 61, 62, 63, 64, 65, 66, 67, 68, 69, 70, 71, 72, 73, 74, 75, 76, 77, 78, 79, 80, 81, 82] (by decide +kernel) (by decide +kernel)) (goodIn_sub (fun _ h => List.mem_cons_of_mem _ (List.mem_append_right _ h)) (by decide +kernel))
set_option maxRecDepth 20000 in
theorem gX4_hashCountsAndFields_X4_count : GoodIn wsX4_hashCountsAndFields (wsV RX4 306 RX4 yX4_count wsX4_count) := goodIn_app (goodIn_of _ (by decide +kernel)) ggX4_hashCountsAndFields_X4_count
set_option maxRecDepth 20000 in
theorem ggX4_hashCountsAndFields_X4_mix : GoodIn wsX4_hashCountsAndFields wsX4_mix := goodIn_r _ [56, 57] (by decide +kernel) (by decide +kernel)
set_option maxRecDepth 20000 in
theorem gX4_hashCountsAndFields_X4_mix : GoodIn wsX4_hashCountsAndFields (va_wsS RX4 267 yX4_mix wsX4_mix) := goodIn_app (goodIn_of _ (by decide +kernel)) ggX4_hashCountsAndFields_X4_mix
theorem dX4_hashCountsAndFields_0 : decode cX4_hashCountsAndFields 0 = .ok (.lload_n 1, 1) := by decide +kernel
theorem dX4_hashCountsAndFields_1 : decode cX4_hashCountsAndFields 1 = .ok (.lstore_n 3, 1) := by decide +kernel
theorem dX4_hashCountsAndFields_2 : decode cX4_hashCountsAndFields 2 = .ok (.iconst 0, 1) := by decide +kernel
theorem dX4_hashCountsAndFields_3 : decode cX4_hashCountsAndFields 3 = .ok (.istore 5, 2) := by decide +kernel
theorem dX4_hashCountsAndFields_5 : decode cX4_hashCountsAndFields 5 = .ok (.iload 5, 2) := by decide +kernel
theorem dX4_hashCountsAndFields_7 : decode cX4_hashCountsAndFields 7 = .ok (.bipush 9, 2) := by decide +kernel
theorem dX4_hashCountsAndFields_9 : decode cX4_hashCountsAndFields 9 = .ok (.if_icmp .ge 21, 3) := by decide +kernel
theorem dX4_hashCountsAndFields_12 : decode cX4_hashCountsAndFields 12 = .ok (.lload_n 3, 1) := by decide +kernel
theorem dX4_hashCountsAndFields_13 : decode cX4_hashCountsAndFields 13 = .ok (.aload_n 0, 1) := by decide +kernel
theorem dX4_hashCountsAndFields_14 : decode cX4_hashCountsAndFields 14 = .ok (.iload 5, 2) := by decide +kernel
theorem dX4_hashCountsAndFields_16 : decode cX4_hashCountsAndFields 16 = .ok (.invokevirtual 306, 3) := by decide +kernel
theorem dX4_hashCountsAndFields_19 : decode cX4_hashCountsAndFields 19 = .ok (.i2l, 1) := by decide +kernel
theorem dX4_hashCountsAndFields_20 : decode cX4_hashCountsAndFields 20 = .ok (.invokestatic 267, 3) := by decide +kernel
theorem dX4_hashCountsAndFields_23 : decode cX4_hashCountsAndFields 23 = .ok (.lstore_n 3, 1) := by decide +kernel
theorem dX4_hashCountsAndFields_24 : decode cX4_hashCountsAndFields 24 = .ok (.iinc 5 1, 3) := by decide +kernel
theorem dX4_hashCountsAndFields_27 : decode cX4_hashCountsAndFields 27 = .ok (.goto (-22), 3) := by decide +kernel
theorem dX4_hashCountsAndFields_30 : decode cX4_hashCountsAndFields 30 = .ok (.iconst 0, 1) := by decide +kernel
theorem dX4_hashCountsAndFields_31 : decode cX4_hashCountsAndFields 31 = .ok (.istore 5, 2) := by decide +kernel
theorem dX4_hashCountsAndFields_33 : decode cX4_hashCountsAndFields 33 = .ok (.iload 5, 2) := by decide +kernel
theorem dX4_hashCountsAndFields_35 : decode cX4_hashCountsAndFields 35 = .ok (.iconst 5, 1) := by decide +kernel
theorem dX4_hashCountsAndFields_36 : decode cX4_hashCountsAndFields 36 = .ok (.if_icmp .ge 28, 3) := by decide +kernel
theorem dX4_hashCountsAndFields_39 : decode cX4_hashCountsAndFields 39 = .ok (.lload_n 3, 1) := by decide +kernel
theorem dX4_hashCountsAndFields_40 : decode cX4_hashCountsAndFields 40 = .ok (.aload_n 0, 1) := by decide +kernel
theorem dX4_hashCountsAndFields_41 : decode cX4_hashCountsAndFields 41 = .ok (.getfield 10, 3) := by decide +kernel
theorem dX4_hashCountsAndFields_44 : decode cX4_hashCountsAndFields 44 = .ok (.getfield 42, 3) := by decide +kernel
theorem dX4_hashCountsAndFields_47 : decode cX4_hashCountsAndFields 47 = .ok (.getfield 164, 3) := by decide +kernel
theorem dX4_hashCountsAndFields_50 : decode cX4_hashCountsAndFields 50 = .ok (.iload 5, 2) := by decide +kernel
theorem dX4_hashCountsAndFields_52 : decode cX4_hashCountsAndFields 52 = .ok (.iaload, 1) := by decide +kernel
theorem dX4_hashCountsAndFields_53 : decode cX4_hashCountsAndFields 53 = .ok (.i2l, 1) := by decide +kernel
theorem dX4_hashCountsAndFields_54 : decode cX4_hashCountsAndFields 54 = .ok (.invokestatic 267, 3) := by decide +kernel
theorem dX4_hashCountsAndFields_57 : decode cX4_hashCountsAndFields 57 = .ok (.lstore_n 3, 1) := by decide +kernel
theorem dX4_hashCountsAndFields_58 : decode cX4_hashCountsAndFields 58 = .ok (.iinc 5 1, 3) := by decide +kernel
theorem dX4_hashCountsAndFields_61 : decode cX4_hashCountsAndFields 61 = .ok (.goto (-28), 3) := by decide +kernel
theorem dX4_hashCountsAndFields_64 : decode cX4_hashCountsAndFields 64 = .ok (.lload_n 3, 1) := by decide +kernel
theorem dX4_hashCountsAndFields_65 : decode cX4_hashCountsAndFields 65 = .ok (.lreturn, 1) := by decide +kernel
set_option maxRecDepth 20000 in
theorem ggX4_hashClerks_X4_clerk : GoodIn wsX4_hashClerks wsX4_clerk := goodIn_ca (goodIn_ca (goodIn_r _ [5, 6, 7, 8, 9, 10, 11, 12, 13, 14, 4, 15, 16, 17, 18, 19, 20, 21, 22, 23, 24, 25, 26, 27, 28, 29, 30, 31, 32, 33, 38, 39, 40, 41, 42, 43, 44, 45, 46, 47, 48, 49, 50, 51, 52] (by decide +kernel) (by decide +kernel)) (goodIn_sub (fun _ h => List.mem_cons_of_mem _ (List.mem_append_left _ (List.mem_append_right _ h))) (by decide +kernel))) (goodIn_sub (fun _ h => List.mem_cons_of_mem _ (List.mem_append_right _ h)) (by decide +kernel))
set_option maxRecDepth 20000 in
theorem gX4_hashClerks_X4_clerk : GoodIn wsX4_hashClerks (wsV RX4 309 RX4 yX4_clerk wsX4_clerk) := goodIn_app (goodIn_of _ (by decide +kernel)) ggX4_hashClerks_X4_clerk
set_option maxRecDepth 20000 in
theorem ggX4_hashClerks_X4_mix : GoodIn wsX4_hashClerks wsX4_mix := goodIn_r _ [36, 37] (by decide +kernel) (by decide +kernel)
set_option maxRecDepth 20000 in
theorem gX4_hashClerks_X4_mix : GoodIn wsX4_hashClerks (va_wsS RX4 267 yX4_mix wsX4_mix) := goodIn_app (goodIn_of _ (by decide +kernel)) ggX4_hashClerks_X4_mix
theorem dX4_hashClerks_0 : decode cX4_hashClerks 0 = .ok (.lload_n 1, 1) := by decide +kernel
theorem dX4_hashClerks_1 : decode cX4_hashClerks 1 = .ok (.lstore_n 3, 1) := by decide +kernel
theorem dX4_hashClerks_2 : decode cX4_hashClerks 2 = .ok (.iconst 0, 1) := by decide +kernel
theorem dX4_hashClerks_3 : decode cX4_hashClerks 3 = .ok (.istore 5, 2) := by decide +kernel
theorem dX4_hashClerks_5 : decode cX4_hashClerks 5 = .ok (.iload 5, 2) := by decide +kernel
theorem dX4_hashClerks_7 : decode cX4_hashClerks 7 = .ok (.iconst 3, 1) := by decide +kernel
theorem dX4_hashClerks_8 : decode cX4_hashClerks 8 = .ok (.if_icmp .ge 38, 3) := by decide +kernel
theorem dX4_hashClerks_11 : decode cX4_hashClerks 11 = .ok (.iconst 0, 1) := by decide +kernel
theorem dX4_hashClerks_12 : decode cX4_hashClerks 12 = .ok (.istore 6, 2) := by decide +kernel
theorem dX4_hashClerks_14 : decode cX4_hashClerks 14 = .ok (.iload 6, 2) := by decide +kernel
theorem dX4_hashClerks_16 : decode cX4_hashClerks 16 = .ok (.iconst 3, 1) := by decide +kernel
theorem dX4_hashClerks_17 : decode cX4_hashClerks 17 = .ok (.if_icmp .ge 23, 3) := by decide +kernel
theorem dX4_hashClerks_20 : decode cX4_hashClerks 20 = .ok (.lload_n 3, 1) := by decide +kernel
theorem dX4_hashClerks_21 : decode cX4_hashClerks 21 = .ok (.aload_n 0, 1) := by decide +kernel
theorem dX4_hashClerks_22 : decode cX4_hashClerks 22 = .ok (.iload 5, 2) := by decide +kernel
theorem dX4_hashClerks_24 : decode cX4_hashClerks 24 = .ok (.iload 6, 2) := by decide +kernel
theorem dX4_hashClerks_26 : decode cX4_hashClerks 26 = .ok (.invokevirtual 309, 3) := by decide +kernel
theorem dX4_hashClerks_29 : decode cX4_hashClerks 29 = .ok (.i2l, 1) := by decide +kernel
theorem dX4_hashClerks_30 : decode cX4_hashClerks 30 = .ok (.invokestatic 267, 3) := by decide +kernel
theorem dX4_hashClerks_33 : decode cX4_hashClerks 33 = .ok (.lstore_n 3, 1) := by decide +kernel
theorem dX4_hashClerks_34 : decode cX4_hashClerks 34 = .ok (.iinc 6 1, 3) := by decide +kernel
theorem dX4_hashClerks_37 : decode cX4_hashClerks 37 = .ok (.goto (-23), 3) := by decide +kernel
theorem dX4_hashClerks_40 : decode cX4_hashClerks 40 = .ok (.iinc 5 1, 3) := by decide +kernel
theorem dX4_hashClerks_43 : decode cX4_hashClerks 43 = .ok (.goto (-38), 3) := by decide +kernel
theorem dX4_hashClerks_46 : decode cX4_hashClerks 46 = .ok (.lload_n 3, 1) := by decide +kernel
theorem dX4_hashClerks_47 : decode cX4_hashClerks 47 = .ok (.lreturn, 1) := by decide +kernel
set_option maxRecDepth 20000 in
theorem ggX4_hashReader_X4_readerOf : GoodIn wsX4_hashReader wsX4_readerOf := goodIn_ca (goodIn_ca (goodIn_r _ [5, 6, 7, 8, 9, 10, 11, 12, 13, 14, 15, 16, 17, 18, 19, 20, 21, 22, 23, 24, 4, 25, 26, 27, 28, 29, 30, 31, 32, 33, 34, 35, 36, 37, 38, 39, 40, 41, 42, 43, 44, 45, 46, 47, 48, 49, 50, 51, 52, 53, 54, 55, 56, 57, 58, 59, 103, 104, 105, 106, 107, 108, 109, 110, 111, 112, 113, 114, 115, 116, 117, 118, 119, 120, 121, 122, 123, 124, 125, 126, 127] (by decide +kernel) (by decide +kernel)) (goodIn_sub (fun _ h => List.mem_cons_of_mem _ (List.mem_append_left _ (List.mem_append_right _ h))) (by decide +kernel))) (goodIn_sub (fun _ h => List.mem_cons_of_mem _ (List.mem_append_right _ h)) (by decide +kernel))
set_option maxRecDepth 20000 in
theorem gX4_hashReader_X4_readerOf : GoodIn wsX4_hashReader (wsV RX4 312 RX4 yX4_readerOf wsX4_readerOf) := goodIn_app (goodIn_of _ (by decide +kernel)) ggX4_hashReader_X4_readerOf
set_option maxRecDepth 20000 in
theorem ggX4_hashReader_X4_mix : GoodIn wsX4_hashReader wsX4_mix := goodIn_r _ [62, 63] (by decide +kernel) (by decide +kernel)
set_option maxRecDepth 20000 in
theorem gX4_hashReader_X4_mix : GoodIn wsX4_hashReader (va_wsS RX4 267 yX4_mix wsX4_mix) := goodIn_app (goodIn_of _ (by decide +kernel)) ggX4_hashReader_X4_mix
set_option maxRecDepth 20000 in
theorem ggX4_hashReader_X4_has : GoodIn wsX4_hashReader wsX4_has := goodIn_ca (goodIn_r _ [67, 6, 7, 10, 11, 19, 21, 23, 24, 4, 25, 103, 104, 105, 106, 107, 108, 109, 110, 111, 112, 113, 114, 115, 116, 117, 118, 119, 120, 121, 122] (by decide +kernel) (by decide +kernel)) (goodIn_sub (fun _ h => List.mem_cons_of_mem _ (List.mem_append_left _ (List.mem_append_right _ h))) (by decide +kernel))
set_option maxRecDepth 20000 in
theorem gX4_hashReader_X4_has : GoodIn wsX4_hashReader (wsV RX4 315 RX4 yX4_has wsX4_has) := goodIn_app (goodIn_of _ (by decide +kernel)) ggX4_hashReader_X4_has
set_option maxRecDepth 20000 in
theorem ggX4_hashReader_X4_ifRead : GoodIn wsX4_hashReader wsX4_ifRead := goodIn_ca (goodIn_r _ [71, 6, 7, 10, 23, 24, 4, 25, 72, 73, 74, 75, 76, 77, 78, 79, 80, 33, 34, 29, 35, 36, 31, 37, 81, 82, 83, 84, 85, 86, 87, 88, 89, 41, 90, 47, 103, 104, 105, 106, 107, 108, 109, 110, 111, 112, 113, 114, 115, 116, 117, 118, 119, 120, 121, 122, 123, 124, 125, 126, 127] (by decide +kernel) (by decide +kernel)) (goodIn_sub (fun _ h => List.mem_cons_of_mem _ (List.mem_append_left _ (List.mem_append_right _ h))) (by decide +kernel))
set_option maxRecDepth 20000 in
theorem gX4_hashReader_X4_ifRead : GoodIn wsX4_hashReader (wsV RX4 318 RX4 yX4_ifRead wsX4_ifRead) := goodIn_app (goodIn_of _ (by decide +kernel)) ggX4_hashReader_X4_ifRead
set_option maxRecDepth 20000 in
theorem ggX4_hashReader_X4_wouldBeHalf : GoodIn wsX4_hashReader wsX4_wouldBeHalf := goodIn_ca (goodIn_r _ [94, 6, 7, 10, 11, 95, 20, 23, 24, 4, 25, 72, 73, 74, 75, 76, 77, 78, 79, 80, 33, 34, 29, 35, 36, 31, 37, 81, 82, 83, 84, 85, 86, 87, 88, 89, 41, 90, 47, 96, 97, 98, 99, 100, 101, 102, 38, 39, 40, 42, 43, 44, 45, 46, 48, 49, 50, 51, 52, 53, 54, 55, 56, 57, 58, 59, 103, 104, 105, 106, 107, 108, 109, 110, 111, 112, 113, 114, 115, 116, 117, 118, 119, 120, 121, 122, 123, 124, 125, 126, 127] (by decide +kernel) (by decide +kernel)) (goodIn_sub (fun _ h => List.mem_cons_of_mem _ (List.mem_append_left _ (List.mem_append_right _ h))) (by decide +kernel))
set_option maxRecDepth 20000 in
theorem gX4_hashReader_X4_wouldBeHalf : GoodIn wsX4_hashReader (wsV RX4 321 RX4 yX4_wouldBeHalf wsX4_wouldBeHalf) := goodIn_app (goodIn_of _ (by decide +kernel)) ggX4_hashReader_X4_wouldBeHalf
theorem dX4_hashReader_0 : decode cX4_hashReader 0 = .ok (.lload_n 1, 1) := by decide +kernel
theorem dX4_hashReader_1 : decode cX4_hashReader 1 = .ok (.lstore 4, 2) := by decide +kernel
theorem dX4_hashReader_3 : decode cX4_hashReader 3 = .ok (.iconst 0, 1) := by decide +kernel
theorem dX4_hashReader_4 : decode cX4_hashReader 4 = .ok (.istore 6, 2) := by decide +kernel
theorem dX4_hashReader_6 : decode cX4_hashReader 6 = .ok (.iload 6, 2) := by decide +kernel
theorem dX4_hashReader_8 : decode cX4_hashReader 8 = .ok (.bipush 8, 2) := by decide +kernel
theorem dX4_hashReader_10 : decode cX4_hashReader 10 = .ok (.if_icmp .ge 24, 3) := by decide +kernel
theorem dX4_hashReader_13 : decode cX4_hashReader 13 = .ok (.lload 4, 2) := by decide +kernel
theorem dX4_hashReader_15 : decode cX4_hashReader 15 = .ok (.aload_n 0, 1) := by decide +kernel
theorem dX4_hashReader_16 : decode cX4_hashReader 16 = .ok (.iload_n 3, 1) := by decide +kernel
theorem dX4_hashReader_17 : decode cX4_hashReader 17 = .ok (.iload 6, 2) := by decide +kernel
theorem dX4_hashReader_19 : decode cX4_hashReader 19 = .ok (.invokevirtual 312, 3) := by decide +kernel
theorem dX4_hashReader_22 : decode cX4_hashReader 22 = .ok (.i2l, 1) := by decide +kernel
theorem dX4_hashReader_23 : decode cX4_hashReader 23 = .ok (.invokestatic 267, 3) := by decide +kernel
theorem dX4_hashReader_26 : decode cX4_hashReader 26 = .ok (.lstore 4, 2) := by decide +kernel
theorem dX4_hashReader_28 : decode cX4_hashReader 28 = .ok (.iinc 6 1, 3) := by decide +kernel
theorem dX4_hashReader_31 : decode cX4_hashReader 31 = .ok (.goto (-25), 3) := by decide +kernel
theorem dX4_hashReader_34 : decode cX4_hashReader 34 = .ok (.iconst 0, 1) := by decide +kernel
theorem dX4_hashReader_35 : decode cX4_hashReader 35 = .ok (.istore 6, 2) := by decide +kernel
theorem dX4_hashReader_37 : decode cX4_hashReader 37 = .ok (.iload 6, 2) := by decide +kernel
theorem dX4_hashReader_39 : decode cX4_hashReader 39 = .ok (.iconst 5, 1) := by decide +kernel
theorem dX4_hashReader_40 : decode cX4_hashReader 40 = .ok (.if_icmp .ge 24, 3) := by decide +kernel
theorem dX4_hashReader_43 : decode cX4_hashReader 43 = .ok (.lload 4, 2) := by decide +kernel
theorem dX4_hashReader_45 : decode cX4_hashReader 45 = .ok (.aload_n 0, 1) := by decide +kernel
theorem dX4_hashReader_46 : decode cX4_hashReader 46 = .ok (.iload_n 3, 1) := by decide +kernel
theorem dX4_hashReader_47 : decode cX4_hashReader 47 = .ok (.iload 6, 2) := by decide +kernel
theorem dX4_hashReader_49 : decode cX4_hashReader 49 = .ok (.invokevirtual 315, 3) := by decide +kernel
theorem dX4_hashReader_52 : decode cX4_hashReader 52 = .ok (.i2l, 1) := by decide +kernel
theorem dX4_hashReader_53 : decode cX4_hashReader 53 = .ok (.invokestatic 267, 3) := by decide +kernel
theorem dX4_hashReader_56 : decode cX4_hashReader 56 = .ok (.lstore 4, 2) := by decide +kernel
theorem dX4_hashReader_58 : decode cX4_hashReader 58 = .ok (.iinc 6 1, 3) := by decide +kernel
theorem dX4_hashReader_61 : decode cX4_hashReader 61 = .ok (.goto (-24), 3) := by decide +kernel
theorem dX4_hashReader_64 : decode cX4_hashReader 64 = .ok (.lload 4, 2) := by decide +kernel
theorem dX4_hashReader_66 : decode cX4_hashReader 66 = .ok (.aload_n 0, 1) := by decide +kernel
theorem dX4_hashReader_67 : decode cX4_hashReader 67 = .ok (.iload_n 3, 1) := by decide +kernel
theorem dX4_hashReader_68 : decode cX4_hashReader 68 = .ok (.invokevirtual 318, 3) := by decide +kernel
theorem dX4_hashReader_71 : decode cX4_hashReader 71 = .ok (.i2l, 1) := by decide +kernel
theorem dX4_hashReader_72 : decode cX4_hashReader 72 = .ok (.invokestatic 267, 3) := by decide +kernel
theorem dX4_hashReader_75 : decode cX4_hashReader 75 = .ok (.lstore 4, 2) := by decide +kernel
theorem dX4_hashReader_77 : decode cX4_hashReader 77 = .ok (.lload 4, 2) := by decide +kernel
theorem dX4_hashReader_79 : decode cX4_hashReader 79 = .ok (.aload_n 0, 1) := by decide +kernel
theorem dX4_hashReader_80 : decode cX4_hashReader 80 = .ok (.iload_n 3, 1) := by decide +kernel
theorem dX4_hashReader_81 : decode cX4_hashReader 81 = .ok (.invokevirtual 321, 3) := by decide +kernel
theorem dX4_hashReader_84 : decode cX4_hashReader 84 = .ok (.i2l, 1) := by decide +kernel
theorem dX4_hashReader_85 : decode cX4_hashReader 85 = .ok (.invokestatic 267, 3) := by decide +kernel
theorem dX4_hashReader_88 : decode cX4_hashReader 88 = .ok (.lreturn, 1) := by decide +kernel
set_option maxRecDepth 20000 in
theorem ggX4_hashNotices_X0_oldestKept : GoodIn wsX4_hashNotices wsX0_oldestKept := goodIn_r _ [7, 8, 9, 10, 11, 12, 13, 14, 6, 15, 16, 46, 47, 48, 49, 50] (by decide +kernel) (by decide +kernel)
set_option maxRecDepth 20000 in
theorem gX4_hashNotices_X0_oldestKept : GoodIn wsX4_hashNotices (wsV RX4 324 RX0 yX0_oldestKept wsX0_oldestKept) := goodIn_app (goodIn_of _ (by decide +kernel)) ggX4_hashNotices_X0_oldestKept
set_option maxRecDepth 20000 in
theorem ggX4_hashNotices_X0_latestWhole : GoodIn wsX4_hashNotices wsX0_latestWhole := goodIn_r _ [15, 16, 46, 47, 48, 49, 50] (by decide +kernel) (by decide +kernel)
set_option maxRecDepth 20000 in
theorem gX4_hashNotices_X0_latestWhole : GoodIn wsX4_hashNotices (wsV RX4 327 RX0 yX0_latestWhole wsX0_latestWhole) := goodIn_app (goodIn_of _ (by decide +kernel)) ggX4_hashNotices_X0_latestWhole
set_option maxRecDepth 20000 in
theorem ggX4_hashNotices_X0_keptValue : GoodIn wsX4_hashNotices wsX0_keptValue := goodIn_r _ [21, 22, 23, 4, 5, 6, 7, 8, 9, 10, 11, 12, 13, 14, 15, 16, 24, 25, 26, 27, 28, 29, 30, 46, 47, 48, 49, 50] (by decide +kernel) (by decide +kernel)
set_option maxRecDepth 20000 in
theorem gX4_hashNotices_X0_keptValue : GoodIn wsX4_hashNotices (wsV RX4 169 RX0 yX0_keptValue wsX0_keptValue) := goodIn_app (goodIn_of _ (by decide +kernel)) ggX4_hashNotices_X0_keptValue
set_option maxRecDepth 20000 in
theorem ggX4_hashNotices_X4_mix : GoodIn wsX4_hashNotices wsX4_mix := goodIn_r _ [34, 35] (by decide +kernel) (by decide +kernel)
set_option maxRecDepth 20000 in
theorem gX4_hashNotices_X4_mix : GoodIn wsX4_hashNotices (va_wsS RX4 267 yX4_mix wsX4_mix) := goodIn_app (goodIn_of _ (by decide +kernel)) ggX4_hashNotices_X4_mix
theorem dX4_hashNotices_0 : decode cX4_hashNotices 0 = .ok (.lload_n 1, 1) := by decide +kernel
theorem dX4_hashNotices_1 : decode cX4_hashNotices 1 = .ok (.lstore_n 3, 1) := by decide +kernel
theorem dX4_hashNotices_2 : decode cX4_hashNotices 2 = .ok (.aload_n 0, 1) := by decide +kernel
theorem dX4_hashNotices_3 : decode cX4_hashNotices 3 = .ok (.getfield 10, 3) := by decide +kernel
theorem dX4_hashNotices_6 : decode cX4_hashNotices 6 = .ok (.getfield 42, 3) := by decide +kernel
theorem dX4_hashNotices_9 : decode cX4_hashNotices 9 = .ok (.invokevirtual 324, 3) := by decide +kernel
theorem dX4_hashNotices_12 : decode cX4_hashNotices 12 = .ok (.istore 5, 2) := by decide +kernel
theorem dX4_hashNotices_14 : decode cX4_hashNotices 14 = .ok (.iconst 0, 1) := by decide +kernel
theorem dX4_hashNotices_15 : decode cX4_hashNotices 15 = .ok (.istore 6, 2) := by decide +kernel
theorem dX4_hashNotices_17 : decode cX4_hashNotices 17 = .ok (.iload 6, 2) := by decide +kernel
theorem dX4_hashNotices_19 : decode cX4_hashNotices 19 = .ok (.bipush 16, 2) := by decide +kernel
theorem dX4_hashNotices_21 : decode cX4_hashNotices 21 = .ok (.if_icmp .ge 65, 3) := by decide +kernel
theorem dX4_hashNotices_24 : decode cX4_hashNotices 24 = .ok (.iload 5, 2) := by decide +kernel
theorem dX4_hashNotices_26 : decode cX4_hashNotices 26 = .ok (.iload 6, 2) := by decide +kernel
theorem dX4_hashNotices_28 : decode cX4_hashNotices 28 = .ok (.iadd, 1) := by decide +kernel
theorem dX4_hashNotices_29 : decode cX4_hashNotices 29 = .ok (.aload_n 0, 1) := by decide +kernel
theorem dX4_hashNotices_30 : decode cX4_hashNotices 30 = .ok (.getfield 10, 3) := by decide +kernel
theorem dX4_hashNotices_33 : decode cX4_hashNotices 33 = .ok (.getfield 42, 3) := by decide +kernel
theorem dX4_hashNotices_36 : decode cX4_hashNotices 36 = .ok (.invokevirtual 327, 3) := by decide +kernel
theorem dX4_hashNotices_39 : decode cX4_hashNotices 39 = .ok (.if_icmp .gt 47, 3) := by decide +kernel
theorem dX4_hashNotices_42 : decode cX4_hashNotices 42 = .ok (.iconst 0, 1) := by decide +kernel
theorem dX4_hashNotices_43 : decode cX4_hashNotices 43 = .ok (.istore 7, 2) := by decide +kernel
theorem dX4_hashNotices_45 : decode cX4_hashNotices 45 = .ok (.iload 7, 2) := by decide +kernel
theorem dX4_hashNotices_47 : decode cX4_hashNotices 47 = .ok (.iconst 5, 1) := by decide +kernel
theorem dX4_hashNotices_48 : decode cX4_hashNotices 48 = .ok (.if_icmp .ge 32, 3) := by decide +kernel
theorem dX4_hashNotices_51 : decode cX4_hashNotices 51 = .ok (.lload_n 3, 1) := by decide +kernel
theorem dX4_hashNotices_52 : decode cX4_hashNotices 52 = .ok (.aload_n 0, 1) := by decide +kernel
theorem dX4_hashNotices_53 : decode cX4_hashNotices 53 = .ok (.getfield 10, 3) := by decide +kernel
theorem dX4_hashNotices_56 : decode cX4_hashNotices 56 = .ok (.getfield 42, 3) := by decide +kernel
theorem dX4_hashNotices_59 : decode cX4_hashNotices 59 = .ok (.iload 5, 2) := by decide +kernel
theorem dX4_hashNotices_61 : decode cX4_hashNotices 61 = .ok (.iload 6, 2) := by decide +kernel
theorem dX4_hashNotices_63 : decode cX4_hashNotices 63 = .ok (.iadd, 1) := by decide +kernel
theorem dX4_hashNotices_64 : decode cX4_hashNotices 64 = .ok (.iload 7, 2) := by decide +kernel
theorem dX4_hashNotices_66 : decode cX4_hashNotices 66 = .ok (.invokevirtual 169, 3) := by decide +kernel
theorem dX4_hashNotices_69 : decode cX4_hashNotices 69 = .ok (.i2l, 1) := by decide +kernel
theorem dX4_hashNotices_70 : decode cX4_hashNotices 70 = .ok (.invokestatic 267, 3) := by decide +kernel
theorem dX4_hashNotices_73 : decode cX4_hashNotices 73 = .ok (.lstore_n 3, 1) := by decide +kernel
theorem dX4_hashNotices_74 : decode cX4_hashNotices 74 = .ok (.iinc 7 1, 3) := by decide +kernel
theorem dX4_hashNotices_77 : decode cX4_hashNotices 77 = .ok (.goto (-32), 3) := by decide +kernel
theorem dX4_hashNotices_80 : decode cX4_hashNotices 80 = .ok (.iinc 6 1, 3) := by decide +kernel
theorem dX4_hashNotices_83 : decode cX4_hashNotices 83 = .ok (.goto (-66), 3) := by decide +kernel
theorem dX4_hashNotices_86 : decode cX4_hashNotices 86 = .ok (.lload_n 3, 1) := by decide +kernel
theorem dX4_hashNotices_87 : decode cX4_hashNotices 87 = .ok (.lreturn, 1) := by decide +kernel
set_option maxRecDepth 20000 in
theorem ggX4_hashBuffer_X4_mix : GoodIn wsX4_hashBuffer wsX4_mix := goodIn_r _ [6, 7] (by decide +kernel) (by decide +kernel)
set_option maxRecDepth 20000 in
theorem gX4_hashBuffer_X4_mix : GoodIn wsX4_hashBuffer (va_wsS RX4 267 yX4_mix wsX4_mix) := goodIn_app (goodIn_of _ (by decide +kernel)) ggX4_hashBuffer_X4_mix
set_option maxRecDepth 20000 in
theorem ggX4_hashBuffer_X3_codeAt : GoodIn wsX4_hashBuffer wsX3_codeAt := goodIn_r _ [12, 13, 14, 15, 5, 16, 23, 24, 25, 26] (by decide +kernel) (by decide +kernel)
set_option maxRecDepth 20000 in
theorem gX4_hashBuffer_X3_codeAt : GoodIn wsX4_hashBuffer (wsV RX4 288 RX3 yX3_codeAt wsX3_codeAt) := goodIn_app (goodIn_of _ (by decide +kernel)) ggX4_hashBuffer_X3_codeAt
theorem dX4_hashBuffer_0 : decode cX4_hashBuffer 0 = .ok (.lload_n 1, 1) := by decide +kernel
theorem dX4_hashBuffer_1 : decode cX4_hashBuffer 1 = .ok (.aload_n 0, 1) := by decide +kernel
theorem dX4_hashBuffer_2 : decode cX4_hashBuffer 2 = .ok (.getfield 23, 3) := by decide +kernel
theorem dX4_hashBuffer_5 : decode cX4_hashBuffer 5 = .ok (.getfield 128, 3) := by decide +kernel
theorem dX4_hashBuffer_8 : decode cX4_hashBuffer 8 = .ok (.i2l, 1) := by decide +kernel
theorem dX4_hashBuffer_9 : decode cX4_hashBuffer 9 = .ok (.invokestatic 267, 3) := by decide +kernel
theorem dX4_hashBuffer_12 : decode cX4_hashBuffer 12 = .ok (.lstore_n 3, 1) := by decide +kernel
theorem dX4_hashBuffer_13 : decode cX4_hashBuffer 13 = .ok (.iconst 0, 1) := by decide +kernel
theorem dX4_hashBuffer_14 : decode cX4_hashBuffer 14 = .ok (.istore 5, 2) := by decide +kernel
theorem dX4_hashBuffer_16 : decode cX4_hashBuffer 16 = .ok (.iload 5, 2) := by decide +kernel
theorem dX4_hashBuffer_18 : decode cX4_hashBuffer 18 = .ok (.aload_n 0, 1) := by decide +kernel
theorem dX4_hashBuffer_19 : decode cX4_hashBuffer 19 = .ok (.getfield 23, 3) := by decide +kernel
theorem dX4_hashBuffer_22 : decode cX4_hashBuffer 22 = .ok (.getfield 128, 3) := by decide +kernel
theorem dX4_hashBuffer_25 : decode cX4_hashBuffer 25 = .ok (.if_icmp .ge 24, 3) := by decide +kernel
theorem dX4_hashBuffer_28 : decode cX4_hashBuffer 28 = .ok (.lload_n 3, 1) := by decide +kernel
theorem dX4_hashBuffer_29 : decode cX4_hashBuffer 29 = .ok (.aload_n 0, 1) := by decide +kernel
theorem dX4_hashBuffer_30 : decode cX4_hashBuffer 30 = .ok (.getfield 23, 3) := by decide +kernel
theorem dX4_hashBuffer_33 : decode cX4_hashBuffer 33 = .ok (.iload 5, 2) := by decide +kernel
theorem dX4_hashBuffer_35 : decode cX4_hashBuffer 35 = .ok (.invokevirtual 288, 3) := by decide +kernel
theorem dX4_hashBuffer_38 : decode cX4_hashBuffer 38 = .ok (.i2l, 1) := by decide +kernel
theorem dX4_hashBuffer_39 : decode cX4_hashBuffer 39 = .ok (.invokestatic 267, 3) := by decide +kernel
theorem dX4_hashBuffer_42 : decode cX4_hashBuffer 42 = .ok (.lstore_n 3, 1) := by decide +kernel
theorem dX4_hashBuffer_43 : decode cX4_hashBuffer 43 = .ok (.iinc 5 1, 3) := by decide +kernel
theorem dX4_hashBuffer_46 : decode cX4_hashBuffer 46 = .ok (.goto (-30), 3) := by decide +kernel
theorem dX4_hashBuffer_49 : decode cX4_hashBuffer 49 = .ok (.lload_n 3, 1) := by decide +kernel
theorem dX4_hashBuffer_50 : decode cX4_hashBuffer 50 = .ok (.lreturn, 1) := by decide +kernel
theorem dX4_bitsOfShare_0 : decode cX4_bitsOfShare 0 = .ok (.dload_n 0, 1) := by decide +kernel
theorem dX4_bitsOfShare_1 : decode cX4_bitsOfShare 1 = .ok (.dconst 0, 1) := by decide +kernel
theorem dX4_bitsOfShare_2 : decode cX4_bitsOfShare 2 = .ok (.dcmp .g, 1) := by decide +kernel
theorem dX4_bitsOfShare_3 : decode cX4_bitsOfShare 3 = .ok (.ifCond .gt 5, 3) := by decide +kernel
theorem dX4_bitsOfShare_6 : decode cX4_bitsOfShare 6 = .ok (.lconst 0, 1) := by decide +kernel
theorem dX4_bitsOfShare_7 : decode cX4_bitsOfShare 7 = .ok (.lreturn, 1) := by decide +kernel
theorem dX4_bitsOfShare_8 : decode cX4_bitsOfShare 8 = .ok (.dload_n 0, 1) := by decide +kernel
theorem dX4_bitsOfShare_9 : decode cX4_bitsOfShare 9 = .ok (.dstore_n 2, 1) := by decide +kernel
theorem dX4_bitsOfShare_10 : decode cX4_bitsOfShare 10 = .ok (.ldc2_w 330, 3) := by decide +kernel
theorem dX4_bitsOfShare_13 : decode cX4_bitsOfShare 13 = .ok (.lstore 4, 2) := by decide +kernel
theorem dX4_bitsOfShare_15 : decode cX4_bitsOfShare 15 = .ok (.iconst 0, 1) := by decide +kernel
theorem dX4_bitsOfShare_16 : decode cX4_bitsOfShare 16 = .ok (.istore 6, 2) := by decide +kernel
theorem dX4_bitsOfShare_18 : decode cX4_bitsOfShare 18 = .ok (.iload 6, 2) := by decide +kernel
theorem dX4_bitsOfShare_20 : decode cX4_bitsOfShare 20 = .ok (.sipush 1022, 3) := by decide +kernel
theorem dX4_bitsOfShare_23 : decode cX4_bitsOfShare 23 = .ok (.if_icmp .ge 27, 3) := by decide +kernel
theorem dX4_bitsOfShare_26 : decode cX4_bitsOfShare 26 = .ok (.dload_n 2, 1) := by decide +kernel
theorem dX4_bitsOfShare_27 : decode cX4_bitsOfShare 27 = .ok (.dconst 1, 1) := by decide +kernel
theorem dX4_bitsOfShare_28 : decode cX4_bitsOfShare 28 = .ok (.dcmp .g, 1) := by decide +kernel
theorem dX4_bitsOfShare_29 : decode cX4_bitsOfShare 29 = .ok (.ifCond .ge 21, 3) := by decide +kernel
theorem dX4_bitsOfShare_32 : decode cX4_bitsOfShare 32 = .ok (.dload_n 2, 1) := by decide +kernel
theorem dX4_bitsOfShare_33 : decode cX4_bitsOfShare 33 = .ok (.ldc2_w 332, 3) := by decide +kernel
theorem dX4_bitsOfShare_36 : decode cX4_bitsOfShare 36 = .ok (.dmul, 1) := by decide +kernel
theorem dX4_bitsOfShare_37 : decode cX4_bitsOfShare 37 = .ok (.dstore_n 2, 1) := by decide +kernel
theorem dX4_bitsOfShare_38 : decode cX4_bitsOfShare 38 = .ok (.lload 4, 2) := by decide +kernel
theorem dX4_bitsOfShare_40 : decode cX4_bitsOfShare 40 = .ok (.lconst 1, 1) := by decide +kernel
theorem dX4_bitsOfShare_41 : decode cX4_bitsOfShare 41 = .ok (.lsub, 1) := by decide +kernel
theorem dX4_bitsOfShare_42 : decode cX4_bitsOfShare 42 = .ok (.lstore 4, 2) := by decide +kernel
theorem dX4_bitsOfShare_44 : decode cX4_bitsOfShare 44 = .ok (.iinc 6 1, 3) := by decide +kernel
theorem dX4_bitsOfShare_47 : decode cX4_bitsOfShare 47 = .ok (.goto (-29), 3) := by decide +kernel
theorem dX4_bitsOfShare_50 : decode cX4_bitsOfShare 50 = .ok (.lload 4, 2) := by decide +kernel
theorem dX4_bitsOfShare_52 : decode cX4_bitsOfShare 52 = .ok (.bipush 52, 2) := by decide +kernel
theorem dX4_bitsOfShare_54 : decode cX4_bitsOfShare 54 = .ok (.lshl, 1) := by decide +kernel
theorem dX4_bitsOfShare_55 : decode cX4_bitsOfShare 55 = .ok (.dload_n 2, 1) := by decide +kernel
theorem dX4_bitsOfShare_56 : decode cX4_bitsOfShare 56 = .ok (.dconst 1, 1) := by decide +kernel
theorem dX4_bitsOfShare_57 : decode cX4_bitsOfShare 57 = .ok (.dsub, 1) := by decide +kernel
theorem dX4_bitsOfShare_58 : decode cX4_bitsOfShare 58 = .ok (.ldc2_w 334, 3) := by decide +kernel
theorem dX4_bitsOfShare_61 : decode cX4_bitsOfShare 61 = .ok (.dmul, 1) := by decide +kernel
theorem dX4_bitsOfShare_62 : decode cX4_bitsOfShare 62 = .ok (.d2l, 1) := by decide +kernel
theorem dX4_bitsOfShare_63 : decode cX4_bitsOfShare 63 = .ok (.ladd, 1) := by decide +kernel
theorem dX4_bitsOfShare_64 : decode cX4_bitsOfShare 64 = .ok (.lreturn, 1) := by decide +kernel
