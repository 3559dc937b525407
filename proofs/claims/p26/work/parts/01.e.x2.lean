theorem dX2_init_0 : decode cX2_init 0 = .ok (.aload_n 0, 1) := by decide +kernel
theorem dX2_init_1 : decode cX2_init 1 = .ok (.invokespecial 3, 3) := by decide +kernel
theorem dX2_init_4 : decode cX2_init 4 = .ok (.aload_n 0, 1) := by decide +kernel
theorem dX2_init_5 : decode cX2_init 5 = .ok (.new 9, 3) := by decide +kernel
theorem dX2_init_8 : decode cX2_init 8 = .ok (.dup, 1) := by decide +kernel
theorem dX2_init_9 : decode cX2_init 9 = .ok (.invokespecial 11, 3) := by decide +kernel
theorem dX2_init_12 : decode cX2_init 12 = .ok (.putfield 12, 3) := by decide +kernel
theorem dX2_init_15 : decode cX2_init 15 = .ok (.aload_n 0, 1) := by decide +kernel
theorem dX2_init_16 : decode cX2_init 16 = .ok (.iconst 4, 1) := by decide +kernel
theorem dX2_init_17 : decode cX2_init 17 = .ok (.anewarray 18, 3) := by decide +kernel
theorem dX2_init_20 : decode cX2_init 20 = .ok (.putfield 20, 3) := by decide +kernel
theorem dX2_init_23 : decode cX2_init 23 = .ok (.aload_n 0, 1) := by decide +kernel
theorem dX2_init_24 : decode cX2_init 24 = .ok (.iconst 5, 1) := by decide +kernel
theorem dX2_init_25 : decode cX2_init 25 = .ok (.putfield 24, 3) := by decide +kernel
theorem dX2_init_28 : decode cX2_init 28 = .ok (.iconst 0, 1) := by decide +kernel
theorem dX2_init_29 : decode cX2_init 29 = .ok (.istore_n 1, 1) := by decide +kernel
theorem dX2_init_30 : decode cX2_init 30 = .ok (.iload_n 1, 1) := by decide +kernel
theorem dX2_init_31 : decode cX2_init 31 = .ok (.iconst 4, 1) := by decide +kernel
theorem dX2_init_32 : decode cX2_init 32 = .ok (.if_icmp .ge 22, 3) := by decide +kernel
theorem dX2_init_35 : decode cX2_init 35 = .ok (.aload_n 0, 1) := by decide +kernel
theorem dX2_init_36 : decode cX2_init 36 = .ok (.getfield 20, 3) := by decide +kernel
theorem dX2_init_39 : decode cX2_init 39 = .ok (.iload_n 1, 1) := by decide +kernel
theorem dX2_init_40 : decode cX2_init 40 = .ok (.new 18, 3) := by decide +kernel
theorem dX2_init_43 : decode cX2_init 43 = .ok (.dup, 1) := by decide +kernel
theorem dX2_init_44 : decode cX2_init 44 = .ok (.invokespecial 28, 3) := by decide +kernel
theorem dX2_init_47 : decode cX2_init 47 = .ok (.aastore, 1) := by decide +kernel
theorem dX2_init_48 : decode cX2_init 48 = .ok (.iinc 1 1, 3) := by decide +kernel
theorem dX2_init_51 : decode cX2_init 51 = .ok (.goto (-21), 3) := by decide +kernel
theorem dX2_init_54 : decode cX2_init 54 = .ok (.return_, 1) := by decide +kernel
set_option maxRecDepth 20000 in
theorem ggX2_mayBegin_X1_hasGivenUp : GoodIn wsX2_mayBegin wsX1_hasGivenUp := goodIn_r _ [8, 9, 10, 11, 16, 17, 18, 19, 20, 21, 22, 23, 24, 25] (by decide +kernel) (by decide +kernel)
set_option maxRecDepth 20000 in
theorem gX2_mayBegin_X1_hasGivenUp : GoodIn wsX2_mayBegin (wsV RX2 33 RX1 yX1_hasGivenUp wsX1_hasGivenUp) := goodIn_app (goodIn_of _ (by decide +kernel)) ggX2_mayBegin_X1_hasGivenUp
theorem dX2_mayBegin_0 : decode cX2_mayBegin 0 = .ok (.aload_n 0, 1) := by decide +kernel
theorem dX2_mayBegin_1 : decode cX2_mayBegin 1 = .ok (.getfield 20, 3) := by decide +kernel
theorem dX2_mayBegin_4 : decode cX2_mayBegin 4 = .ok (.iload_n 1, 1) := by decide +kernel
theorem dX2_mayBegin_5 : decode cX2_mayBegin 5 = .ok (.aaload, 1) := by decide +kernel
theorem dX2_mayBegin_6 : decode cX2_mayBegin 6 = .ok (.astore_n 2, 1) := by decide +kernel
theorem dX2_mayBegin_7 : decode cX2_mayBegin 7 = .ok (.aload_n 2, 1) := by decide +kernel
theorem dX2_mayBegin_8 : decode cX2_mayBegin 8 = .ok (.getfield 29, 3) := by decide +kernel
theorem dX2_mayBegin_11 : decode cX2_mayBegin 11 = .ok (.ifCond .ne 18, 3) := by decide +kernel
theorem dX2_mayBegin_14 : decode cX2_mayBegin 14 = .ok (.aload_n 2, 1) := by decide +kernel
theorem dX2_mayBegin_15 : decode cX2_mayBegin 15 = .ok (.aload_n 0, 1) := by decide +kernel
theorem dX2_mayBegin_16 : decode cX2_mayBegin 16 = .ok (.getfield 24, 3) := by decide +kernel
theorem dX2_mayBegin_19 : decode cX2_mayBegin 19 = .ok (.invokevirtual 33, 3) := by decide +kernel
theorem dX2_mayBegin_22 : decode cX2_mayBegin 22 = .ok (.ifCond .ne 7, 3) := by decide +kernel
theorem dX2_mayBegin_25 : decode cX2_mayBegin 25 = .ok (.iconst 1, 1) := by decide +kernel
theorem dX2_mayBegin_26 : decode cX2_mayBegin 26 = .ok (.goto 4, 3) := by decide +kernel
theorem dX2_mayBegin_29 : decode cX2_mayBegin 29 = .ok (.iconst 0, 1) := by decide +kernel
theorem dX2_mayBegin_30 : decode cX2_mayBegin 30 = .ok (.ireturn, 1) := by decide +kernel
set_option maxRecDepth 20000 in
theorem ggX2_glance_X1_take : GoodIn wsX2_glance wsX1_take := goodIn_r _ [10, 11, 12, 13, 79, 80, 81, 82, 83, 69, 70, 71, 72, 73, 74, 75, 76, 77, 78] (by decide +kernel) (by decide +kernel)
set_option maxRecDepth 20000 in
theorem gX2_glance_X1_take : GoodIn wsX2_glance (wsV RX2 40 RX1 yX1_take wsX1_take) := goodIn_app (goodIn_of _ (by decide +kernel)) ggX2_glance_X1_take
set_option maxRecDepth 20000 in
theorem ggX2_glance_X1_wouldFail : GoodIn wsX2_glance wsX1_wouldFail := goodIn_r _ [17, 18, 19, 20, 21, 22, 23, 24, 25, 26, 27, 69, 70, 71, 72, 73, 74, 75, 76, 77, 78, 79, 80, 81, 82, 83] (by decide +kernel) (by decide +kernel)
set_option maxRecDepth 20000 in
theorem gX2_glance_X1_wouldFail : GoodIn wsX2_glance (wsV RX2 44 RX1 yX1_wouldFail wsX1_wouldFail) := goodIn_app (goodIn_of _ (by decide +kernel)) ggX2_glance_X1_wouldFail
set_option maxRecDepth 20000 in
theorem ggX2_glance_X1_fail : GoodIn wsX2_glance wsX1_fail := goodIn_r _ [31, 19, 32, 33, 69, 70, 71, 72, 73, 74, 75, 76, 77, 78] (by decide +kernel) (by decide +kernel)
set_option maxRecDepth 20000 in
theorem gX2_glance_X1_fail : GoodIn wsX2_glance (wsV RX2 48 RX1 yX1_fail wsX1_fail) := goodIn_app (goodIn_of _ (by decide +kernel)) ggX2_glance_X1_fail
set_option maxRecDepth 20000 in
theorem ggX2_glance_X1_doWell : GoodIn wsX2_glance wsX1_doWell := goodIn_r _ [37, 19, 38, 13, 39, 40, 41, 42, 43, 32, 44, 69, 70, 71, 72, 73, 74, 75, 76, 77, 78] (by decide +kernel) (by decide +kernel)
set_option maxRecDepth 20000 in
theorem gX2_glance_X1_doWell : GoodIn wsX2_glance (wsV RX2 51 RX1 yX1_doWell wsX1_doWell) := goodIn_app (goodIn_of _ (by decide +kernel)) ggX2_glance_X1_doWell
set_option maxRecDepth 20000 in
theorem ggX2_glance_X0_latestSame : GoodIn wsX2_glance wsX0_latestSame := goodIn_r _ [48, 49, 50, 51, 25, 52, 27, 53, 54, 55, 56, 57, 58, 59, 60, 61, 62, 63, 64, 79, 80, 81, 82, 83] (by decide +kernel) (by decide +kernel)
set_option maxRecDepth 20000 in
theorem gX2_glance_X0_latestSame : GoodIn wsX2_glance (wsV RX2 58 RX0 yX0_latestSame wsX0_latestSame) := goodIn_app (goodIn_of _ (by decide +kernel)) ggX2_glance_X0_latestSame
theorem dX2_glance_0 : decode cX2_glance 0 = .ok (.aload_n 0, 1) := by decide +kernel
theorem dX2_glance_1 : decode cX2_glance 1 = .ok (.getfield 20, 3) := by decide +kernel
theorem dX2_glance_4 : decode cX2_glance 4 = .ok (.iload_n 1, 1) := by decide +kernel
theorem dX2_glance_5 : decode cX2_glance 5 = .ok (.aaload, 1) := by decide +kernel
theorem dX2_glance_6 : decode cX2_glance 6 = .ok (.astore_n 2, 1) := by decide +kernel
theorem dX2_glance_7 : decode cX2_glance 7 = .ok (.aload_n 2, 1) := by decide +kernel
theorem dX2_glance_8 : decode cX2_glance 8 = .ok (.getfield 37, 3) := by decide +kernel
theorem dX2_glance_11 : decode cX2_glance 11 = .ok (.iconst 5, 1) := by decide +kernel
theorem dX2_glance_12 : decode cX2_glance 12 = .ok (.if_icmp .ge 12, 3) := by decide +kernel
theorem dX2_glance_15 : decode cX2_glance 15 = .ok (.aload_n 2, 1) := by decide +kernel
theorem dX2_glance_16 : decode cX2_glance 16 = .ok (.aload_n 0, 1) := by decide +kernel
theorem dX2_glance_17 : decode cX2_glance 17 = .ok (.getfield 12, 3) := by decide +kernel
theorem dX2_glance_20 : decode cX2_glance 20 = .ok (.invokevirtual 40, 3) := by decide +kernel
theorem dX2_glance_23 : decode cX2_glance 23 = .ok (.ireturn, 1) := by decide +kernel
theorem dX2_glance_24 : decode cX2_glance 24 = .ok (.aload_n 2, 1) := by decide +kernel
theorem dX2_glance_25 : decode cX2_glance 25 = .ok (.aload_n 0, 1) := by decide +kernel
theorem dX2_glance_26 : decode cX2_glance 26 = .ok (.getfield 12, 3) := by decide +kernel
theorem dX2_glance_29 : decode cX2_glance 29 = .ok (.invokevirtual 44, 3) := by decide +kernel
theorem dX2_glance_32 : decode cX2_glance 32 = .ok (.ifCond .eq 10, 3) := by decide +kernel
theorem dX2_glance_35 : decode cX2_glance 35 = .ok (.aload_n 2, 1) := by decide +kernel
theorem dX2_glance_36 : decode cX2_glance 36 = .ok (.invokevirtual 48, 3) := by decide +kernel
theorem dX2_glance_39 : decode cX2_glance 39 = .ok (.bipush 100, 2) := by decide +kernel
theorem dX2_glance_41 : decode cX2_glance 41 = .ok (.ireturn, 1) := by decide +kernel
theorem dX2_glance_42 : decode cX2_glance 42 = .ok (.aload_n 2, 1) := by decide +kernel
theorem dX2_glance_43 : decode cX2_glance 43 = .ok (.invokevirtual 51, 3) := by decide +kernel
theorem dX2_glance_46 : decode cX2_glance 46 = .ok (.aload_n 0, 1) := by decide +kernel
theorem dX2_glance_47 : decode cX2_glance 47 = .ok (.getfield 12, 3) := by decide +kernel
theorem dX2_glance_50 : decode cX2_glance 50 = .ok (.aload_n 2, 1) := by decide +kernel
theorem dX2_glance_51 : decode cX2_glance 51 = .ok (.getfield 54, 3) := by decide +kernel
theorem dX2_glance_54 : decode cX2_glance 54 = .ok (.invokevirtual 58, 3) := by decide +kernel
theorem dX2_glance_57 : decode cX2_glance 57 = .ok (.iconst (-1), 1) := by decide +kernel
theorem dX2_glance_58 : decode cX2_glance 58 = .ok (.if_icmp .ne 13, 3) := by decide +kernel
theorem dX2_glance_61 : decode cX2_glance 61 = .ok (.aload_n 0, 1) := by decide +kernel
theorem dX2_glance_62 : decode cX2_glance 62 = .ok (.dup, 1) := by decide +kernel
theorem dX2_glance_63 : decode cX2_glance 63 = .ok (.getfield 62, 3) := by decide +kernel
theorem dX2_glance_66 : decode cX2_glance 66 = .ok (.iconst 1, 1) := by decide +kernel
theorem dX2_glance_67 : decode cX2_glance 67 = .ok (.iadd, 1) := by decide +kernel
theorem dX2_glance_68 : decode cX2_glance 68 = .ok (.putfield 62, 3) := by decide +kernel
theorem dX2_glance_71 : decode cX2_glance 71 = .ok (.bipush 101, 2) := by decide +kernel
theorem dX2_glance_73 : decode cX2_glance 73 = .ok (.ireturn, 1) := by decide +kernel
set_option maxRecDepth 20000 in
theorem ggX2_outcome_X1_hasGivenUp : GoodIn wsX2_outcome wsX1_hasGivenUp := goodIn_r _ [8, 9, 10, 11, 28, 29, 30, 31, 32, 33, 34, 35, 36, 37] (by decide +kernel) (by decide +kernel)
set_option maxRecDepth 20000 in
theorem gX2_outcome_X1_hasGivenUp : GoodIn wsX2_outcome (wsV RX2 33 RX1 yX1_hasGivenUp wsX1_hasGivenUp) := goodIn_app (goodIn_of _ (by decide +kernel)) ggX2_outcome_X1_hasGivenUp
set_option maxRecDepth 20000 in
theorem ggX2_outcome_X1_wouldFail : GoodIn wsX2_outcome wsX1_wouldFail := goodIn_r _ [15, 9, 10, 16, 17, 18, 19, 20, 21, 22, 23, 28, 29, 30, 31, 32, 33, 34, 35, 36, 37, 38, 39, 40, 41, 42] (by decide +kernel) (by decide +kernel)
set_option maxRecDepth 20000 in
theorem gX2_outcome_X1_wouldFail : GoodIn wsX2_outcome (wsV RX2 44 RX1 yX1_wouldFail wsX1_wouldFail) := goodIn_app (goodIn_of _ (by decide +kernel)) ggX2_outcome_X1_wouldFail
theorem dX2_outcome_0 : decode cX2_outcome 0 = .ok (.aload_n 0, 1) := by decide +kernel
theorem dX2_outcome_1 : decode cX2_outcome 1 = .ok (.getfield 20, 3) := by decide +kernel
theorem dX2_outcome_4 : decode cX2_outcome 4 = .ok (.iload_n 1, 1) := by decide +kernel
theorem dX2_outcome_5 : decode cX2_outcome 5 = .ok (.aaload, 1) := by decide +kernel
theorem dX2_outcome_6 : decode cX2_outcome 6 = .ok (.astore_n 2, 1) := by decide +kernel
theorem dX2_outcome_7 : decode cX2_outcome 7 = .ok (.aload_n 2, 1) := by decide +kernel
theorem dX2_outcome_8 : decode cX2_outcome 8 = .ok (.aload_n 0, 1) := by decide +kernel
theorem dX2_outcome_9 : decode cX2_outcome 9 = .ok (.getfield 24, 3) := by decide +kernel
theorem dX2_outcome_12 : decode cX2_outcome 12 = .ok (.invokevirtual 33, 3) := by decide +kernel
theorem dX2_outcome_15 : decode cX2_outcome 15 = .ok (.ifCond .eq 5, 3) := by decide +kernel
theorem dX2_outcome_18 : decode cX2_outcome 18 = .ok (.iconst (-1), 1) := by decide +kernel
theorem dX2_outcome_19 : decode cX2_outcome 19 = .ok (.ireturn, 1) := by decide +kernel
theorem dX2_outcome_20 : decode cX2_outcome 20 = .ok (.aload_n 2, 1) := by decide +kernel
theorem dX2_outcome_21 : decode cX2_outcome 21 = .ok (.aload_n 0, 1) := by decide +kernel
theorem dX2_outcome_22 : decode cX2_outcome 22 = .ok (.getfield 12, 3) := by decide +kernel
theorem dX2_outcome_25 : decode cX2_outcome 25 = .ok (.invokevirtual 44, 3) := by decide +kernel
theorem dX2_outcome_28 : decode cX2_outcome 28 = .ok (.ifCond .eq 7, 3) := by decide +kernel
theorem dX2_outcome_31 : decode cX2_outcome 31 = .ok (.iconst 0, 1) := by decide +kernel
theorem dX2_outcome_32 : decode cX2_outcome 32 = .ok (.goto 4, 3) := by decide +kernel
theorem dX2_outcome_35 : decode cX2_outcome 35 = .ok (.iconst 1, 1) := by decide +kernel
theorem dX2_outcome_36 : decode cX2_outcome 36 = .ok (.ireturn, 1) := by decide +kernel
theorem dX2_reading_0 : decode cX2_reading 0 = .ok (.iconst 0, 1) := by decide +kernel
theorem dX2_reading_1 : decode cX2_reading 1 = .ok (.istore_n 1, 1) := by decide +kernel
theorem dX2_reading_2 : decode cX2_reading 2 = .ok (.iconst 0, 1) := by decide +kernel
theorem dX2_reading_3 : decode cX2_reading 3 = .ok (.istore_n 2, 1) := by decide +kernel
theorem dX2_reading_4 : decode cX2_reading 4 = .ok (.iload_n 2, 1) := by decide +kernel
theorem dX2_reading_5 : decode cX2_reading 5 = .ok (.iconst 4, 1) := by decide +kernel
theorem dX2_reading_6 : decode cX2_reading 6 = .ok (.if_icmp .ge 29, 3) := by decide +kernel
theorem dX2_reading_9 : decode cX2_reading 9 = .ok (.iload_n 1, 1) := by decide +kernel
theorem dX2_reading_10 : decode cX2_reading 10 = .ok (.aload_n 0, 1) := by decide +kernel
theorem dX2_reading_11 : decode cX2_reading 11 = .ok (.getfield 20, 3) := by decide +kernel
theorem dX2_reading_14 : decode cX2_reading 14 = .ok (.iload_n 2, 1) := by decide +kernel
theorem dX2_reading_15 : decode cX2_reading 15 = .ok (.aaload, 1) := by decide +kernel
theorem dX2_reading_16 : decode cX2_reading 16 = .ok (.getfield 29, 3) := by decide +kernel
theorem dX2_reading_19 : decode cX2_reading 19 = .ok (.ifCond .eq 7, 3) := by decide +kernel
theorem dX2_reading_22 : decode cX2_reading 22 = .ok (.iconst 1, 1) := by decide +kernel
theorem dX2_reading_23 : decode cX2_reading 23 = .ok (.goto 4, 3) := by decide +kernel
theorem dX2_reading_26 : decode cX2_reading 26 = .ok (.iconst 0, 1) := by decide +kernel
theorem dX2_reading_27 : decode cX2_reading 27 = .ok (.iadd, 1) := by decide +kernel
theorem dX2_reading_28 : decode cX2_reading 28 = .ok (.istore_n 1, 1) := by decide +kernel
theorem dX2_reading_29 : decode cX2_reading 29 = .ok (.iinc 2 1, 3) := by decide +kernel
theorem dX2_reading_32 : decode cX2_reading 32 = .ok (.goto (-28), 3) := by decide +kernel
theorem dX2_reading_35 : decode cX2_reading 35 = .ok (.iload_n 1, 1) := by decide +kernel
theorem dX2_reading_36 : decode cX2_reading 36 = .ok (.ireturn, 1) := by decide +kernel
theorem dX2_failedOfAll_0 : decode cX2_failedOfAll 0 = .ok (.iconst 0, 1) := by decide +kernel
theorem dX2_failedOfAll_1 : decode cX2_failedOfAll 1 = .ok (.istore_n 1, 1) := by decide +kernel
theorem dX2_failedOfAll_2 : decode cX2_failedOfAll 2 = .ok (.iconst 0, 1) := by decide +kernel
theorem dX2_failedOfAll_3 : decode cX2_failedOfAll 3 = .ok (.istore_n 2, 1) := by decide +kernel
theorem dX2_failedOfAll_4 : decode cX2_failedOfAll 4 = .ok (.iload_n 2, 1) := by decide +kernel
theorem dX2_failedOfAll_5 : decode cX2_failedOfAll 5 = .ok (.iconst 4, 1) := by decide +kernel
theorem dX2_failedOfAll_6 : decode cX2_failedOfAll 6 = .ok (.if_icmp .ge 21, 3) := by decide +kernel
theorem dX2_failedOfAll_9 : decode cX2_failedOfAll 9 = .ok (.iload_n 1, 1) := by decide +kernel
theorem dX2_failedOfAll_10 : decode cX2_failedOfAll 10 = .ok (.aload_n 0, 1) := by decide +kernel
theorem dX2_failedOfAll_11 : decode cX2_failedOfAll 11 = .ok (.getfield 20, 3) := by decide +kernel
theorem dX2_failedOfAll_14 : decode cX2_failedOfAll 14 = .ok (.iload_n 2, 1) := by decide +kernel
theorem dX2_failedOfAll_15 : decode cX2_failedOfAll 15 = .ok (.aaload, 1) := by decide +kernel
theorem dX2_failedOfAll_16 : decode cX2_failedOfAll 16 = .ok (.getfield 78, 3) := by decide +kernel
theorem dX2_failedOfAll_19 : decode cX2_failedOfAll 19 = .ok (.iadd, 1) := by decide +kernel
theorem dX2_failedOfAll_20 : decode cX2_failedOfAll 20 = .ok (.istore_n 1, 1) := by decide +kernel
theorem dX2_failedOfAll_21 : decode cX2_failedOfAll 21 = .ok (.iinc 2 1, 3) := by decide +kernel
theorem dX2_failedOfAll_24 : decode cX2_failedOfAll 24 = .ok (.goto (-20), 3) := by decide +kernel
theorem dX2_failedOfAll_27 : decode cX2_failedOfAll 27 = .ok (.iload_n 1, 1) := by decide +kernel
theorem dX2_failedOfAll_28 : decode cX2_failedOfAll 28 = .ok (.ireturn, 1) := by decide +kernel
theorem dX2_wellOfAll_0 : decode cX2_wellOfAll 0 = .ok (.iconst 0, 1) := by decide +kernel
theorem dX2_wellOfAll_1 : decode cX2_wellOfAll 1 = .ok (.istore_n 1, 1) := by decide +kernel
theorem dX2_wellOfAll_2 : decode cX2_wellOfAll 2 = .ok (.iconst 0, 1) := by decide +kernel
theorem dX2_wellOfAll_3 : decode cX2_wellOfAll 3 = .ok (.istore_n 2, 1) := by decide +kernel
theorem dX2_wellOfAll_4 : decode cX2_wellOfAll 4 = .ok (.iload_n 2, 1) := by decide +kernel
theorem dX2_wellOfAll_5 : decode cX2_wellOfAll 5 = .ok (.iconst 4, 1) := by decide +kernel
theorem dX2_wellOfAll_6 : decode cX2_wellOfAll 6 = .ok (.if_icmp .ge 21, 3) := by decide +kernel
theorem dX2_wellOfAll_9 : decode cX2_wellOfAll 9 = .ok (.iload_n 1, 1) := by decide +kernel
theorem dX2_wellOfAll_10 : decode cX2_wellOfAll 10 = .ok (.aload_n 0, 1) := by decide +kernel
theorem dX2_wellOfAll_11 : decode cX2_wellOfAll 11 = .ok (.getfield 20, 3) := by decide +kernel
theorem dX2_wellOfAll_14 : decode cX2_wellOfAll 14 = .ok (.iload_n 2, 1) := by decide +kernel
theorem dX2_wellOfAll_15 : decode cX2_wellOfAll 15 = .ok (.aaload, 1) := by decide +kernel
theorem dX2_wellOfAll_16 : decode cX2_wellOfAll 16 = .ok (.getfield 81, 3) := by decide +kernel
theorem dX2_wellOfAll_19 : decode cX2_wellOfAll 19 = .ok (.iadd, 1) := by decide +kernel
theorem dX2_wellOfAll_20 : decode cX2_wellOfAll 20 = .ok (.istore_n 1, 1) := by decide +kernel
theorem dX2_wellOfAll_21 : decode cX2_wellOfAll 21 = .ok (.iinc 2 1, 3) := by decide +kernel
theorem dX2_wellOfAll_24 : decode cX2_wellOfAll 24 = .ok (.goto (-20), 3) := by decide +kernel
theorem dX2_wellOfAll_27 : decode cX2_wellOfAll 27 = .ok (.iload_n 1, 1) := by decide +kernel
theorem dX2_wellOfAll_28 : decode cX2_wellOfAll 28 = .ok (.ireturn, 1) := by decide +kernel
set_option maxRecDepth 20000 in
theorem ggX2_copyFrom_X0_copyFrom : GoodIn wsX2_copyFrom wsX0_copyFrom := goodIn_r _ [9, 10, 11, 12, 13, 14, 15, 16, 17, 18, 39, 40, 41, 42, 43] (by decide +kernel) (by decide +kernel)
set_option maxRecDepth 20000 in
theorem gX2_copyFrom_X0_copyFrom : GoodIn wsX2_copyFrom (wsV RX2 84 RX0 yX0_copyFrom wsX0_copyFrom) := goodIn_app (goodIn_of _ (by decide +kernel)) ggX2_copyFrom_X0_copyFrom
set_option maxRecDepth 20000 in
theorem ggX2_copyFrom_X1_copyFrom : GoodIn wsX2_copyFrom wsX1_copyFrom := goodIn_r _ [23, 24, 25, 26, 27, 28, 29, 30, 31, 32, 33, 13, 14, 15, 34, 44, 45, 46, 47, 48, 49, 50, 51, 52, 53] (by decide +kernel) (by decide +kernel)
set_option maxRecDepth 20000 in
theorem gX2_copyFrom_X1_copyFrom : GoodIn wsX2_copyFrom (wsV RX2 88 RX1 yX1_copyFrom wsX1_copyFrom) := goodIn_app (goodIn_of _ (by decide +kernel)) ggX2_copyFrom_X1_copyFrom
theorem dX2_copyFrom_0 : decode cX2_copyFrom 0 = .ok (.aload_n 0, 1) := by decide +kernel
theorem dX2_copyFrom_1 : decode cX2_copyFrom 1 = .ok (.getfield 12, 3) := by decide +kernel
theorem dX2_copyFrom_4 : decode cX2_copyFrom 4 = .ok (.aload_n 1, 1) := by decide +kernel
theorem dX2_copyFrom_5 : decode cX2_copyFrom 5 = .ok (.getfield 12, 3) := by decide +kernel
theorem dX2_copyFrom_8 : decode cX2_copyFrom 8 = .ok (.invokevirtual 84, 3) := by decide +kernel
theorem dX2_copyFrom_11 : decode cX2_copyFrom 11 = .ok (.iconst 0, 1) := by decide +kernel
theorem dX2_copyFrom_12 : decode cX2_copyFrom 12 = .ok (.istore_n 2, 1) := by decide +kernel
theorem dX2_copyFrom_13 : decode cX2_copyFrom 13 = .ok (.iload_n 2, 1) := by decide +kernel
theorem dX2_copyFrom_14 : decode cX2_copyFrom 14 = .ok (.iconst 4, 1) := by decide +kernel
theorem dX2_copyFrom_15 : decode cX2_copyFrom 15 = .ok (.if_icmp .ge 24, 3) := by decide +kernel
theorem dX2_copyFrom_18 : decode cX2_copyFrom 18 = .ok (.aload_n 0, 1) := by decide +kernel
theorem dX2_copyFrom_19 : decode cX2_copyFrom 19 = .ok (.getfield 20, 3) := by decide +kernel
theorem dX2_copyFrom_22 : decode cX2_copyFrom 22 = .ok (.iload_n 2, 1) := by decide +kernel
theorem dX2_copyFrom_23 : decode cX2_copyFrom 23 = .ok (.aaload, 1) := by decide +kernel
theorem dX2_copyFrom_24 : decode cX2_copyFrom 24 = .ok (.aload_n 1, 1) := by decide +kernel
theorem dX2_copyFrom_25 : decode cX2_copyFrom 25 = .ok (.getfield 20, 3) := by decide +kernel
theorem dX2_copyFrom_28 : decode cX2_copyFrom 28 = .ok (.iload_n 2, 1) := by decide +kernel
theorem dX2_copyFrom_29 : decode cX2_copyFrom 29 = .ok (.aaload, 1) := by decide +kernel
theorem dX2_copyFrom_30 : decode cX2_copyFrom 30 = .ok (.invokevirtual 88, 3) := by decide +kernel
theorem dX2_copyFrom_33 : decode cX2_copyFrom 33 = .ok (.iinc 2 1, 3) := by decide +kernel
theorem dX2_copyFrom_36 : decode cX2_copyFrom 36 = .ok (.goto (-23), 3) := by decide +kernel
theorem dX2_copyFrom_39 : decode cX2_copyFrom 39 = .ok (.aload_n 0, 1) := by decide +kernel
theorem dX2_copyFrom_40 : decode cX2_copyFrom 40 = .ok (.aload_n 1, 1) := by decide +kernel
theorem dX2_copyFrom_41 : decode cX2_copyFrom 41 = .ok (.getfield 62, 3) := by decide +kernel
theorem dX2_copyFrom_44 : decode cX2_copyFrom 44 = .ok (.putfield 62, 3) := by decide +kernel
theorem dX2_copyFrom_47 : decode cX2_copyFrom 47 = .ok (.aload_n 0, 1) := by decide +kernel
theorem dX2_copyFrom_48 : decode cX2_copyFrom 48 = .ok (.aload_n 1, 1) := by decide +kernel
theorem dX2_copyFrom_49 : decode cX2_copyFrom 49 = .ok (.getfield 24, 3) := by decide +kernel
theorem dX2_copyFrom_52 : decode cX2_copyFrom 52 = .ok (.putfield 24, 3) := by decide +kernel
theorem dX2_copyFrom_55 : decode cX2_copyFrom 55 = .ok (.return_, 1) := by decide +kernel
theorem dX3_init_0 : decode cX3_init 0 = .ok (.aload_n 0, 1) := by decide +kernel
theorem dX3_init_1 : decode cX3_init 1 = .ok (.invokespecial 3, 3) := by decide +kernel
theorem dX3_init_4 : decode cX3_init 4 = .ok (.aload_n 0, 1) := by decide +kernel
theorem dX3_init_5 : decode cX3_init 5 = .ok (.iconst 0, 1) := by decide +kernel
theorem dX3_init_6 : decode cX3_init 6 = .ok (.putfield 11, 3) := by decide +kernel
theorem dX3_init_9 : decode cX3_init 9 = .ok (.aload_n 0, 1) := by decide +kernel
theorem dX3_init_10 : decode cX3_init 10 = .ok (.bipush 60, 2) := by decide +kernel
theorem dX3_init_12 : decode cX3_init 12 = .ok (.newarray .int, 2) := by decide +kernel
theorem dX3_init_14 : decode cX3_init 14 = .ok (.putfield 15, 3) := by decide +kernel
theorem dX3_init_17 : decode cX3_init 17 = .ok (.return_, 1) := by decide +kernel
set_option maxRecDepth 20000 in
theorem ggX4_init_X2_init : GoodIn wsX4_init wsX2_init := goodIn_r _ [17, 18, 2, 3, 19, 20, 21, 22, 23, 24, 25, 26, 27, 28, 29, 30, 31, 13, 32, 33, 34, 35, 36, 37, 38, 39, 40, 41, 61, 62, 63, 64, 65, 47, 48, 49, 50, 66, 67, 68, 69, 70, 71, 72, 73, 74, 75] (by decide +kernel) (by decide +kernel)
set_option maxRecDepth 20000 in
theorem gX4_init_X2_init : GoodIn wsX4_init (wsX2_init) := ggX4_init_X2_init
set_option maxRecDepth 20000 in
theorem ggX4_init_X3_init : GoodIn wsX4_init wsX3_init := goodIn_r _ [43, 44, 2, 3, 45, 13, 46, 57, 58, 59, 60] (by decide +kernel) (by decide +kernel)
set_option maxRecDepth 20000 in
theorem gX4_init_X3_init_n22 : GoodIn wsX4_init (wsX3_init) := ggX4_init_X3_init
theorem dX4_init_0 : decode cX4_init 0 = .ok (.aload_n 0, 1) := by decide +kernel
theorem dX4_init_1 : decode cX4_init 1 = .ok (.invokespecial 1, 3) := by decide +kernel
theorem dX4_init_4 : decode cX4_init 4 = .ok (.aload_n 0, 1) := by decide +kernel
theorem dX4_init_5 : decode cX4_init 5 = .ok (.new 7, 3) := by decide +kernel
theorem dX4_init_8 : decode cX4_init 8 = .ok (.dup, 1) := by decide +kernel
theorem dX4_init_9 : decode cX4_init 9 = .ok (.invokespecial 9, 3) := by decide +kernel
theorem dX4_init_12 : decode cX4_init 12 = .ok (.putfield 10, 3) := by decide +kernel
theorem dX4_init_15 : decode cX4_init 15 = .ok (.aload_n 0, 1) := by decide +kernel
theorem dX4_init_16 : decode cX4_init 16 = .ok (.bipush 6, 2) := by decide +kernel
theorem dX4_init_18 : decode cX4_init 18 = .ok (.anewarray 7, 3) := by decide +kernel
theorem dX4_init_21 : decode cX4_init 21 = .ok (.putfield 16, 3) := by decide +kernel
theorem dX4_init_24 : decode cX4_init 24 = .ok (.aload_n 0, 1) := by decide +kernel
theorem dX4_init_25 : decode cX4_init 25 = .ok (.new 20, 3) := by decide +kernel
theorem dX4_init_28 : decode cX4_init 28 = .ok (.dup, 1) := by decide +kernel
theorem dX4_init_29 : decode cX4_init 29 = .ok (.invokespecial 22, 3) := by decide +kernel
theorem dX4_init_32 : decode cX4_init 32 = .ok (.putfield 23, 3) := by decide +kernel
theorem dX4_init_35 : decode cX4_init 35 = .ok (.aload_n 0, 1) := by decide +kernel
theorem dX4_init_36 : decode cX4_init 36 = .ok (.iconst 5, 1) := by decide +kernel
theorem dX4_init_37 : decode cX4_init 37 = .ok (.newarray .int, 2) := by decide +kernel
theorem dX4_init_39 : decode cX4_init 39 = .ok (.putfield 27, 3) := by decide +kernel
theorem dX4_init_42 : decode cX4_init 42 = .ok (.iconst 0, 1) := by decide +kernel
theorem dX4_init_43 : decode cX4_init 43 = .ok (.istore_n 1, 1) := by decide +kernel
theorem dX4_init_44 : decode cX4_init 44 = .ok (.iload_n 1, 1) := by decide +kernel
theorem dX4_init_45 : decode cX4_init 45 = .ok (.bipush 6, 2) := by decide +kernel
theorem dX4_init_47 : decode cX4_init 47 = .ok (.if_icmp .ge 22, 3) := by decide +kernel
theorem dX4_init_50 : decode cX4_init 50 = .ok (.aload_n 0, 1) := by decide +kernel
theorem dX4_init_51 : decode cX4_init 51 = .ok (.getfield 16, 3) := by decide +kernel
theorem dX4_init_54 : decode cX4_init 54 = .ok (.iload_n 1, 1) := by decide +kernel
theorem dX4_init_55 : decode cX4_init 55 = .ok (.new 7, 3) := by decide +kernel
theorem dX4_init_58 : decode cX4_init 58 = .ok (.dup, 1) := by decide +kernel
theorem dX4_init_59 : decode cX4_init 59 = .ok (.invokespecial 9, 3) := by decide +kernel
theorem dX4_init_62 : decode cX4_init 62 = .ok (.aastore, 1) := by decide +kernel
theorem dX4_init_63 : decode cX4_init 63 = .ok (.iinc 1 1, 3) := by decide +kernel
theorem dX4_init_66 : decode cX4_init 66 = .ok (.goto (-22), 3) := by decide +kernel
theorem dX4_init_69 : decode cX4_init 69 = .ok (.return_, 1) := by decide +kernel
set_option maxRecDepth 20000 in
theorem ggX4_come_X4_isBelow : GoodIn wsX4_come wsX4_isBelow := goodIn_r _ [10] (by decide +kernel) (by decide +kernel)
set_option maxRecDepth 20000 in
theorem gX4_come_X4_isBelow : GoodIn wsX4_come (va_wsS RX4 31 yX4_isBelow wsX4_isBelow) := goodIn_app (goodIn_of _ (by decide +kernel)) ggX4_come_X4_isBelow
set_option maxRecDepth 20000 in
theorem ggX4_come_X0_isAway : GoodIn wsX4_come wsX0_isAway := goodIn_r _ [15, 16, 84, 85, 86, 87, 88] (by decide +kernel) (by decide +kernel)
set_option maxRecDepth 20000 in
theorem gX4_come_X0_isAway : GoodIn wsX4_come (wsV RX4 46 RX0 yX0_isAway wsX0_isAway) := goodIn_app (goodIn_of _ (by decide +kernel)) ggX4_come_X0_isAway
set_option maxRecDepth 20000 in
theorem ggX4_come_X4_saveState : GoodIn wsX4_come wsX4_saveState := goodIn_r _ [20, 21, 22, 5, 23, 24, 25, 26, 9, 27, 28, 29, 30, 31, 32, 33, 34, 35, 36, 37, 38, 39, 14, 40, 41, 42, 43, 44, 45, 46, 47, 16, 48, 49, 50, 51, 52, 53, 54, 55, 56, 57, 58, 59, 60, 61, 62, 63, 64, 74, 75, 76, 77, 78, 79, 80, 81, 82, 83, 84, 85, 86, 87, 88, 89, 90, 91, 92, 93, 94, 95, 96, 97, 98] (by decide +kernel) (by decide +kernel)
set_option maxRecDepth 20000 in
theorem gX4_come_X4_saveState : GoodIn wsX4_come (wsV RX4 57 RX4 yX4_saveState wsX4_saveState) := goodIn_app (goodIn_of _ (by decide +kernel)) ggX4_come_X4_saveState
set_option maxRecDepth 20000 in
theorem ggX4_come_X0_enter : GoodIn wsX4_come wsX0_enter := goodIn_r _ [68, 16, 41, 69, 70, 71, 14, 72, 73, 12, 13, 15, 84, 85, 86, 87, 88] (by decide +kernel) (by decide +kernel)
set_option maxRecDepth 20000 in
theorem gX4_come_X0_enter : GoodIn wsX4_come (wsV RX4 60 RX0 yX0_enter wsX0_enter) := goodIn_app (goodIn_of _ (by decide +kernel)) ggX4_come_X0_enter
theorem dX4_come_0 : decode cX4_come 0 = .ok (.iload_n 1, 1) := by decide +kernel
theorem dX4_come_1 : decode cX4_come 1 = .ok (.iconst 3, 1) := by decide +kernel
theorem dX4_come_2 : decode cX4_come 2 = .ok (.invokestatic 31, 3) := by decide +kernel
theorem dX4_come_5 : decode cX4_come 5 = .ok (.ifCond .ne 13, 3) := by decide +kernel
theorem dX4_come_8 : decode cX4_come 8 = .ok (.new 35, 3) := by decide +kernel
theorem dX4_come_11 : decode cX4_come 11 = .ok (.dup, 1) := by decide +kernel
theorem dX4_come_12 : decode cX4_come 12 = .ok (.ldc 37, 2) := by decide +kernel
theorem dX4_come_14 : decode cX4_come 14 = .ok (.invokespecial 39, 3) := by decide +kernel
theorem dX4_come_17 : decode cX4_come 17 = .ok (.athrow, 1) := by decide +kernel
theorem dX4_come_18 : decode cX4_come 18 = .ok (.aload_n 0, 1) := by decide +kernel
theorem dX4_come_19 : decode cX4_come 19 = .ok (.getfield 10, 3) := by decide +kernel
theorem dX4_come_22 : decode cX4_come 22 = .ok (.getfield 42, 3) := by decide +kernel
theorem dX4_come_25 : decode cX4_come 25 = .ok (.iload_n 1, 1) := by decide +kernel
theorem dX4_come_26 : decode cX4_come 26 = .ok (.invokevirtual 46, 3) := by decide +kernel
theorem dX4_come_29 : decode cX4_come 29 = .ok (.ifCond .ne 13, 3) := by decide +kernel
theorem dX4_come_32 : decode cX4_come 32 = .ok (.new 52, 3) := by decide +kernel
theorem dX4_come_35 : decode cX4_come 35 = .ok (.dup, 1) := by decide +kernel
theorem dX4_come_36 : decode cX4_come 36 = .ok (.ldc 54, 2) := by decide +kernel
theorem dX4_come_38 : decode cX4_come 38 = .ok (.invokespecial 56, 3) := by decide +kernel
theorem dX4_come_41 : decode cX4_come 41 = .ok (.athrow, 1) := by decide +kernel
theorem dX4_come_42 : decode cX4_come 42 = .ok (.aload_n 0, 1) := by decide +kernel
theorem dX4_come_43 : decode cX4_come 43 = .ok (.invokevirtual 57, 3) := by decide +kernel
theorem dX4_come_46 : decode cX4_come 46 = .ok (.aload_n 0, 1) := by decide +kernel
theorem dX4_come_47 : decode cX4_come 47 = .ok (.getfield 10, 3) := by decide +kernel
theorem dX4_come_50 : decode cX4_come 50 = .ok (.getfield 42, 3) := by decide +kernel
theorem dX4_come_53 : decode cX4_come 53 = .ok (.iload_n 1, 1) := by decide +kernel
theorem dX4_come_54 : decode cX4_come 54 = .ok (.invokevirtual 60, 3) := by decide +kernel
theorem dX4_come_57 : decode cX4_come 57 = .ok (.ireturn, 1) := by decide +kernel
set_option maxRecDepth 20000 in
theorem ggX4_chalk_X4_isBelow : GoodIn wsX4_chalk wsX4_isBelow := goodIn_r _ [12] (by decide +kernel) (by decide +kernel)
set_option maxRecDepth 20000 in
theorem gX4_chalk_X4_isBelow : GoodIn wsX4_chalk (va_wsS RX4 31 yX4_isBelow wsX4_isBelow) := goodIn_app (goodIn_of _ (by decide +kernel)) ggX4_chalk_X4_isBelow
set_option maxRecDepth 20000 in
theorem ggX4_chalk_X0_isOdd : GoodIn wsX4_chalk wsX0_isOdd := goodIn_r _ [17, 18, 81, 82, 83, 84, 85] (by decide +kernel) (by decide +kernel)
set_option maxRecDepth 20000 in
theorem gX4_chalk_X0_isOdd : GoodIn wsX4_chalk (wsV RX4 71 RX0 yX0_isOdd wsX0_isOdd) := goodIn_app (goodIn_of _ (by decide +kernel)) ggX4_chalk_X0_isOdd
set_option maxRecDepth 20000 in
theorem ggX4_chalk_X4_saveState : GoodIn wsX4_chalk wsX4_saveState := goodIn_r _ [22, 23, 24, 7, 25, 26, 27, 28, 11, 29, 30, 31, 32, 33, 34, 35, 36, 37, 38, 39, 40, 41, 16, 42, 18, 43, 44, 45, 46, 47, 48, 49, 50, 51, 52, 53, 54, 55, 56, 57, 58, 59, 60, 61, 62, 63, 64, 65, 66, 71, 72, 73, 74, 75, 76, 77, 78, 79, 80, 81, 82, 83, 84, 85, 86, 87, 88, 89, 90, 91, 92, 93, 94, 95] (by decide +kernel) (by decide +kernel)
set_option maxRecDepth 20000 in
theorem gX4_chalk_X4_saveState : GoodIn wsX4_chalk (wsV RX4 57 RX4 yX4_saveState wsX4_saveState) := goodIn_app (goodIn_of _ (by decide +kernel)) ggX4_chalk_X4_saveState
set_option maxRecDepth 20000 in
theorem ggX4_chalk_X0_write : GoodIn wsX4_chalk wsX0_write := goodIn_r _ [70, 43, 81, 82, 83, 84, 85] (by decide +kernel) (by decide +kernel)
set_option maxRecDepth 20000 in
theorem gX4_chalk_X0_write : GoodIn wsX4_chalk (wsV RX4 77 RX0 yX0_write wsX0_write) := goodIn_app (goodIn_of _ (by decide +kernel)) ggX4_chalk_X0_write
