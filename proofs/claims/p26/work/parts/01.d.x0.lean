theorem dX0_init_0 : decode cX0_init 0 = .ok (.aload_n 0, 1) := by decide +kernel
theorem dX0_init_1 : decode cX0_init 1 = .ok (.invokespecial 3, 3) := by decide +kernel
theorem dX0_init_4 : decode cX0_init 4 = .ok (.aload_n 0, 1) := by decide +kernel
theorem dX0_init_5 : decode cX0_init 5 = .ok (.iconst 5, 1) := by decide +kernel
theorem dX0_init_6 : decode cX0_init 6 = .ok (.newarray .int, 2) := by decide +kernel
theorem dX0_init_8 : decode cX0_init 8 = .ok (.putfield 9, 3) := by decide +kernel
theorem dX0_init_11 : decode cX0_init 11 = .ok (.aload_n 0, 1) := by decide +kernel
theorem dX0_init_12 : decode cX0_init 12 = .ok (.iconst 3, 1) := by decide +kernel
theorem dX0_init_13 : decode cX0_init 13 = .ok (.newarray .int, 2) := by decide +kernel
theorem dX0_init_15 : decode cX0_init 15 = .ok (.putfield 15, 3) := by decide +kernel
theorem dX0_init_18 : decode cX0_init 18 = .ok (.aload_n 0, 1) := by decide +kernel
theorem dX0_init_19 : decode cX0_init 19 = .ok (.iconst 3, 1) := by decide +kernel
theorem dX0_init_20 : decode cX0_init 20 = .ok (.newarray .int, 2) := by decide +kernel
theorem dX0_init_22 : decode cX0_init 22 = .ok (.putfield 18, 3) := by decide +kernel
theorem dX0_init_25 : decode cX0_init 25 = .ok (.aload_n 0, 1) := by decide +kernel
theorem dX0_init_26 : decode cX0_init 26 = .ok (.bipush 80, 2) := by decide +kernel
theorem dX0_init_28 : decode cX0_init 28 = .ok (.newarray .int, 2) := by decide +kernel
theorem dX0_init_30 : decode cX0_init 30 = .ok (.putfield 21, 3) := by decide +kernel
theorem dX0_init_33 : decode cX0_init 33 = .ok (.iconst 0, 1) := by decide +kernel
theorem dX0_init_34 : decode cX0_init 34 = .ok (.istore_n 1, 1) := by decide +kernel
theorem dX0_init_35 : decode cX0_init 35 = .ok (.iload_n 1, 1) := by decide +kernel
theorem dX0_init_36 : decode cX0_init 36 = .ok (.iconst 3, 1) := by decide +kernel
theorem dX0_init_37 : decode cX0_init 37 = .ok (.if_icmp .ge 16, 3) := by decide +kernel
theorem dX0_init_40 : decode cX0_init 40 = .ok (.aload_n 0, 1) := by decide +kernel
theorem dX0_init_41 : decode cX0_init 41 = .ok (.getfield 18, 3) := by decide +kernel
theorem dX0_init_44 : decode cX0_init 44 = .ok (.iload_n 1, 1) := by decide +kernel
theorem dX0_init_45 : decode cX0_init 45 = .ok (.iconst (-1), 1) := by decide +kernel
theorem dX0_init_46 : decode cX0_init 46 = .ok (.iastore, 1) := by decide +kernel
theorem dX0_init_47 : decode cX0_init 47 = .ok (.iinc 1 1, 3) := by decide +kernel
theorem dX0_init_50 : decode cX0_init 50 = .ok (.goto (-15), 3) := by decide +kernel
theorem dX0_init_53 : decode cX0_init 53 = .ok (.return_, 1) := by decide +kernel
theorem dX0_isOdd_0 : decode cX0_isOdd 0 = .ok (.aload_n 0, 1) := by decide +kernel
theorem dX0_isOdd_1 : decode cX0_isOdd 1 = .ok (.getfield 24, 3) := by decide +kernel
theorem dX0_isOdd_4 : decode cX0_isOdd 4 = .ok (.iconst 1, 1) := by decide +kernel
theorem dX0_isOdd_5 : decode cX0_isOdd 5 = .ok (.iand, 1) := by decide +kernel
theorem dX0_isOdd_6 : decode cX0_isOdd 6 = .ok (.iconst 1, 1) := by decide +kernel
theorem dX0_isOdd_7 : decode cX0_isOdd 7 = .ok (.if_icmp .ne 7, 3) := by decide +kernel
theorem dX0_isOdd_10 : decode cX0_isOdd 10 = .ok (.iconst 1, 1) := by decide +kernel
theorem dX0_isOdd_11 : decode cX0_isOdd 11 = .ok (.goto 4, 3) := by decide +kernel
theorem dX0_isOdd_14 : decode cX0_isOdd 14 = .ok (.iconst 0, 1) := by decide +kernel
theorem dX0_isOdd_15 : decode cX0_isOdd 15 = .ok (.ireturn, 1) := by decide +kernel
theorem dX0_isAway_0 : decode cX0_isAway 0 = .ok (.aload_n 0, 1) := by decide +kernel
theorem dX0_isAway_1 : decode cX0_isAway 1 = .ok (.getfield 18, 3) := by decide +kernel
theorem dX0_isAway_4 : decode cX0_isAway 4 = .ok (.iload_n 1, 1) := by decide +kernel
theorem dX0_isAway_5 : decode cX0_isAway 5 = .ok (.iaload, 1) := by decide +kernel
theorem dX0_isAway_6 : decode cX0_isAway 6 = .ok (.iconst (-1), 1) := by decide +kernel
theorem dX0_isAway_7 : decode cX0_isAway 7 = .ok (.if_icmp .ne 7, 3) := by decide +kernel
theorem dX0_isAway_10 : decode cX0_isAway 10 = .ok (.iconst 1, 1) := by decide +kernel
theorem dX0_isAway_11 : decode cX0_isAway 11 = .ok (.goto 4, 3) := by decide +kernel
theorem dX0_isAway_14 : decode cX0_isAway 14 = .ok (.iconst 0, 1) := by decide +kernel
theorem dX0_isAway_15 : decode cX0_isAway 15 = .ok (.ireturn, 1) := by decide +kernel
theorem dX0_isChalking_0 : decode cX0_isChalking 0 = .ok (.aload_n 0, 1) := by decide +kernel
theorem dX0_isChalking_1 : decode cX0_isChalking 1 = .ok (.getfield 18, 3) := by decide +kernel
theorem dX0_isChalking_4 : decode cX0_isChalking 4 = .ok (.iload_n 1, 1) := by decide +kernel
theorem dX0_isChalking_5 : decode cX0_isChalking 5 = .ok (.iaload, 1) := by decide +kernel
theorem dX0_isChalking_6 : decode cX0_isChalking 6 = .ok (.ifCond .ne 7, 3) := by decide +kernel
theorem dX0_isChalking_9 : decode cX0_isChalking 9 = .ok (.iconst 1, 1) := by decide +kernel
theorem dX0_isChalking_10 : decode cX0_isChalking 10 = .ok (.goto 4, 3) := by decide +kernel
theorem dX0_isChalking_13 : decode cX0_isChalking 13 = .ok (.iconst 0, 1) := by decide +kernel
theorem dX0_isChalking_14 : decode cX0_isChalking 14 = .ok (.ireturn, 1) := by decide +kernel
set_option maxRecDepth 20000 in
theorem ggX0_doing_X0_isAway : GoodIn wsX0_doing wsX0_isAway := goodIn_r _ [5, 6, 11, 12, 13, 14, 15] (by decide +kernel) (by decide +kernel)
set_option maxRecDepth 20000 in
theorem gX0_doing_X0_isAway : GoodIn wsX0_doing (wsV RX0 28 RX0 yX0_isAway wsX0_isAway) := goodIn_app (goodIn_of _ (by decide +kernel)) ggX0_doing_X0_isAway
set_option maxRecDepth 20000 in
theorem ggX0_doing_X0_isChalking : GoodIn wsX0_doing wsX0_isChalking := goodIn_r _ [10, 6, 11, 12, 13, 14, 15] (by decide +kernel) (by decide +kernel)
set_option maxRecDepth 20000 in
theorem gX0_doing_X0_isChalking : GoodIn wsX0_doing (wsV RX0 32 RX0 yX0_isChalking wsX0_isChalking) := goodIn_app (goodIn_of _ (by decide +kernel)) ggX0_doing_X0_isChalking
theorem dX0_doing_0 : decode cX0_doing 0 = .ok (.aload_n 0, 1) := by decide +kernel
theorem dX0_doing_1 : decode cX0_doing 1 = .ok (.iload_n 1, 1) := by decide +kernel
theorem dX0_doing_2 : decode cX0_doing 2 = .ok (.invokevirtual 28, 3) := by decide +kernel
theorem dX0_doing_5 : decode cX0_doing 5 = .ok (.ifCond .eq 7, 3) := by decide +kernel
theorem dX0_doing_8 : decode cX0_doing 8 = .ok (.iconst 0, 1) := by decide +kernel
theorem dX0_doing_9 : decode cX0_doing 9 = .ok (.goto 16, 3) := by decide +kernel
theorem dX0_doing_12 : decode cX0_doing 12 = .ok (.aload_n 0, 1) := by decide +kernel
theorem dX0_doing_13 : decode cX0_doing 13 = .ok (.iload_n 1, 1) := by decide +kernel
theorem dX0_doing_14 : decode cX0_doing 14 = .ok (.invokevirtual 32, 3) := by decide +kernel
theorem dX0_doing_17 : decode cX0_doing 17 = .ok (.ifCond .eq 7, 3) := by decide +kernel
theorem dX0_doing_20 : decode cX0_doing 20 = .ok (.iconst 1, 1) := by decide +kernel
theorem dX0_doing_21 : decode cX0_doing 21 = .ok (.goto 4, 3) := by decide +kernel
theorem dX0_doing_24 : decode cX0_doing 24 = .ok (.iconst 2, 1) := by decide +kernel
theorem dX0_doing_25 : decode cX0_doing 25 = .ok (.ireturn, 1) := by decide +kernel
theorem dX0_waitingAhead_0 : decode cX0_waitingAhead 0 = .ok (.aload_n 0, 1) := by decide +kernel
theorem dX0_waitingAhead_1 : decode cX0_waitingAhead 1 = .ok (.getfield 18, 3) := by decide +kernel
theorem dX0_waitingAhead_4 : decode cX0_waitingAhead 4 = .ok (.iload_n 1, 1) := by decide +kernel
theorem dX0_waitingAhead_5 : decode cX0_waitingAhead 5 = .ok (.iaload, 1) := by decide +kernel
theorem dX0_waitingAhead_6 : decode cX0_waitingAhead 6 = .ok (.ifCond .le 14, 3) := by decide +kernel
theorem dX0_waitingAhead_9 : decode cX0_waitingAhead 9 = .ok (.aload_n 0, 1) := by decide +kernel
theorem dX0_waitingAhead_10 : decode cX0_waitingAhead 10 = .ok (.getfield 18, 3) := by decide +kernel
theorem dX0_waitingAhead_13 : decode cX0_waitingAhead 13 = .ok (.iload_n 1, 1) := by decide +kernel
theorem dX0_waitingAhead_14 : decode cX0_waitingAhead 14 = .ok (.iaload, 1) := by decide +kernel
theorem dX0_waitingAhead_15 : decode cX0_waitingAhead 15 = .ok (.iconst 1, 1) := by decide +kernel
theorem dX0_waitingAhead_16 : decode cX0_waitingAhead 16 = .ok (.isub, 1) := by decide +kernel
theorem dX0_waitingAhead_17 : decode cX0_waitingAhead 17 = .ok (.goto 4, 3) := by decide +kernel
theorem dX0_waitingAhead_20 : decode cX0_waitingAhead 20 = .ok (.iconst (-1), 1) := by decide +kernel
theorem dX0_waitingAhead_21 : decode cX0_waitingAhead 21 = .ok (.ireturn, 1) := by decide +kernel
set_option maxRecDepth 20000 in
theorem ggX0_inLine_X0_isAway : GoodIn wsX0_inLine wsX0_isAway := goodIn_r _ [5, 6, 7, 8, 9, 10, 11] (by decide +kernel) (by decide +kernel)
set_option maxRecDepth 20000 in
theorem gX0_inLine_X0_isAway : GoodIn wsX0_inLine (wsV RX0 28 RX0 yX0_isAway wsX0_isAway) := goodIn_app (goodIn_of _ (by decide +kernel)) ggX0_inLine_X0_isAway
theorem dX0_inLine_0 : decode cX0_inLine 0 = .ok (.iconst 0, 1) := by decide +kernel
theorem dX0_inLine_1 : decode cX0_inLine 1 = .ok (.istore_n 1, 1) := by decide +kernel
theorem dX0_inLine_2 : decode cX0_inLine 2 = .ok (.iconst 0, 1) := by decide +kernel
theorem dX0_inLine_3 : decode cX0_inLine 3 = .ok (.istore_n 2, 1) := by decide +kernel
theorem dX0_inLine_4 : decode cX0_inLine 4 = .ok (.iload_n 2, 1) := by decide +kernel
theorem dX0_inLine_5 : decode cX0_inLine 5 = .ok (.iconst 3, 1) := by decide +kernel
theorem dX0_inLine_6 : decode cX0_inLine 6 = .ok (.if_icmp .ge 20, 3) := by decide +kernel
theorem dX0_inLine_9 : decode cX0_inLine 9 = .ok (.aload_n 0, 1) := by decide +kernel
theorem dX0_inLine_10 : decode cX0_inLine 10 = .ok (.iload_n 2, 1) := by decide +kernel
theorem dX0_inLine_11 : decode cX0_inLine 11 = .ok (.invokevirtual 28, 3) := by decide +kernel
theorem dX0_inLine_14 : decode cX0_inLine 14 = .ok (.ifCond .ne 6, 3) := by decide +kernel
theorem dX0_inLine_17 : decode cX0_inLine 17 = .ok (.iinc 1 1, 3) := by decide +kernel
theorem dX0_inLine_20 : decode cX0_inLine 20 = .ok (.iinc 2 1, 3) := by decide +kernel
theorem dX0_inLine_23 : decode cX0_inLine 23 = .ok (.goto (-19), 3) := by decide +kernel
theorem dX0_inLine_26 : decode cX0_inLine 26 = .ok (.iload_n 1, 1) := by decide +kernel
theorem dX0_inLine_27 : decode cX0_inLine 27 = .ok (.ireturn, 1) := by decide +kernel
set_option maxRecDepth 20000 in
theorem ggX0_whoChalks_X0_isChalking : GoodIn wsX0_whoChalks wsX0_isChalking := goodIn_r _ [5, 6, 7, 8, 9, 10, 11] (by decide +kernel) (by decide +kernel)
set_option maxRecDepth 20000 in
theorem gX0_whoChalks_X0_isChalking : GoodIn wsX0_whoChalks (wsV RX0 32 RX0 yX0_isChalking wsX0_isChalking) := goodIn_app (goodIn_of _ (by decide +kernel)) ggX0_whoChalks_X0_isChalking
theorem dX0_whoChalks_0 : decode cX0_whoChalks 0 = .ok (.iconst 0, 1) := by decide +kernel
theorem dX0_whoChalks_1 : decode cX0_whoChalks 1 = .ok (.istore_n 1, 1) := by decide +kernel
theorem dX0_whoChalks_2 : decode cX0_whoChalks 2 = .ok (.iload_n 1, 1) := by decide +kernel
theorem dX0_whoChalks_3 : decode cX0_whoChalks 3 = .ok (.iconst 3, 1) := by decide +kernel
theorem dX0_whoChalks_4 : decode cX0_whoChalks 4 = .ok (.if_icmp .ge 19, 3) := by decide +kernel
theorem dX0_whoChalks_7 : decode cX0_whoChalks 7 = .ok (.aload_n 0, 1) := by decide +kernel
theorem dX0_whoChalks_8 : decode cX0_whoChalks 8 = .ok (.iload_n 1, 1) := by decide +kernel
theorem dX0_whoChalks_9 : decode cX0_whoChalks 9 = .ok (.invokevirtual 32, 3) := by decide +kernel
theorem dX0_whoChalks_12 : decode cX0_whoChalks 12 = .ok (.ifCond .eq 5, 3) := by decide +kernel
theorem dX0_whoChalks_15 : decode cX0_whoChalks 15 = .ok (.iload_n 1, 1) := by decide +kernel
theorem dX0_whoChalks_16 : decode cX0_whoChalks 16 = .ok (.ireturn, 1) := by decide +kernel
theorem dX0_whoChalks_17 : decode cX0_whoChalks 17 = .ok (.iinc 1 1, 3) := by decide +kernel
theorem dX0_whoChalks_20 : decode cX0_whoChalks 20 = .ok (.goto (-18), 3) := by decide +kernel
theorem dX0_whoChalks_23 : decode cX0_whoChalks 23 = .ok (.iconst (-1), 1) := by decide +kernel
theorem dX0_whoChalks_24 : decode cX0_whoChalks 24 = .ok (.ireturn, 1) := by decide +kernel
set_option maxRecDepth 20000 in
theorem ggX0_enter_X0_inLine : GoodIn wsX0_enter wsX0_inLine := goodIn_r _ [7, 8, 9, 10, 6, 11, 1, 12, 13, 14, 15, 16] (by decide +kernel) (by decide +kernel)
set_option maxRecDepth 20000 in
theorem gX0_enter_X0_inLine : GoodIn wsX0_enter (wsV RX0 35 RX0 yX0_inLine wsX0_inLine) := goodIn_app (goodIn_of _ (by decide +kernel)) ggX0_enter_X0_inLine
theorem dX0_enter_0 : decode cX0_enter 0 = .ok (.aload_n 0, 1) := by decide +kernel
theorem dX0_enter_1 : decode cX0_enter 1 = .ok (.invokevirtual 35, 3) := by decide +kernel
theorem dX0_enter_4 : decode cX0_enter 4 = .ok (.istore_n 2, 1) := by decide +kernel
theorem dX0_enter_5 : decode cX0_enter 5 = .ok (.aload_n 0, 1) := by decide +kernel
theorem dX0_enter_6 : decode cX0_enter 6 = .ok (.getfield 18, 3) := by decide +kernel
theorem dX0_enter_9 : decode cX0_enter 9 = .ok (.iload_n 1, 1) := by decide +kernel
theorem dX0_enter_10 : decode cX0_enter 10 = .ok (.iload_n 2, 1) := by decide +kernel
theorem dX0_enter_11 : decode cX0_enter 11 = .ok (.iastore, 1) := by decide +kernel
theorem dX0_enter_12 : decode cX0_enter 12 = .ok (.iload_n 2, 1) := by decide +kernel
theorem dX0_enter_13 : decode cX0_enter 13 = .ok (.ifCond .ne 13, 3) := by decide +kernel
theorem dX0_enter_16 : decode cX0_enter 16 = .ok (.aload_n 0, 1) := by decide +kernel
theorem dX0_enter_17 : decode cX0_enter 17 = .ok (.dup, 1) := by decide +kernel
theorem dX0_enter_18 : decode cX0_enter 18 = .ok (.getfield 24, 3) := by decide +kernel
theorem dX0_enter_21 : decode cX0_enter 21 = .ok (.iconst 1, 1) := by decide +kernel
theorem dX0_enter_22 : decode cX0_enter 22 = .ok (.iadd, 1) := by decide +kernel
theorem dX0_enter_23 : decode cX0_enter 23 = .ok (.putfield 24, 3) := by decide +kernel
theorem dX0_enter_26 : decode cX0_enter 26 = .ok (.iload_n 2, 1) := by decide +kernel
theorem dX0_enter_27 : decode cX0_enter 27 = .ok (.ireturn, 1) := by decide +kernel
theorem dX0_write_0 : decode cX0_write 0 = .ok (.aload_n 0, 1) := by decide +kernel
theorem dX0_write_1 : decode cX0_write 1 = .ok (.getfield 9, 3) := by decide +kernel
theorem dX0_write_4 : decode cX0_write 4 = .ok (.iload_n 1, 1) := by decide +kernel
theorem dX0_write_5 : decode cX0_write 5 = .ok (.iaload, 1) := by decide +kernel
theorem dX0_write_6 : decode cX0_write 6 = .ok (.istore_n 3, 1) := by decide +kernel
theorem dX0_write_7 : decode cX0_write 7 = .ok (.aload_n 0, 1) := by decide +kernel
theorem dX0_write_8 : decode cX0_write 8 = .ok (.getfield 9, 3) := by decide +kernel
theorem dX0_write_11 : decode cX0_write 11 = .ok (.iload_n 1, 1) := by decide +kernel
theorem dX0_write_12 : decode cX0_write 12 = .ok (.iload_n 2, 1) := by decide +kernel
theorem dX0_write_13 : decode cX0_write 13 = .ok (.iastore, 1) := by decide +kernel
theorem dX0_write_14 : decode cX0_write 14 = .ok (.iload_n 3, 1) := by decide +kernel
theorem dX0_write_15 : decode cX0_write 15 = .ok (.ireturn, 1) := by decide +kernel
set_option maxRecDepth 20000 in
theorem ggX0_leave_X0_stepForward : GoodIn wsX0_leave wsX0_stepForward := goodIn_r _ [7, 8, 38, 39, 40, 41, 42] (by decide +kernel) (by decide +kernel)
set_option maxRecDepth 20000 in
theorem gX0_leave_X0_stepForward : GoodIn wsX0_leave (wsV RX0 39 RX0 yX0_stepForward wsX0_stepForward) := goodIn_app (goodIn_of _ (by decide +kernel)) ggX0_leave_X0_stepForward
set_option maxRecDepth 20000 in
theorem ggX0_leave_X0_keepFields : GoodIn wsX0_leave wsX0_keepFields := goodIn_r _ [12, 13, 14, 15, 16, 17, 18, 19, 20, 21, 6, 22, 2, 23, 24, 25, 26, 27, 28, 29, 38, 39, 40, 41, 42] (by decide +kernel) (by decide +kernel)
set_option maxRecDepth 20000 in
theorem gX0_leave_X0_keepFields : GoodIn wsX0_leave (wsV RX0 42 RX0 yX0_keepFields wsX0_keepFields) := goodIn_app (goodIn_of _ (by decide +kernel)) ggX0_leave_X0_keepFields
set_option maxRecDepth 20000 in
theorem ggX0_leave_X0_latestWhole : GoodIn wsX0_leave wsX0_latestWhole := goodIn_r _ [22, 2, 38, 39, 40, 41, 42] (by decide +kernel) (by decide +kernel)
set_option maxRecDepth 20000 in
theorem gX0_leave_X0_latestWhole : GoodIn wsX0_leave (wsV RX0 45 RX0 yX0_latestWhole wsX0_latestWhole) := goodIn_app (goodIn_of _ (by decide +kernel)) ggX0_leave_X0_latestWhole
set_option maxRecDepth 20000 in
theorem ggX0_leave_X0_inLine : GoodIn wsX0_leave wsX0_inLine := goodIn_r _ [33, 34, 35, 36, 6, 37, 8, 38, 39, 40, 41, 42] (by decide +kernel) (by decide +kernel)
set_option maxRecDepth 20000 in
theorem gX0_leave_X0_inLine : GoodIn wsX0_leave (wsV RX0 35 RX0 yX0_inLine wsX0_inLine) := goodIn_app (goodIn_of _ (by decide +kernel)) ggX0_leave_X0_inLine
theorem dX0_leave_0 : decode cX0_leave 0 = .ok (.aload_n 0, 1) := by decide +kernel
theorem dX0_leave_1 : decode cX0_leave 1 = .ok (.getfield 15, 3) := by decide +kernel
theorem dX0_leave_4 : decode cX0_leave 4 = .ok (.iload_n 1, 1) := by decide +kernel
theorem dX0_leave_5 : decode cX0_leave 5 = .ok (.dup2, 1) := by decide +kernel
theorem dX0_leave_6 : decode cX0_leave 6 = .ok (.iaload, 1) := by decide +kernel
theorem dX0_leave_7 : decode cX0_leave 7 = .ok (.iconst 1, 1) := by decide +kernel
theorem dX0_leave_8 : decode cX0_leave 8 = .ok (.iadd, 1) := by decide +kernel
theorem dX0_leave_9 : decode cX0_leave 9 = .ok (.iastore, 1) := by decide +kernel
theorem dX0_leave_10 : decode cX0_leave 10 = .ok (.aload_n 0, 1) := by decide +kernel
theorem dX0_leave_11 : decode cX0_leave 11 = .ok (.invokevirtual 39, 3) := by decide +kernel
theorem dX0_leave_14 : decode cX0_leave 14 = .ok (.aload_n 0, 1) := by decide +kernel
theorem dX0_leave_15 : decode cX0_leave 15 = .ok (.dup, 1) := by decide +kernel
theorem dX0_leave_16 : decode cX0_leave 16 = .ok (.getfield 24, 3) := by decide +kernel
theorem dX0_leave_19 : decode cX0_leave 19 = .ok (.iconst 1, 1) := by decide +kernel
theorem dX0_leave_20 : decode cX0_leave 20 = .ok (.iadd, 1) := by decide +kernel
theorem dX0_leave_21 : decode cX0_leave 21 = .ok (.putfield 24, 3) := by decide +kernel
theorem dX0_leave_24 : decode cX0_leave 24 = .ok (.aload_n 0, 1) := by decide +kernel
theorem dX0_leave_25 : decode cX0_leave 25 = .ok (.invokevirtual 42, 3) := by decide +kernel
theorem dX0_leave_28 : decode cX0_leave 28 = .ok (.aload_n 0, 1) := by decide +kernel
theorem dX0_leave_29 : decode cX0_leave 29 = .ok (.invokevirtual 45, 3) := by decide +kernel
theorem dX0_leave_32 : decode cX0_leave 32 = .ok (.istore_n 2, 1) := by decide +kernel
theorem dX0_leave_33 : decode cX0_leave 33 = .ok (.aload_n 0, 1) := by decide +kernel
theorem dX0_leave_34 : decode cX0_leave 34 = .ok (.invokevirtual 35, 3) := by decide +kernel
theorem dX0_leave_37 : decode cX0_leave 37 = .ok (.ifCond .le 13, 3) := by decide +kernel
theorem dX0_leave_40 : decode cX0_leave 40 = .ok (.aload_n 0, 1) := by decide +kernel
theorem dX0_leave_41 : decode cX0_leave 41 = .ok (.dup, 1) := by decide +kernel
theorem dX0_leave_42 : decode cX0_leave 42 = .ok (.getfield 24, 3) := by decide +kernel
theorem dX0_leave_45 : decode cX0_leave 45 = .ok (.iconst 1, 1) := by decide +kernel
theorem dX0_leave_46 : decode cX0_leave 46 = .ok (.iadd, 1) := by decide +kernel
theorem dX0_leave_47 : decode cX0_leave 47 = .ok (.putfield 24, 3) := by decide +kernel
theorem dX0_leave_50 : decode cX0_leave 50 = .ok (.iload_n 2, 1) := by decide +kernel
theorem dX0_leave_51 : decode cX0_leave 51 = .ok (.ireturn, 1) := by decide +kernel
theorem dX0_stepForward_0 : decode cX0_stepForward 0 = .ok (.iconst 0, 1) := by decide +kernel
theorem dX0_stepForward_1 : decode cX0_stepForward 1 = .ok (.istore_n 1, 1) := by decide +kernel
theorem dX0_stepForward_2 : decode cX0_stepForward 2 = .ok (.iload_n 1, 1) := by decide +kernel
theorem dX0_stepForward_3 : decode cX0_stepForward 3 = .ok (.iconst 3, 1) := by decide +kernel
theorem dX0_stepForward_4 : decode cX0_stepForward 4 = .ok (.if_icmp .ge 38, 3) := by decide +kernel
theorem dX0_stepForward_7 : decode cX0_stepForward 7 = .ok (.aload_n 0, 1) := by decide +kernel
theorem dX0_stepForward_8 : decode cX0_stepForward 8 = .ok (.getfield 18, 3) := by decide +kernel
theorem dX0_stepForward_11 : decode cX0_stepForward 11 = .ok (.iload_n 1, 1) := by decide +kernel
theorem dX0_stepForward_12 : decode cX0_stepForward 12 = .ok (.iaload, 1) := by decide +kernel
theorem dX0_stepForward_13 : decode cX0_stepForward 13 = .ok (.ifCond .le 16, 3) := by decide +kernel
theorem dX0_stepForward_16 : decode cX0_stepForward 16 = .ok (.aload_n 0, 1) := by decide +kernel
theorem dX0_stepForward_17 : decode cX0_stepForward 17 = .ok (.getfield 18, 3) := by decide +kernel
theorem dX0_stepForward_20 : decode cX0_stepForward 20 = .ok (.iload_n 1, 1) := by decide +kernel
theorem dX0_stepForward_21 : decode cX0_stepForward 21 = .ok (.dup2, 1) := by decide +kernel
theorem dX0_stepForward_22 : decode cX0_stepForward 22 = .ok (.iaload, 1) := by decide +kernel
theorem dX0_stepForward_23 : decode cX0_stepForward 23 = .ok (.iconst 1, 1) := by decide +kernel
theorem dX0_stepForward_24 : decode cX0_stepForward 24 = .ok (.isub, 1) := by decide +kernel
theorem dX0_stepForward_25 : decode cX0_stepForward 25 = .ok (.iastore, 1) := by decide +kernel
theorem dX0_stepForward_26 : decode cX0_stepForward 26 = .ok (.goto 10, 3) := by decide +kernel
theorem dX0_stepForward_29 : decode cX0_stepForward 29 = .ok (.aload_n 0, 1) := by decide +kernel
theorem dX0_stepForward_30 : decode cX0_stepForward 30 = .ok (.getfield 18, 3) := by decide +kernel
theorem dX0_stepForward_33 : decode cX0_stepForward 33 = .ok (.iload_n 1, 1) := by decide +kernel
theorem dX0_stepForward_34 : decode cX0_stepForward 34 = .ok (.iconst (-1), 1) := by decide +kernel
theorem dX0_stepForward_35 : decode cX0_stepForward 35 = .ok (.iastore, 1) := by decide +kernel
theorem dX0_stepForward_36 : decode cX0_stepForward 36 = .ok (.iinc 1 1, 3) := by decide +kernel
theorem dX0_stepForward_39 : decode cX0_stepForward 39 = .ok (.goto (-37), 3) := by decide +kernel
theorem dX0_stepForward_42 : decode cX0_stepForward 42 = .ok (.return_, 1) := by decide +kernel
set_option maxRecDepth 20000 in
theorem ggX0_keepFields_X0_latestWhole : GoodIn wsX0_keepFields wsX0_latestWhole := goodIn_r _ [11, 12, 20, 21, 22, 23, 24] (by decide +kernel) (by decide +kernel)
set_option maxRecDepth 20000 in
theorem gX0_keepFields_X0_latestWhole : GoodIn wsX0_keepFields (wsV RX0 45 RX0 yX0_latestWhole wsX0_latestWhole) := goodIn_app (goodIn_of _ (by decide +kernel)) ggX0_keepFields_X0_latestWhole
set_option maxRecDepth 20000 in
theorem ggX0_keepFields_X0_keptAt : GoodIn wsX0_keepFields wsX0_keptAt := goodIn_r _ [15, 16, 17, 18, 19] (by decide +kernel) (by decide +kernel)
set_option maxRecDepth 20000 in
theorem gX0_keepFields_X0_keptAt : GoodIn wsX0_keepFields (va_wsS RX0 48 yX0_keptAt wsX0_keptAt) := goodIn_app (goodIn_of _ (by decide +kernel)) ggX0_keepFields_X0_keptAt
theorem dX0_keepFields_0 : decode cX0_keepFields 0 = .ok (.aload_n 0, 1) := by decide +kernel
theorem dX0_keepFields_1 : decode cX0_keepFields 1 = .ok (.getfield 9, 3) := by decide +kernel
theorem dX0_keepFields_4 : decode cX0_keepFields 4 = .ok (.iconst 0, 1) := by decide +kernel
theorem dX0_keepFields_5 : decode cX0_keepFields 5 = .ok (.aload_n 0, 1) := by decide +kernel
theorem dX0_keepFields_6 : decode cX0_keepFields 6 = .ok (.getfield 21, 3) := by decide +kernel
theorem dX0_keepFields_9 : decode cX0_keepFields 9 = .ok (.aload_n 0, 1) := by decide +kernel
theorem dX0_keepFields_10 : decode cX0_keepFields 10 = .ok (.invokevirtual 45, 3) := by decide +kernel
theorem dX0_keepFields_13 : decode cX0_keepFields 13 = .ok (.invokestatic 48, 3) := by decide +kernel
theorem dX0_keepFields_16 : decode cX0_keepFields 16 = .ok (.iconst 5, 1) := by decide +kernel
theorem dX0_keepFields_17 : decode cX0_keepFields 17 = .ok (.invokestatic 52, 3) := by decide +kernel
theorem dX0_keepFields_20 : decode cX0_keepFields 20 = .ok (.return_, 1) := by decide +kernel
set_option maxRecDepth 20000 in
theorem ggX0_keptAt_J9_floorMod_7cf53 : GoodIn wsX0_keptAt wsJ9_floorMod_7cf53 := goodIn_r _ [4] (by decide +kernel) (by decide +kernel)
set_option maxRecDepth 20000 in
theorem gX0_keptAt_J9_floorMod_7cf53 : GoodIn wsX0_keptAt (va_wsS RX0 58 yJ9_floorMod_7cf53 wsJ9_floorMod_7cf53) := goodIn_app (goodIn_of _ (by decide +kernel)) ggX0_keptAt_J9_floorMod_7cf53
theorem dX0_keptAt_0 : decode cX0_keptAt 0 = .ok (.iload_n 0, 1) := by decide +kernel
theorem dX0_keptAt_1 : decode cX0_keptAt 1 = .ok (.bipush 16, 2) := by decide +kernel
theorem dX0_keptAt_3 : decode cX0_keptAt 3 = .ok (.invokestatic 58, 3) := by decide +kernel
theorem dX0_keptAt_6 : decode cX0_keptAt 6 = .ok (.iconst 5, 1) := by decide +kernel
theorem dX0_keptAt_7 : decode cX0_keptAt 7 = .ok (.imul, 1) := by decide +kernel
theorem dX0_keptAt_8 : decode cX0_keptAt 8 = .ok (.ireturn, 1) := by decide +kernel
theorem dX0_latestWhole_0 : decode cX0_latestWhole 0 = .ok (.aload_n 0, 1) := by decide +kernel
theorem dX0_latestWhole_1 : decode cX0_latestWhole 1 = .ok (.getfield 24, 3) := by decide +kernel
theorem dX0_latestWhole_4 : decode cX0_latestWhole 4 = .ok (.iconst 2, 1) := by decide +kernel
theorem dX0_latestWhole_5 : decode cX0_latestWhole 5 = .ok (.idiv, 1) := by decide +kernel
theorem dX0_latestWhole_6 : decode cX0_latestWhole 6 = .ok (.ireturn, 1) := by decide +kernel
set_option maxRecDepth 20000 in
theorem ggX0_oldestKept_X0_latestWhole : GoodIn wsX0_oldestKept wsX0_latestWhole := goodIn_r _ [9, 10, 11, 12, 13, 14, 15] (by decide +kernel) (by decide +kernel)
set_option maxRecDepth 20000 in
theorem gX0_oldestKept_X0_latestWhole : GoodIn wsX0_oldestKept (wsV RX0 45 RX0 yX0_latestWhole wsX0_latestWhole) := goodIn_app (goodIn_of _ (by decide +kernel)) ggX0_oldestKept_X0_latestWhole
theorem dX0_oldestKept_0 : decode cX0_oldestKept 0 = .ok (.iconst 0, 1) := by decide +kernel
theorem dX0_oldestKept_1 : decode cX0_oldestKept 1 = .ok (.aload_n 0, 1) := by decide +kernel
theorem dX0_oldestKept_2 : decode cX0_oldestKept 2 = .ok (.invokevirtual 45, 3) := by decide +kernel
theorem dX0_oldestKept_5 : decode cX0_oldestKept 5 = .ok (.bipush 16, 2) := by decide +kernel
theorem dX0_oldestKept_7 : decode cX0_oldestKept 7 = .ok (.isub, 1) := by decide +kernel
theorem dX0_oldestKept_8 : decode cX0_oldestKept 8 = .ok (.iconst 1, 1) := by decide +kernel
theorem dX0_oldestKept_9 : decode cX0_oldestKept 9 = .ok (.iadd, 1) := by decide +kernel
theorem dX0_oldestKept_10 : decode cX0_oldestKept 10 = .ok (.invokestatic 64, 3) := by decide +kernel
theorem dX0_oldestKept_13 : decode cX0_oldestKept 13 = .ok (.ireturn, 1) := by decide +kernel
set_option maxRecDepth 20000 in
theorem ggX0_keptValue_X0_oldestKept : GoodIn wsX0_keptValue wsX0_oldestKept := goodIn_r _ [6, 7, 8, 9, 10, 11, 12, 13, 5, 14, 15, 23, 24, 25, 26, 27] (by decide +kernel) (by decide +kernel)
set_option maxRecDepth 20000 in
theorem gX0_keptValue_X0_oldestKept : GoodIn wsX0_keptValue (wsV RX0 67 RX0 yX0_oldestKept wsX0_oldestKept) := goodIn_app (goodIn_of _ (by decide +kernel)) ggX0_keptValue_X0_oldestKept
set_option maxRecDepth 20000 in
theorem ggX0_keptValue_X0_latestWhole : GoodIn wsX0_keptValue wsX0_latestWhole := goodIn_r _ [14, 15, 23, 24, 25, 26, 27] (by decide +kernel) (by decide +kernel)
set_option maxRecDepth 20000 in
theorem gX0_keptValue_X0_latestWhole : GoodIn wsX0_keptValue (wsV RX0 45 RX0 yX0_latestWhole wsX0_latestWhole) := goodIn_app (goodIn_of _ (by decide +kernel)) ggX0_keptValue_X0_latestWhole
set_option maxRecDepth 20000 in
theorem ggX0_keptValue_X0_keptAt : GoodIn wsX0_keptValue wsX0_keptAt := goodIn_r _ [18, 19, 20, 21, 22] (by decide +kernel) (by decide +kernel)
set_option maxRecDepth 20000 in
theorem gX0_keptValue_X0_keptAt : GoodIn wsX0_keptValue (va_wsS RX0 48 yX0_keptAt wsX0_keptAt) := goodIn_app (goodIn_of _ (by decide +kernel)) ggX0_keptValue_X0_keptAt
theorem dX0_keptValue_0 : decode cX0_keptValue 0 = .ok (.iload_n 1, 1) := by decide +kernel
theorem dX0_keptValue_1 : decode cX0_keptValue 1 = .ok (.aload_n 0, 1) := by decide +kernel
theorem dX0_keptValue_2 : decode cX0_keptValue 2 = .ok (.invokevirtual 67, 3) := by decide +kernel
theorem dX0_keptValue_5 : decode cX0_keptValue 5 = .ok (.if_icmp .lt 11, 3) := by decide +kernel
theorem dX0_keptValue_8 : decode cX0_keptValue 8 = .ok (.iload_n 1, 1) := by decide +kernel
theorem dX0_keptValue_9 : decode cX0_keptValue 9 = .ok (.aload_n 0, 1) := by decide +kernel
theorem dX0_keptValue_10 : decode cX0_keptValue 10 = .ok (.invokevirtual 45, 3) := by decide +kernel
theorem dX0_keptValue_13 : decode cX0_keptValue 13 = .ok (.if_icmp .le 5, 3) := by decide +kernel
theorem dX0_keptValue_16 : decode cX0_keptValue 16 = .ok (.iconst (-1), 1) := by decide +kernel
theorem dX0_keptValue_17 : decode cX0_keptValue 17 = .ok (.ireturn, 1) := by decide +kernel
theorem dX0_keptValue_18 : decode cX0_keptValue 18 = .ok (.aload_n 0, 1) := by decide +kernel
theorem dX0_keptValue_19 : decode cX0_keptValue 19 = .ok (.getfield 21, 3) := by decide +kernel
theorem dX0_keptValue_22 : decode cX0_keptValue 22 = .ok (.iload_n 1, 1) := by decide +kernel
theorem dX0_keptValue_23 : decode cX0_keptValue 23 = .ok (.invokestatic 48, 3) := by decide +kernel
theorem dX0_keptValue_26 : decode cX0_keptValue 26 = .ok (.iload_n 2, 1) := by decide +kernel
theorem dX0_keptValue_27 : decode cX0_keptValue 27 = .ok (.iadd, 1) := by decide +kernel
theorem dX0_keptValue_28 : decode cX0_keptValue 28 = .ok (.iaload, 1) := by decide +kernel
theorem dX0_keptValue_29 : decode cX0_keptValue 29 = .ok (.ireturn, 1) := by decide +kernel
set_option maxRecDepth 20000 in
theorem ggX0_latestSame_X0_latestWhole : GoodIn wsX0_latestSame wsX0_latestWhole := goodIn_r _ [5, 6, 19, 20, 21, 22, 23] (by decide +kernel) (by decide +kernel)
set_option maxRecDepth 20000 in
theorem gX0_latestSame_X0_latestWhole : GoodIn wsX0_latestSame (wsV RX0 45 RX0 yX0_latestWhole wsX0_latestWhole) := goodIn_app (goodIn_of _ (by decide +kernel)) ggX0_latestSame_X0_latestWhole
set_option maxRecDepth 20000 in
theorem ggX0_latestSame_X0_keptAt : GoodIn wsX0_latestSame wsX0_keptAt := goodIn_r _ [9, 10, 11, 12, 13] (by decide +kernel) (by decide +kernel)
set_option maxRecDepth 20000 in
theorem gX0_latestSame_X0_keptAt : GoodIn wsX0_latestSame (va_wsS RX0 48 yX0_keptAt wsX0_keptAt) := goodIn_app (goodIn_of _ (by decide +kernel)) ggX0_latestSame_X0_keptAt
set_option maxRecDepth 20000 in
theorem ggX0_latestSame_X0_isSame : GoodIn wsX0_latestSame wsX0_isSame := goodIn_r _ [17, 18, 19, 20, 21, 22, 23] (by decide +kernel) (by decide +kernel)
set_option maxRecDepth 20000 in
theorem gX0_latestSame_X0_isSame : GoodIn wsX0_latestSame (wsV RX0 70 RX0 yX0_isSame wsX0_isSame) := goodIn_app (goodIn_of _ (by decide +kernel)) ggX0_latestSame_X0_isSame
theorem dX0_latestSame_0 : decode cX0_latestSame 0 = .ok (.aload_n 0, 1) := by decide +kernel
theorem dX0_latestSame_1 : decode cX0_latestSame 1 = .ok (.invokevirtual 45, 3) := by decide +kernel
theorem dX0_latestSame_4 : decode cX0_latestSame 4 = .ok (.istore_n 2, 1) := by decide +kernel
theorem dX0_latestSame_5 : decode cX0_latestSame 5 = .ok (.iconst 0, 1) := by decide +kernel
theorem dX0_latestSame_6 : decode cX0_latestSame 6 = .ok (.istore_n 3, 1) := by decide +kernel
theorem dX0_latestSame_7 : decode cX0_latestSame 7 = .ok (.iload_n 3, 1) := by decide +kernel
theorem dX0_latestSame_8 : decode cX0_latestSame 8 = .ok (.bipush 16, 2) := by decide +kernel
theorem dX0_latestSame_10 : decode cX0_latestSame 10 = .ok (.if_icmp .ge 32, 3) := by decide +kernel
theorem dX0_latestSame_13 : decode cX0_latestSame 13 = .ok (.iload_n 3, 1) := by decide +kernel
theorem dX0_latestSame_14 : decode cX0_latestSame 14 = .ok (.iload_n 2, 1) := by decide +kernel
theorem dX0_latestSame_15 : decode cX0_latestSame 15 = .ok (.if_icmp .gt 27, 3) := by decide +kernel
theorem dX0_latestSame_18 : decode cX0_latestSame 18 = .ok (.aload_n 0, 1) := by decide +kernel
theorem dX0_latestSame_19 : decode cX0_latestSame 19 = .ok (.iload_n 2, 1) := by decide +kernel
theorem dX0_latestSame_20 : decode cX0_latestSame 20 = .ok (.iload_n 3, 1) := by decide +kernel
theorem dX0_latestSame_21 : decode cX0_latestSame 21 = .ok (.isub, 1) := by decide +kernel
theorem dX0_latestSame_22 : decode cX0_latestSame 22 = .ok (.invokestatic 48, 3) := by decide +kernel
theorem dX0_latestSame_25 : decode cX0_latestSame 25 = .ok (.aload_n 1, 1) := by decide +kernel
theorem dX0_latestSame_26 : decode cX0_latestSame 26 = .ok (.invokevirtual 70, 3) := by decide +kernel
theorem dX0_latestSame_29 : decode cX0_latestSame 29 = .ok (.ifCond .eq 7, 3) := by decide +kernel
theorem dX0_latestSame_32 : decode cX0_latestSame 32 = .ok (.iload_n 2, 1) := by decide +kernel
theorem dX0_latestSame_33 : decode cX0_latestSame 33 = .ok (.iload_n 3, 1) := by decide +kernel
theorem dX0_latestSame_34 : decode cX0_latestSame 34 = .ok (.isub, 1) := by decide +kernel
theorem dX0_latestSame_35 : decode cX0_latestSame 35 = .ok (.ireturn, 1) := by decide +kernel
theorem dX0_latestSame_36 : decode cX0_latestSame 36 = .ok (.iinc 3 1, 3) := by decide +kernel
theorem dX0_latestSame_39 : decode cX0_latestSame 39 = .ok (.goto (-32), 3) := by decide +kernel
theorem dX0_latestSame_42 : decode cX0_latestSame 42 = .ok (.iconst (-1), 1) := by decide +kernel
theorem dX0_latestSame_43 : decode cX0_latestSame 43 = .ok (.ireturn, 1) := by decide +kernel
theorem dX0_isSame_0 : decode cX0_isSame 0 = .ok (.iconst 0, 1) := by decide +kernel
theorem dX0_isSame_1 : decode cX0_isSame 1 = .ok (.istore_n 3, 1) := by decide +kernel
theorem dX0_isSame_2 : decode cX0_isSame 2 = .ok (.iload_n 3, 1) := by decide +kernel
theorem dX0_isSame_3 : decode cX0_isSame 3 = .ok (.iconst 5, 1) := by decide +kernel
theorem dX0_isSame_4 : decode cX0_isSame 4 = .ok (.if_icmp .ge 25, 3) := by decide +kernel
theorem dX0_isSame_7 : decode cX0_isSame 7 = .ok (.aload_n 0, 1) := by decide +kernel
theorem dX0_isSame_8 : decode cX0_isSame 8 = .ok (.getfield 21, 3) := by decide +kernel
theorem dX0_isSame_11 : decode cX0_isSame 11 = .ok (.iload_n 1, 1) := by decide +kernel
theorem dX0_isSame_12 : decode cX0_isSame 12 = .ok (.iload_n 3, 1) := by decide +kernel
theorem dX0_isSame_13 : decode cX0_isSame 13 = .ok (.iadd, 1) := by decide +kernel
theorem dX0_isSame_14 : decode cX0_isSame 14 = .ok (.iaload, 1) := by decide +kernel
theorem dX0_isSame_15 : decode cX0_isSame 15 = .ok (.aload_n 2, 1) := by decide +kernel
theorem dX0_isSame_16 : decode cX0_isSame 16 = .ok (.iload_n 3, 1) := by decide +kernel
theorem dX0_isSame_17 : decode cX0_isSame 17 = .ok (.iaload, 1) := by decide +kernel
theorem dX0_isSame_18 : decode cX0_isSame 18 = .ok (.if_icmp .eq 5, 3) := by decide +kernel
theorem dX0_isSame_21 : decode cX0_isSame 21 = .ok (.iconst 0, 1) := by decide +kernel
theorem dX0_isSame_22 : decode cX0_isSame 22 = .ok (.ireturn, 1) := by decide +kernel
theorem dX0_isSame_23 : decode cX0_isSame 23 = .ok (.iinc 3 1, 3) := by decide +kernel
theorem dX0_isSame_26 : decode cX0_isSame 26 = .ok (.goto (-24), 3) := by decide +kernel
theorem dX0_isSame_29 : decode cX0_isSame 29 = .ok (.iconst 1, 1) := by decide +kernel
theorem dX0_isSame_30 : decode cX0_isSame 30 = .ok (.ireturn, 1) := by decide +kernel
theorem dX0_copyFrom_0 : decode cX0_copyFrom 0 = .ok (.aload_n 0, 1) := by decide +kernel
theorem dX0_copyFrom_1 : decode cX0_copyFrom 1 = .ok (.aload_n 1, 1) := by decide +kernel
theorem dX0_copyFrom_2 : decode cX0_copyFrom 2 = .ok (.getfield 24, 3) := by decide +kernel
theorem dX0_copyFrom_5 : decode cX0_copyFrom 5 = .ok (.putfield 24, 3) := by decide +kernel
theorem dX0_copyFrom_8 : decode cX0_copyFrom 8 = .ok (.aload_n 1, 1) := by decide +kernel
theorem dX0_copyFrom_9 : decode cX0_copyFrom 9 = .ok (.getfield 9, 3) := by decide +kernel
theorem dX0_copyFrom_12 : decode cX0_copyFrom 12 = .ok (.iconst 0, 1) := by decide +kernel
theorem dX0_copyFrom_13 : decode cX0_copyFrom 13 = .ok (.aload_n 0, 1) := by decide +kernel
theorem dX0_copyFrom_14 : decode cX0_copyFrom 14 = .ok (.getfield 9, 3) := by decide +kernel
theorem dX0_copyFrom_17 : decode cX0_copyFrom 17 = .ok (.iconst 0, 1) := by decide +kernel
theorem dX0_copyFrom_18 : decode cX0_copyFrom 18 = .ok (.iconst 5, 1) := by decide +kernel
theorem dX0_copyFrom_19 : decode cX0_copyFrom 19 = .ok (.invokestatic 52, 3) := by decide +kernel
theorem dX0_copyFrom_22 : decode cX0_copyFrom 22 = .ok (.aload_n 1, 1) := by decide +kernel
theorem dX0_copyFrom_23 : decode cX0_copyFrom 23 = .ok (.getfield 15, 3) := by decide +kernel
theorem dX0_copyFrom_26 : decode cX0_copyFrom 26 = .ok (.iconst 0, 1) := by decide +kernel
theorem dX0_copyFrom_27 : decode cX0_copyFrom 27 = .ok (.aload_n 0, 1) := by decide +kernel
theorem dX0_copyFrom_28 : decode cX0_copyFrom 28 = .ok (.getfield 15, 3) := by decide +kernel
theorem dX0_copyFrom_31 : decode cX0_copyFrom 31 = .ok (.iconst 0, 1) := by decide +kernel
theorem dX0_copyFrom_32 : decode cX0_copyFrom 32 = .ok (.iconst 3, 1) := by decide +kernel
theorem dX0_copyFrom_33 : decode cX0_copyFrom 33 = .ok (.invokestatic 52, 3) := by decide +kernel
theorem dX0_copyFrom_36 : decode cX0_copyFrom 36 = .ok (.aload_n 1, 1) := by decide +kernel
theorem dX0_copyFrom_37 : decode cX0_copyFrom 37 = .ok (.getfield 18, 3) := by decide +kernel
theorem dX0_copyFrom_40 : decode cX0_copyFrom 40 = .ok (.iconst 0, 1) := by decide +kernel
theorem dX0_copyFrom_41 : decode cX0_copyFrom 41 = .ok (.aload_n 0, 1) := by decide +kernel
theorem dX0_copyFrom_42 : decode cX0_copyFrom 42 = .ok (.getfield 18, 3) := by decide +kernel
theorem dX0_copyFrom_45 : decode cX0_copyFrom 45 = .ok (.iconst 0, 1) := by decide +kernel
theorem dX0_copyFrom_46 : decode cX0_copyFrom 46 = .ok (.iconst 3, 1) := by decide +kernel
theorem dX0_copyFrom_47 : decode cX0_copyFrom 47 = .ok (.invokestatic 52, 3) := by decide +kernel
theorem dX0_copyFrom_50 : decode cX0_copyFrom 50 = .ok (.aload_n 1, 1) := by decide +kernel
theorem dX0_copyFrom_51 : decode cX0_copyFrom 51 = .ok (.getfield 21, 3) := by decide +kernel
theorem dX0_copyFrom_54 : decode cX0_copyFrom 54 = .ok (.iconst 0, 1) := by decide +kernel
theorem dX0_copyFrom_55 : decode cX0_copyFrom 55 = .ok (.aload_n 0, 1) := by decide +kernel
theorem dX0_copyFrom_56 : decode cX0_copyFrom 56 = .ok (.getfield 21, 3) := by decide +kernel
theorem dX0_copyFrom_59 : decode cX0_copyFrom 59 = .ok (.iconst 0, 1) := by decide +kernel
theorem dX0_copyFrom_60 : decode cX0_copyFrom 60 = .ok (.bipush 80, 2) := by decide +kernel
theorem dX0_copyFrom_62 : decode cX0_copyFrom 62 = .ok (.invokestatic 52, 3) := by decide +kernel
theorem dX0_copyFrom_65 : decode cX0_copyFrom 65 = .ok (.return_, 1) := by decide +kernel
theorem dX1_init_0 : decode cX1_init 0 = .ok (.aload_n 0, 1) := by decide +kernel
theorem dX1_init_1 : decode cX1_init 1 = .ok (.invokespecial 3, 3) := by decide +kernel
theorem dX1_init_4 : decode cX1_init 4 = .ok (.aload_n 0, 1) := by decide +kernel
theorem dX1_init_5 : decode cX1_init 5 = .ok (.iconst 1, 1) := by decide +kernel
theorem dX1_init_6 : decode cX1_init 6 = .ok (.putfield 9, 3) := by decide +kernel
theorem dX1_init_9 : decode cX1_init 9 = .ok (.aload_n 0, 1) := by decide +kernel
theorem dX1_init_10 : decode cX1_init 10 = .ok (.iconst 5, 1) := by decide +kernel
theorem dX1_init_11 : decode cX1_init 11 = .ok (.newarray .int, 2) := by decide +kernel
theorem dX1_init_13 : decode cX1_init 13 = .ok (.putfield 15, 3) := by decide +kernel
theorem dX1_init_16 : decode cX1_init 16 = .ok (.aload_n 0, 1) := by decide +kernel
theorem dX1_init_17 : decode cX1_init 17 = .ok (.iconst 5, 1) := by decide +kernel
theorem dX1_init_18 : decode cX1_init 18 = .ok (.newarray .int, 2) := by decide +kernel
theorem dX1_init_20 : decode cX1_init 20 = .ok (.putfield 19, 3) := by decide +kernel
theorem dX1_init_23 : decode cX1_init 23 = .ok (.return_, 1) := by decide +kernel
theorem dX1_startAnew_0 : decode cX1_startAnew 0 = .ok (.aload_n 0, 1) := by decide +kernel
theorem dX1_startAnew_1 : decode cX1_startAnew 1 = .ok (.iload_n 1, 1) := by decide +kernel
theorem dX1_startAnew_2 : decode cX1_startAnew 2 = .ok (.putfield 9, 3) := by decide +kernel
theorem dX1_startAnew_5 : decode cX1_startAnew 5 = .ok (.aload_n 0, 1) := by decide +kernel
theorem dX1_startAnew_6 : decode cX1_startAnew 6 = .ok (.iconst 0, 1) := by decide +kernel
theorem dX1_startAnew_7 : decode cX1_startAnew 7 = .ok (.putfield 22, 3) := by decide +kernel
theorem dX1_startAnew_10 : decode cX1_startAnew 10 = .ok (.aload_n 0, 1) := by decide +kernel
theorem dX1_startAnew_11 : decode cX1_startAnew 11 = .ok (.iconst 0, 1) := by decide +kernel
theorem dX1_startAnew_12 : decode cX1_startAnew 12 = .ok (.putfield 25, 3) := by decide +kernel
theorem dX1_startAnew_15 : decode cX1_startAnew 15 = .ok (.aload_n 0, 1) := by decide +kernel
theorem dX1_startAnew_16 : decode cX1_startAnew 16 = .ok (.iconst 0, 1) := by decide +kernel
theorem dX1_startAnew_17 : decode cX1_startAnew 17 = .ok (.putfield 28, 3) := by decide +kernel
theorem dX1_startAnew_20 : decode cX1_startAnew 20 = .ok (.return_, 1) := by decide +kernel
theorem dX1_hasGivenUp_0 : decode cX1_hasGivenUp 0 = .ok (.aload_n 0, 1) := by decide +kernel
theorem dX1_hasGivenUp_1 : decode cX1_hasGivenUp 1 = .ok (.getfield 9, 3) := by decide +kernel
theorem dX1_hasGivenUp_4 : decode cX1_hasGivenUp 4 = .ok (.ifCond .eq 22, 3) := by decide +kernel
theorem dX1_hasGivenUp_7 : decode cX1_hasGivenUp 7 = .ok (.aload_n 0, 1) := by decide +kernel
theorem dX1_hasGivenUp_8 : decode cX1_hasGivenUp 8 = .ok (.getfield 22, 3) := by decide +kernel
theorem dX1_hasGivenUp_11 : decode cX1_hasGivenUp 11 = .ok (.ifCond .ne 15, 3) := by decide +kernel
theorem dX1_hasGivenUp_14 : decode cX1_hasGivenUp 14 = .ok (.aload_n 0, 1) := by decide +kernel
theorem dX1_hasGivenUp_15 : decode cX1_hasGivenUp 15 = .ok (.getfield 28, 3) := by decide +kernel
theorem dX1_hasGivenUp_18 : decode cX1_hasGivenUp 18 = .ok (.iload_n 1, 1) := by decide +kernel
theorem dX1_hasGivenUp_19 : decode cX1_hasGivenUp 19 = .ok (.if_icmp .lt 7, 3) := by decide +kernel
theorem dX1_hasGivenUp_22 : decode cX1_hasGivenUp 22 = .ok (.iconst 1, 1) := by decide +kernel
theorem dX1_hasGivenUp_23 : decode cX1_hasGivenUp 23 = .ok (.goto 4, 3) := by decide +kernel
theorem dX1_hasGivenUp_26 : decode cX1_hasGivenUp 26 = .ok (.iconst 0, 1) := by decide +kernel
theorem dX1_hasGivenUp_27 : decode cX1_hasGivenUp 27 = .ok (.ireturn, 1) := by decide +kernel
set_option maxRecDepth 20000 in
theorem ggX1_doing_X1_hasGivenUp : GoodIn wsX1_doing wsX1_hasGivenUp := goodIn_r _ [6, 7, 1, 8, 9, 10, 11, 12, 13, 14, 15, 16, 17, 18] (by decide +kernel) (by decide +kernel)
set_option maxRecDepth 20000 in
theorem gX1_doing_X1_hasGivenUp : GoodIn wsX1_doing (wsV RX1 32 RX1 yX1_hasGivenUp wsX1_hasGivenUp) := goodIn_app (goodIn_of _ (by decide +kernel)) ggX1_doing_X1_hasGivenUp
theorem dX1_doing_0 : decode cX1_doing 0 = .ok (.aload_n 0, 1) := by decide +kernel
theorem dX1_doing_1 : decode cX1_doing 1 = .ok (.getfield 22, 3) := by decide +kernel
theorem dX1_doing_4 : decode cX1_doing 4 = .ok (.ifCond .eq 7, 3) := by decide +kernel
theorem dX1_doing_7 : decode cX1_doing 7 = .ok (.iconst 1, 1) := by decide +kernel
theorem dX1_doing_8 : decode cX1_doing 8 = .ok (.goto 16, 3) := by decide +kernel
theorem dX1_doing_11 : decode cX1_doing 11 = .ok (.aload_n 0, 1) := by decide +kernel
theorem dX1_doing_12 : decode cX1_doing 12 = .ok (.iload_n 1, 1) := by decide +kernel
theorem dX1_doing_13 : decode cX1_doing 13 = .ok (.invokevirtual 32, 3) := by decide +kernel
theorem dX1_doing_16 : decode cX1_doing 16 = .ok (.ifCond .eq 7, 3) := by decide +kernel
theorem dX1_doing_19 : decode cX1_doing 19 = .ok (.iconst 2, 1) := by decide +kernel
theorem dX1_doing_20 : decode cX1_doing 20 = .ok (.goto 4, 3) := by decide +kernel
theorem dX1_doing_23 : decode cX1_doing 23 = .ok (.iconst 0, 1) := by decide +kernel
theorem dX1_doing_24 : decode cX1_doing 24 = .ok (.ireturn, 1) := by decide +kernel
set_option maxRecDepth 20000 in
theorem ggX1_open_X1_wouldFail : GoodIn wsX1_open wsX1_wouldFail := goodIn_r _ [9, 10, 1, 3, 2, 11, 12, 13, 14, 15, 16, 23, 24, 25, 26, 27, 28, 29, 30, 31, 32, 33, 34, 35, 36, 37] (by decide +kernel) (by decide +kernel)
set_option maxRecDepth 20000 in
theorem gX1_open_X1_wouldFail : GoodIn wsX1_open (wsV RX1 36 RX1 yX1_wouldFail wsX1_wouldFail) := goodIn_app (goodIn_of _ (by decide +kernel)) ggX1_open_X1_wouldFail
set_option maxRecDepth 20000 in
theorem ggX1_open_X1_fail : GoodIn wsX1_open wsX1_fail := goodIn_r _ [20, 1, 21, 22, 23, 24, 25, 26, 27, 28, 29, 30, 31, 32] (by decide +kernel) (by decide +kernel)
set_option maxRecDepth 20000 in
theorem gX1_open_X1_fail : GoodIn wsX1_open (wsV RX1 40 RX1 yX1_fail wsX1_fail) := goodIn_app (goodIn_of _ (by decide +kernel)) ggX1_open_X1_fail
theorem dX1_open_0 : decode cX1_open 0 = .ok (.aload_n 0, 1) := by decide +kernel
theorem dX1_open_1 : decode cX1_open 1 = .ok (.aload_n 1, 1) := by decide +kernel
theorem dX1_open_2 : decode cX1_open 2 = .ok (.invokevirtual 36, 3) := by decide +kernel
theorem dX1_open_5 : decode cX1_open 5 = .ok (.ifCond .eq 9, 3) := by decide +kernel
theorem dX1_open_8 : decode cX1_open 8 = .ok (.aload_n 0, 1) := by decide +kernel
theorem dX1_open_9 : decode cX1_open 9 = .ok (.invokevirtual 40, 3) := by decide +kernel
theorem dX1_open_12 : decode cX1_open 12 = .ok (.iconst 0, 1) := by decide +kernel
theorem dX1_open_13 : decode cX1_open 13 = .ok (.ireturn, 1) := by decide +kernel
theorem dX1_open_14 : decode cX1_open 14 = .ok (.aload_n 0, 1) := by decide +kernel
theorem dX1_open_15 : decode cX1_open 15 = .ok (.iconst 1, 1) := by decide +kernel
theorem dX1_open_16 : decode cX1_open 16 = .ok (.putfield 22, 3) := by decide +kernel
theorem dX1_open_19 : decode cX1_open 19 = .ok (.aload_n 0, 1) := by decide +kernel
theorem dX1_open_20 : decode cX1_open 20 = .ok (.aload_n 1, 1) := by decide +kernel
theorem dX1_open_21 : decode cX1_open 21 = .ok (.getfield 43, 3) := by decide +kernel
theorem dX1_open_24 : decode cX1_open 24 = .ok (.putfield 48, 3) := by decide +kernel
theorem dX1_open_27 : decode cX1_open 27 = .ok (.aload_n 0, 1) := by decide +kernel
theorem dX1_open_28 : decode cX1_open 28 = .ok (.iconst 0, 1) := by decide +kernel
theorem dX1_open_29 : decode cX1_open 29 = .ok (.putfield 51, 3) := by decide +kernel
theorem dX1_open_32 : decode cX1_open 32 = .ok (.iconst 1, 1) := by decide +kernel
theorem dX1_open_33 : decode cX1_open 33 = .ok (.ireturn, 1) := by decide +kernel
set_option maxRecDepth 20000 in
theorem ggX1_wouldFail_X0_isOdd : GoodIn wsX1_wouldFail wsX0_isOdd := goodIn_r _ [9, 10, 21, 22, 23, 24, 25] (by decide +kernel) (by decide +kernel)
set_option maxRecDepth 20000 in
theorem gX1_wouldFail_X0_isOdd : GoodIn wsX1_wouldFail (wsV RX1 54 RX0 yX0_isOdd wsX0_isOdd) := goodIn_app (goodIn_of _ (by decide +kernel)) ggX1_wouldFail_X0_isOdd
theorem dX1_wouldFail_0 : decode cX1_wouldFail 0 = .ok (.aload_n 0, 1) := by decide +kernel
theorem dX1_wouldFail_1 : decode cX1_wouldFail 1 = .ok (.getfield 9, 3) := by decide +kernel
theorem dX1_wouldFail_4 : decode cX1_wouldFail 4 = .ok (.ifCond .eq 35, 3) := by decide +kernel
theorem dX1_wouldFail_7 : decode cX1_wouldFail 7 = .ok (.aload_n 0, 1) := by decide +kernel
theorem dX1_wouldFail_8 : decode cX1_wouldFail 8 = .ok (.getfield 22, 3) := by decide +kernel
theorem dX1_wouldFail_11 : decode cX1_wouldFail 11 = .ok (.ifCond .eq 17, 3) := by decide +kernel
theorem dX1_wouldFail_14 : decode cX1_wouldFail 14 = .ok (.aload_n 0, 1) := by decide +kernel
theorem dX1_wouldFail_15 : decode cX1_wouldFail 15 = .ok (.getfield 48, 3) := by decide +kernel
theorem dX1_wouldFail_18 : decode cX1_wouldFail 18 = .ok (.aload_n 1, 1) := by decide +kernel
theorem dX1_wouldFail_19 : decode cX1_wouldFail 19 = .ok (.getfield 43, 3) := by decide +kernel
theorem dX1_wouldFail_22 : decode cX1_wouldFail 22 = .ok (.if_icmp .eq 17, 3) := by decide +kernel
theorem dX1_wouldFail_25 : decode cX1_wouldFail 25 = .ok (.goto 10, 3) := by decide +kernel
theorem dX1_wouldFail_28 : decode cX1_wouldFail 28 = .ok (.aload_n 1, 1) := by decide +kernel
theorem dX1_wouldFail_29 : decode cX1_wouldFail 29 = .ok (.invokevirtual 54, 3) := by decide +kernel
theorem dX1_wouldFail_32 : decode cX1_wouldFail 32 = .ok (.ifCond .eq 7, 3) := by decide +kernel
theorem dX1_wouldFail_35 : decode cX1_wouldFail 35 = .ok (.iconst 1, 1) := by decide +kernel
theorem dX1_wouldFail_36 : decode cX1_wouldFail 36 = .ok (.goto 4, 3) := by decide +kernel
theorem dX1_wouldFail_39 : decode cX1_wouldFail 39 = .ok (.iconst 0, 1) := by decide +kernel
theorem dX1_wouldFail_40 : decode cX1_wouldFail 40 = .ok (.ireturn, 1) := by decide +kernel
theorem dX1_take_0 : decode cX1_take 0 = .ok (.aload_n 1, 1) := by decide +kernel
theorem dX1_take_1 : decode cX1_take 1 = .ok (.getfield 58, 3) := by decide +kernel
theorem dX1_take_4 : decode cX1_take 4 = .ok (.aload_n 0, 1) := by decide +kernel
theorem dX1_take_5 : decode cX1_take 5 = .ok (.getfield 51, 3) := by decide +kernel
theorem dX1_take_8 : decode cX1_take 8 = .ok (.iaload, 1) := by decide +kernel
theorem dX1_take_9 : decode cX1_take 9 = .ok (.istore_n 2, 1) := by decide +kernel
theorem dX1_take_10 : decode cX1_take 10 = .ok (.aload_n 0, 1) := by decide +kernel
theorem dX1_take_11 : decode cX1_take 11 = .ok (.getfield 19, 3) := by decide +kernel
theorem dX1_take_14 : decode cX1_take 14 = .ok (.aload_n 0, 1) := by decide +kernel
theorem dX1_take_15 : decode cX1_take 15 = .ok (.getfield 51, 3) := by decide +kernel
theorem dX1_take_18 : decode cX1_take 18 = .ok (.iload_n 2, 1) := by decide +kernel
theorem dX1_take_19 : decode cX1_take 19 = .ok (.iastore, 1) := by decide +kernel
theorem dX1_take_20 : decode cX1_take 20 = .ok (.aload_n 0, 1) := by decide +kernel
theorem dX1_take_21 : decode cX1_take 21 = .ok (.dup, 1) := by decide +kernel
theorem dX1_take_22 : decode cX1_take 22 = .ok (.getfield 51, 3) := by decide +kernel
theorem dX1_take_25 : decode cX1_take 25 = .ok (.iconst 1, 1) := by decide +kernel
theorem dX1_take_26 : decode cX1_take 26 = .ok (.iadd, 1) := by decide +kernel
theorem dX1_take_27 : decode cX1_take 27 = .ok (.putfield 51, 3) := by decide +kernel
theorem dX1_take_30 : decode cX1_take 30 = .ok (.iload_n 2, 1) := by decide +kernel
theorem dX1_take_31 : decode cX1_take 31 = .ok (.ireturn, 1) := by decide +kernel
theorem dX1_fail_0 : decode cX1_fail 0 = .ok (.aload_n 0, 1) := by decide +kernel
theorem dX1_fail_1 : decode cX1_fail 1 = .ok (.iconst 0, 1) := by decide +kernel
theorem dX1_fail_2 : decode cX1_fail 2 = .ok (.putfield 22, 3) := by decide +kernel
theorem dX1_fail_5 : decode cX1_fail 5 = .ok (.aload_n 0, 1) := by decide +kernel
theorem dX1_fail_6 : decode cX1_fail 6 = .ok (.dup, 1) := by decide +kernel
theorem dX1_fail_7 : decode cX1_fail 7 = .ok (.getfield 28, 3) := by decide +kernel
theorem dX1_fail_10 : decode cX1_fail 10 = .ok (.iconst 1, 1) := by decide +kernel
theorem dX1_fail_11 : decode cX1_fail 11 = .ok (.iadd, 1) := by decide +kernel
theorem dX1_fail_12 : decode cX1_fail 12 = .ok (.putfield 28, 3) := by decide +kernel
theorem dX1_fail_15 : decode cX1_fail 15 = .ok (.aload_n 0, 1) := by decide +kernel
theorem dX1_fail_16 : decode cX1_fail 16 = .ok (.dup, 1) := by decide +kernel
theorem dX1_fail_17 : decode cX1_fail 17 = .ok (.getfield 61, 3) := by decide +kernel
theorem dX1_fail_20 : decode cX1_fail 20 = .ok (.iconst 1, 1) := by decide +kernel
theorem dX1_fail_21 : decode cX1_fail 21 = .ok (.iadd, 1) := by decide +kernel
theorem dX1_fail_22 : decode cX1_fail 22 = .ok (.putfield 61, 3) := by decide +kernel
theorem dX1_fail_25 : decode cX1_fail 25 = .ok (.return_, 1) := by decide +kernel
theorem dX1_doWell_0 : decode cX1_doWell 0 = .ok (.aload_n 0, 1) := by decide +kernel
theorem dX1_doWell_1 : decode cX1_doWell 1 = .ok (.iconst 0, 1) := by decide +kernel
theorem dX1_doWell_2 : decode cX1_doWell 2 = .ok (.putfield 22, 3) := by decide +kernel
theorem dX1_doWell_5 : decode cX1_doWell 5 = .ok (.aload_n 0, 1) := by decide +kernel
theorem dX1_doWell_6 : decode cX1_doWell 6 = .ok (.iconst 1, 1) := by decide +kernel
theorem dX1_doWell_7 : decode cX1_doWell 7 = .ok (.putfield 25, 3) := by decide +kernel
theorem dX1_doWell_10 : decode cX1_doWell 10 = .ok (.aload_n 0, 1) := by decide +kernel
theorem dX1_doWell_11 : decode cX1_doWell 11 = .ok (.getfield 19, 3) := by decide +kernel
theorem dX1_doWell_14 : decode cX1_doWell 14 = .ok (.iconst 0, 1) := by decide +kernel
theorem dX1_doWell_15 : decode cX1_doWell 15 = .ok (.aload_n 0, 1) := by decide +kernel
theorem dX1_doWell_16 : decode cX1_doWell 16 = .ok (.getfield 15, 3) := by decide +kernel
theorem dX1_doWell_19 : decode cX1_doWell 19 = .ok (.iconst 0, 1) := by decide +kernel
theorem dX1_doWell_20 : decode cX1_doWell 20 = .ok (.iconst 5, 1) := by decide +kernel
theorem dX1_doWell_21 : decode cX1_doWell 21 = .ok (.invokestatic 64, 3) := by decide +kernel
theorem dX1_doWell_24 : decode cX1_doWell 24 = .ok (.aload_n 0, 1) := by decide +kernel
theorem dX1_doWell_25 : decode cX1_doWell 25 = .ok (.iconst 0, 1) := by decide +kernel
theorem dX1_doWell_26 : decode cX1_doWell 26 = .ok (.putfield 28, 3) := by decide +kernel
theorem dX1_doWell_29 : decode cX1_doWell 29 = .ok (.aload_n 0, 1) := by decide +kernel
theorem dX1_doWell_30 : decode cX1_doWell 30 = .ok (.dup, 1) := by decide +kernel
theorem dX1_doWell_31 : decode cX1_doWell 31 = .ok (.getfield 70, 3) := by decide +kernel
theorem dX1_doWell_34 : decode cX1_doWell 34 = .ok (.iconst 1, 1) := by decide +kernel
theorem dX1_doWell_35 : decode cX1_doWell 35 = .ok (.iadd, 1) := by decide +kernel
theorem dX1_doWell_36 : decode cX1_doWell 36 = .ok (.putfield 70, 3) := by decide +kernel
theorem dX1_doWell_39 : decode cX1_doWell 39 = .ok (.return_, 1) := by decide +kernel
theorem dX1_fillWouldTake_0 : decode cX1_fillWouldTake 0 = .ok (.iconst 0, 1) := by decide +kernel
theorem dX1_fillWouldTake_1 : decode cX1_fillWouldTake 1 = .ok (.istore_n 3, 1) := by decide +kernel
theorem dX1_fillWouldTake_2 : decode cX1_fillWouldTake 2 = .ok (.iload_n 3, 1) := by decide +kernel
theorem dX1_fillWouldTake_3 : decode cX1_fillWouldTake 3 = .ok (.iconst 5, 1) := by decide +kernel
theorem dX1_fillWouldTake_4 : decode cX1_fillWouldTake 4 = .ok (.if_icmp .ge 42, 3) := by decide +kernel
theorem dX1_fillWouldTake_7 : decode cX1_fillWouldTake 7 = .ok (.aload_n 1, 1) := by decide +kernel
theorem dX1_fillWouldTake_8 : decode cX1_fillWouldTake 8 = .ok (.iload_n 3, 1) := by decide +kernel
theorem dX1_fillWouldTake_9 : decode cX1_fillWouldTake 9 = .ok (.aload_n 0, 1) := by decide +kernel
theorem dX1_fillWouldTake_10 : decode cX1_fillWouldTake 10 = .ok (.getfield 22, 3) := by decide +kernel
theorem dX1_fillWouldTake_13 : decode cX1_fillWouldTake 13 = .ok (.ifCond .eq 20, 3) := by decide +kernel
theorem dX1_fillWouldTake_16 : decode cX1_fillWouldTake 16 = .ok (.iload_n 3, 1) := by decide +kernel
theorem dX1_fillWouldTake_17 : decode cX1_fillWouldTake 17 = .ok (.aload_n 0, 1) := by decide +kernel
theorem dX1_fillWouldTake_18 : decode cX1_fillWouldTake 18 = .ok (.getfield 51, 3) := by decide +kernel
theorem dX1_fillWouldTake_21 : decode cX1_fillWouldTake 21 = .ok (.if_icmp .ge 12, 3) := by decide +kernel
theorem dX1_fillWouldTake_24 : decode cX1_fillWouldTake 24 = .ok (.aload_n 0, 1) := by decide +kernel
theorem dX1_fillWouldTake_25 : decode cX1_fillWouldTake 25 = .ok (.getfield 19, 3) := by decide +kernel
theorem dX1_fillWouldTake_28 : decode cX1_fillWouldTake 28 = .ok (.iload_n 3, 1) := by decide +kernel
theorem dX1_fillWouldTake_29 : decode cX1_fillWouldTake 29 = .ok (.iaload, 1) := by decide +kernel
theorem dX1_fillWouldTake_30 : decode cX1_fillWouldTake 30 = .ok (.goto 9, 3) := by decide +kernel
theorem dX1_fillWouldTake_33 : decode cX1_fillWouldTake 33 = .ok (.aload_n 2, 1) := by decide +kernel
theorem dX1_fillWouldTake_34 : decode cX1_fillWouldTake 34 = .ok (.getfield 58, 3) := by decide +kernel
theorem dX1_fillWouldTake_37 : decode cX1_fillWouldTake 37 = .ok (.iload_n 3, 1) := by decide +kernel
theorem dX1_fillWouldTake_38 : decode cX1_fillWouldTake 38 = .ok (.iaload, 1) := by decide +kernel
theorem dX1_fillWouldTake_39 : decode cX1_fillWouldTake 39 = .ok (.iastore, 1) := by decide +kernel
theorem dX1_fillWouldTake_40 : decode cX1_fillWouldTake 40 = .ok (.iinc 3 1, 3) := by decide +kernel
theorem dX1_fillWouldTake_43 : decode cX1_fillWouldTake 43 = .ok (.goto (-41), 3) := by decide +kernel
theorem dX1_fillWouldTake_46 : decode cX1_fillWouldTake 46 = .ok (.return_, 1) := by decide +kernel
theorem dX1_copyFrom_0 : decode cX1_copyFrom 0 = .ok (.aload_n 0, 1) := by decide +kernel
theorem dX1_copyFrom_1 : decode cX1_copyFrom 1 = .ok (.aload_n 1, 1) := by decide +kernel
theorem dX1_copyFrom_2 : decode cX1_copyFrom 2 = .ok (.getfield 9, 3) := by decide +kernel
theorem dX1_copyFrom_5 : decode cX1_copyFrom 5 = .ok (.putfield 9, 3) := by decide +kernel
theorem dX1_copyFrom_8 : decode cX1_copyFrom 8 = .ok (.aload_n 0, 1) := by decide +kernel
theorem dX1_copyFrom_9 : decode cX1_copyFrom 9 = .ok (.aload_n 1, 1) := by decide +kernel
theorem dX1_copyFrom_10 : decode cX1_copyFrom 10 = .ok (.getfield 22, 3) := by decide +kernel
theorem dX1_copyFrom_13 : decode cX1_copyFrom 13 = .ok (.putfield 22, 3) := by decide +kernel
theorem dX1_copyFrom_16 : decode cX1_copyFrom 16 = .ok (.aload_n 0, 1) := by decide +kernel
theorem dX1_copyFrom_17 : decode cX1_copyFrom 17 = .ok (.aload_n 1, 1) := by decide +kernel
theorem dX1_copyFrom_18 : decode cX1_copyFrom 18 = .ok (.getfield 25, 3) := by decide +kernel
theorem dX1_copyFrom_21 : decode cX1_copyFrom 21 = .ok (.putfield 25, 3) := by decide +kernel
theorem dX1_copyFrom_24 : decode cX1_copyFrom 24 = .ok (.aload_n 0, 1) := by decide +kernel
theorem dX1_copyFrom_25 : decode cX1_copyFrom 25 = .ok (.aload_n 1, 1) := by decide +kernel
theorem dX1_copyFrom_26 : decode cX1_copyFrom 26 = .ok (.getfield 48, 3) := by decide +kernel
theorem dX1_copyFrom_29 : decode cX1_copyFrom 29 = .ok (.putfield 48, 3) := by decide +kernel
theorem dX1_copyFrom_32 : decode cX1_copyFrom 32 = .ok (.aload_n 0, 1) := by decide +kernel
theorem dX1_copyFrom_33 : decode cX1_copyFrom 33 = .ok (.aload_n 1, 1) := by decide +kernel
theorem dX1_copyFrom_34 : decode cX1_copyFrom 34 = .ok (.getfield 51, 3) := by decide +kernel
theorem dX1_copyFrom_37 : decode cX1_copyFrom 37 = .ok (.putfield 51, 3) := by decide +kernel
theorem dX1_copyFrom_40 : decode cX1_copyFrom 40 = .ok (.aload_n 0, 1) := by decide +kernel
theorem dX1_copyFrom_41 : decode cX1_copyFrom 41 = .ok (.aload_n 1, 1) := by decide +kernel
theorem dX1_copyFrom_42 : decode cX1_copyFrom 42 = .ok (.getfield 28, 3) := by decide +kernel
theorem dX1_copyFrom_45 : decode cX1_copyFrom 45 = .ok (.putfield 28, 3) := by decide +kernel
theorem dX1_copyFrom_48 : decode cX1_copyFrom 48 = .ok (.aload_n 0, 1) := by decide +kernel
theorem dX1_copyFrom_49 : decode cX1_copyFrom 49 = .ok (.aload_n 1, 1) := by decide +kernel
theorem dX1_copyFrom_50 : decode cX1_copyFrom 50 = .ok (.getfield 61, 3) := by decide +kernel
theorem dX1_copyFrom_53 : decode cX1_copyFrom 53 = .ok (.putfield 61, 3) := by decide +kernel
theorem dX1_copyFrom_56 : decode cX1_copyFrom 56 = .ok (.aload_n 0, 1) := by decide +kernel
theorem dX1_copyFrom_57 : decode cX1_copyFrom 57 = .ok (.aload_n 1, 1) := by decide +kernel
theorem dX1_copyFrom_58 : decode cX1_copyFrom 58 = .ok (.getfield 70, 3) := by decide +kernel
theorem dX1_copyFrom_61 : decode cX1_copyFrom 61 = .ok (.putfield 70, 3) := by decide +kernel
theorem dX1_copyFrom_64 : decode cX1_copyFrom 64 = .ok (.aload_n 1, 1) := by decide +kernel
theorem dX1_copyFrom_65 : decode cX1_copyFrom 65 = .ok (.getfield 15, 3) := by decide +kernel
theorem dX1_copyFrom_68 : decode cX1_copyFrom 68 = .ok (.iconst 0, 1) := by decide +kernel
theorem dX1_copyFrom_69 : decode cX1_copyFrom 69 = .ok (.aload_n 0, 1) := by decide +kernel
theorem dX1_copyFrom_70 : decode cX1_copyFrom 70 = .ok (.getfield 15, 3) := by decide +kernel
theorem dX1_copyFrom_73 : decode cX1_copyFrom 73 = .ok (.iconst 0, 1) := by decide +kernel
theorem dX1_copyFrom_74 : decode cX1_copyFrom 74 = .ok (.iconst 5, 1) := by decide +kernel
theorem dX1_copyFrom_75 : decode cX1_copyFrom 75 = .ok (.invokestatic 64, 3) := by decide +kernel
theorem dX1_copyFrom_78 : decode cX1_copyFrom 78 = .ok (.aload_n 1, 1) := by decide +kernel
theorem dX1_copyFrom_79 : decode cX1_copyFrom 79 = .ok (.getfield 19, 3) := by decide +kernel
theorem dX1_copyFrom_82 : decode cX1_copyFrom 82 = .ok (.iconst 0, 1) := by decide +kernel
theorem dX1_copyFrom_83 : decode cX1_copyFrom 83 = .ok (.aload_n 0, 1) := by decide +kernel
theorem dX1_copyFrom_84 : decode cX1_copyFrom 84 = .ok (.getfield 19, 3) := by decide +kernel
theorem dX1_copyFrom_87 : decode cX1_copyFrom 87 = .ok (.iconst 0, 1) := by decide +kernel
theorem dX1_copyFrom_88 : decode cX1_copyFrom 88 = .ok (.iconst 5, 1) := by decide +kernel
theorem dX1_copyFrom_89 : decode cX1_copyFrom 89 = .ok (.invokestatic 64, 3) := by decide +kernel
theorem dX1_copyFrom_92 : decode cX1_copyFrom 92 = .ok (.return_, 1) := by decide +kernel
set_option maxRecDepth 20000 in
theorem ggX2_init_X0_init : GoodIn wsX2_init wsX0_init := goodIn_r _ [15, 16, 2, 3, 17, 18, 19, 20, 21, 28, 29, 30, 31, 32] (by decide +kernel) (by decide +kernel)
set_option maxRecDepth 20000 in
theorem gX2_init_X0_init : GoodIn wsX2_init (wsX0_init) := ggX2_init_X0_init
set_option maxRecDepth 20000 in
theorem ggX2_init_X1_init : GoodIn wsX2_init wsX1_init := goodIn_r _ [23, 24, 2, 3, 25, 17, 26, 27, 37, 38, 39, 40, 41, 42, 43, 44, 45, 46] (by decide +kernel) (by decide +kernel)
set_option maxRecDepth 20000 in
theorem gX2_init_X1_init_n28 : GoodIn wsX2_init (wsX1_init) := ggX2_init_X1_init
