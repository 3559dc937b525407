theorem dX5_field_0 : decode cX5_field 0 = .ok (.aload_n 0, 1) := by decide +kernel
theorem dX5_field_1 : decode cX5_field 1 = .ok (.iconst 0, 1) := by decide +kernel
theorem dX5_field_2 : decode cX5_field 2 = .ok (.putfield 22, 3) := by decide +kernel
theorem dX5_field_5 : decode cX5_field 5 = .ok (.iload_n 1, 1) := by decide +kernel
theorem dX5_field_6 : decode cX5_field 6 = .ok (.invokestatic 54, 3) := by decide +kernel
theorem dX5_field_9 : decode cX5_field 9 = .ok (.ifCond .eq 15, 3) := by decide +kernel
theorem dX5_field_12 : decode cX5_field 12 = .ok (.aload_n 0, 1) := by decide +kernel
theorem dX5_field_13 : decode cX5_field 13 = .ok (.getfield 7, 3) := by decide +kernel
theorem dX5_field_16 : decode cX5_field 16 = .ok (.bipush 7, 2) := by decide +kernel
theorem dX5_field_18 : decode cX5_field 18 = .ok (.iload_n 1, 1) := by decide +kernel
theorem dX5_field_19 : decode cX5_field 19 = .ok (.iadd, 1) := by decide +kernel
theorem dX5_field_20 : decode cX5_field 20 = .ok (.iaload, 1) := by decide +kernel
theorem dX5_field_21 : decode cX5_field 21 = .ok (.goto 8, 3) := by decide +kernel
theorem dX5_field_24 : decode cX5_field 24 = .ok (.aload_n 0, 1) := by decide +kernel
theorem dX5_field_25 : decode cX5_field 25 = .ok (.iconst 1, 1) := by decide +kernel
theorem dX5_field_26 : decode cX5_field 26 = .ok (.invokevirtual 33, 3) := by decide +kernel
theorem dX5_field_29 : decode cX5_field 29 = .ok (.ireturn, 1) := by decide +kernel
set_option maxRecDepth 20000 in
theorem ggX5_notice_X5_isField : GoodIn wsX5_notice wsX5_isField := goodIn_r _ [6, 7, 8, 5, 9] (by decide +kernel) (by decide +kernel)
set_option maxRecDepth 20000 in
theorem gX5_notice_X5_isField : GoodIn wsX5_notice (va_wsS RX5 54 yX5_isField wsX5_isField) := goodIn_app (goodIn_of _ (by decide +kernel)) ggX5_notice_X5_isField
set_option maxRecDepth 20000 in
theorem ggX5_notice_X5_fails : GoodIn wsX5_notice wsX5_fails := goodIn_r _ [13, 1, 18, 19, 20, 21, 22, 23, 24, 25, 26, 27] (by decide +kernel) (by decide +kernel)
set_option maxRecDepth 20000 in
theorem gX5_notice_X5_fails : GoodIn wsX5_notice (wsV RX5 33 RX5 yX5_fails wsX5_fails) := goodIn_app (goodIn_of _ (by decide +kernel)) ggX5_notice_X5_fails
set_option maxRecDepth 20000 in
theorem ggX5_notice_X5_isKept : GoodIn wsX5_notice wsX5_isKept := goodIn_r _ [17, 2, 7, 8, 5, 9, 18, 19, 20, 21, 22, 23, 24, 25, 26, 27] (by decide +kernel) (by decide +kernel)
set_option maxRecDepth 20000 in
theorem gX5_notice_X5_isKept : GoodIn wsX5_notice (wsV RX5 77 RX5 yX5_isKept wsX5_isKept) := goodIn_app (goodIn_of _ (by decide +kernel)) ggX5_notice_X5_isKept
theorem dX5_notice_0 : decode cX5_notice 0 = .ok (.aload_n 0, 1) := by decide +kernel
theorem dX5_notice_1 : decode cX5_notice 1 = .ok (.iconst 0, 1) := by decide +kernel
theorem dX5_notice_2 : decode cX5_notice 2 = .ok (.putfield 22, 3) := by decide +kernel
theorem dX5_notice_5 : decode cX5_notice 5 = .ok (.iload_n 2, 1) := by decide +kernel
theorem dX5_notice_6 : decode cX5_notice 6 = .ok (.invokestatic 54, 3) := by decide +kernel
theorem dX5_notice_9 : decode cX5_notice 9 = .ok (.ifCond .ne 9, 3) := by decide +kernel
theorem dX5_notice_12 : decode cX5_notice 12 = .ok (.aload_n 0, 1) := by decide +kernel
theorem dX5_notice_13 : decode cX5_notice 13 = .ok (.iconst 1, 1) := by decide +kernel
theorem dX5_notice_14 : decode cX5_notice 14 = .ok (.invokevirtual 33, 3) := by decide +kernel
theorem dX5_notice_17 : decode cX5_notice 17 = .ok (.ireturn, 1) := by decide +kernel
theorem dX5_notice_18 : decode cX5_notice 18 = .ok (.iload_n 1, 1) := by decide +kernel
theorem dX5_notice_19 : decode cX5_notice 19 = .ok (.ifCond .ge 9, 3) := by decide +kernel
theorem dX5_notice_22 : decode cX5_notice 22 = .ok (.aload_n 0, 1) := by decide +kernel
theorem dX5_notice_23 : decode cX5_notice 23 = .ok (.iconst 2, 1) := by decide +kernel
theorem dX5_notice_24 : decode cX5_notice 24 = .ok (.invokevirtual 33, 3) := by decide +kernel
theorem dX5_notice_27 : decode cX5_notice 27 = .ok (.ireturn, 1) := by decide +kernel
theorem dX5_notice_28 : decode cX5_notice 28 = .ok (.aload_n 0, 1) := by decide +kernel
theorem dX5_notice_29 : decode cX5_notice 29 = .ok (.iload_n 1, 1) := by decide +kernel
theorem dX5_notice_30 : decode cX5_notice 30 = .ok (.invokevirtual 77, 3) := by decide +kernel
theorem dX5_notice_33 : decode cX5_notice 33 = .ok (.ifCond .eq 22, 3) := by decide +kernel
theorem dX5_notice_36 : decode cX5_notice 36 = .ok (.aload_n 0, 1) := by decide +kernel
theorem dX5_notice_37 : decode cX5_notice 37 = .ok (.getfield 7, 3) := by decide +kernel
theorem dX5_notice_40 : decode cX5_notice 40 = .ok (.bipush 83, 2) := by decide +kernel
theorem dX5_notice_42 : decode cX5_notice 42 = .ok (.iconst 5, 1) := by decide +kernel
theorem dX5_notice_43 : decode cX5_notice 43 = .ok (.iload_n 1, 1) := by decide +kernel
theorem dX5_notice_44 : decode cX5_notice 44 = .ok (.bipush 16, 2) := by decide +kernel
theorem dX5_notice_46 : decode cX5_notice 46 = .ok (.irem, 1) := by decide +kernel
theorem dX5_notice_47 : decode cX5_notice 47 = .ok (.imul, 1) := by decide +kernel
theorem dX5_notice_48 : decode cX5_notice 48 = .ok (.iadd, 1) := by decide +kernel
theorem dX5_notice_49 : decode cX5_notice 49 = .ok (.iload_n 2, 1) := by decide +kernel
theorem dX5_notice_50 : decode cX5_notice 50 = .ok (.iadd, 1) := by decide +kernel
theorem dX5_notice_51 : decode cX5_notice 51 = .ok (.iaload, 1) := by decide +kernel
theorem dX5_notice_52 : decode cX5_notice 52 = .ok (.goto 4, 3) := by decide +kernel
theorem dX5_notice_55 : decode cX5_notice 55 = .ok (.iconst (-1), 1) := by decide +kernel
theorem dX5_notice_56 : decode cX5_notice 56 = .ok (.ireturn, 1) := by decide +kernel
set_option maxRecDepth 20000 in
theorem ggX5_ofClerk_X5_mode : GoodIn wsX5_ofClerk wsX5_mode := goodIn_r _ [6, 1, 7, 8, 9, 10, 11, 12, 13, 14, 15, 16] (by decide +kernel) (by decide +kernel)
set_option maxRecDepth 20000 in
theorem gX5_ofClerk_X5_mode : GoodIn wsX5_ofClerk (wsV RX5 45 RX5 yX5_mode wsX5_mode) := goodIn_app (goodIn_of _ (by decide +kernel)) ggX5_ofClerk_X5_mode
theorem dX5_ofClerk_0 : decode cX5_ofClerk 0 = .ok (.aload_n 0, 1) := by decide +kernel
theorem dX5_ofClerk_1 : decode cX5_ofClerk 1 = .ok (.iload_n 1, 1) := by decide +kernel
theorem dX5_ofClerk_2 : decode cX5_ofClerk 2 = .ok (.invokevirtual 45, 3) := by decide +kernel
theorem dX5_ofClerk_5 : decode cX5_ofClerk 5 = .ok (.istore_n 3, 1) := by decide +kernel
theorem dX5_ofClerk_6 : decode cX5_ofClerk 6 = .ok (.iload_n 2, 1) := by decide +kernel
theorem dX5_ofClerk_7 : decode cX5_ofClerk 7 = .ok (.ifCond .ne 7, 3) := by decide +kernel
theorem dX5_ofClerk_10 : decode cX5_ofClerk 10 = .ok (.iload_n 3, 1) := by decide +kernel
theorem dX5_ofClerk_11 : decode cX5_ofClerk 11 = .ok (.goto 44, 3) := by decide +kernel
theorem dX5_ofClerk_14 : decode cX5_ofClerk 14 = .ok (.iload_n 2, 1) := by decide +kernel
theorem dX5_ofClerk_15 : decode cX5_ofClerk 15 = .ok (.iconst 1, 1) := by decide +kernel
theorem dX5_ofClerk_16 : decode cX5_ofClerk 16 = .ok (.if_icmp .ne 30, 3) := by decide +kernel
theorem dX5_ofClerk_19 : decode cX5_ofClerk 19 = .ok (.iload_n 3, 1) := by decide +kernel
theorem dX5_ofClerk_20 : decode cX5_ofClerk 20 = .ok (.iconst 2, 1) := by decide +kernel
theorem dX5_ofClerk_21 : decode cX5_ofClerk 21 = .ok (.if_icmp .ne 21, 3) := by decide +kernel
theorem dX5_ofClerk_24 : decode cX5_ofClerk 24 = .ok (.aload_n 0, 1) := by decide +kernel
theorem dX5_ofClerk_25 : decode cX5_ofClerk 25 = .ok (.getfield 7, 3) := by decide +kernel
theorem dX5_ofClerk_28 : decode cX5_ofClerk 28 = .ok (.iconst 5, 1) := by decide +kernel
theorem dX5_ofClerk_29 : decode cX5_ofClerk 29 = .ok (.iaload, 1) := by decide +kernel
theorem dX5_ofClerk_30 : decode cX5_ofClerk 30 = .ok (.iload_n 1, 1) := by decide +kernel
theorem dX5_ofClerk_31 : decode cX5_ofClerk 31 = .ok (.if_icmp .ne 7, 3) := by decide +kernel
theorem dX5_ofClerk_34 : decode cX5_ofClerk 34 = .ok (.iconst 0, 1) := by decide +kernel
theorem dX5_ofClerk_35 : decode cX5_ofClerk 35 = .ok (.goto 20, 3) := by decide +kernel
theorem dX5_ofClerk_38 : decode cX5_ofClerk 38 = .ok (.iconst 1, 1) := by decide +kernel
theorem dX5_ofClerk_39 : decode cX5_ofClerk 39 = .ok (.goto 16, 3) := by decide +kernel
theorem dX5_ofClerk_42 : decode cX5_ofClerk 42 = .ok (.iconst (-1), 1) := by decide +kernel
theorem dX5_ofClerk_43 : decode cX5_ofClerk 43 = .ok (.goto 12, 3) := by decide +kernel
theorem dX5_ofClerk_46 : decode cX5_ofClerk 46 = .ok (.aload_n 0, 1) := by decide +kernel
theorem dX5_ofClerk_47 : decode cX5_ofClerk 47 = .ok (.getfield 7, 3) := by decide +kernel
theorem dX5_ofClerk_50 : decode cX5_ofClerk 50 = .ok (.bipush 12, 2) := by decide +kernel
theorem dX5_ofClerk_52 : decode cX5_ofClerk 52 = .ok (.iload_n 1, 1) := by decide +kernel
theorem dX5_ofClerk_53 : decode cX5_ofClerk 53 = .ok (.iadd, 1) := by decide +kernel
theorem dX5_ofClerk_54 : decode cX5_ofClerk 54 = .ok (.iaload, 1) := by decide +kernel
theorem dX5_ofClerk_55 : decode cX5_ofClerk 55 = .ok (.ireturn, 1) := by decide +kernel
set_option maxRecDepth 20000 in
theorem ggX5_clerk_X5_isClerk : GoodIn wsX5_clerk wsX5_isClerk := goodIn_r _ [5, 6, 7, 4, 8] (by decide +kernel) (by decide +kernel)
set_option maxRecDepth 20000 in
theorem gX5_clerk_X5_isClerk : GoodIn wsX5_clerk (va_wsS RX5 41 yX5_isClerk wsX5_isClerk) := goodIn_app (goodIn_of _ (by decide +kernel)) ggX5_clerk_X5_isClerk
set_option maxRecDepth 20000 in
theorem ggX5_clerk_X5_fails : GoodIn wsX5_clerk wsX5_fails := goodIn_r _ [12, 1, 22, 23, 24, 25, 26, 27, 28, 29, 30, 31] (by decide +kernel) (by decide +kernel)
set_option maxRecDepth 20000 in
theorem gX5_clerk_X5_fails : GoodIn wsX5_clerk (wsV RX5 33 RX5 yX5_fails wsX5_fails) := goodIn_app (goodIn_of _ (by decide +kernel)) ggX5_clerk_X5_fails
set_option maxRecDepth 20000 in
theorem ggX5_clerk_X5_in : GoodIn wsX5_clerk wsX5_in := goodIn_r _ [8] (by decide +kernel) (by decide +kernel)
set_option maxRecDepth 20000 in
theorem gX5_clerk_X5_in : GoodIn wsX5_clerk (va_wsS RX5 26 yX5_in wsX5_in) := goodIn_app (goodIn_of _ (by decide +kernel)) ggX5_clerk_X5_in
set_option maxRecDepth 20000 in
theorem ggX5_clerk_X5_ofClerk : GoodIn wsX5_clerk wsX5_ofClerk := goodIn_r _ [16, 17, 18, 19, 20, 4, 21, 22, 23, 24, 25, 26, 27, 28, 29, 30, 31] (by decide +kernel) (by decide +kernel)
set_option maxRecDepth 20000 in
theorem gX5_clerk_X5_ofClerk : GoodIn wsX5_clerk (wsV RX5 122 RX5 yX5_ofClerk wsX5_ofClerk) := goodIn_app (goodIn_of _ (by decide +kernel)) ggX5_clerk_X5_ofClerk
theorem dX5_clerk_0 : decode cX5_clerk 0 = .ok (.aload_n 0, 1) := by decide +kernel
theorem dX5_clerk_1 : decode cX5_clerk 1 = .ok (.iconst 0, 1) := by decide +kernel
theorem dX5_clerk_2 : decode cX5_clerk 2 = .ok (.putfield 22, 3) := by decide +kernel
theorem dX5_clerk_5 : decode cX5_clerk 5 = .ok (.iload_n 1, 1) := by decide +kernel
theorem dX5_clerk_6 : decode cX5_clerk 6 = .ok (.invokestatic 41, 3) := by decide +kernel
theorem dX5_clerk_9 : decode cX5_clerk 9 = .ok (.ifCond .ne 9, 3) := by decide +kernel
theorem dX5_clerk_12 : decode cX5_clerk 12 = .ok (.aload_n 0, 1) := by decide +kernel
theorem dX5_clerk_13 : decode cX5_clerk 13 = .ok (.iconst 1, 1) := by decide +kernel
theorem dX5_clerk_14 : decode cX5_clerk 14 = .ok (.invokevirtual 33, 3) := by decide +kernel
theorem dX5_clerk_17 : decode cX5_clerk 17 = .ok (.ireturn, 1) := by decide +kernel
theorem dX5_clerk_18 : decode cX5_clerk 18 = .ok (.iload_n 2, 1) := by decide +kernel
theorem dX5_clerk_19 : decode cX5_clerk 19 = .ok (.iconst 0, 1) := by decide +kernel
theorem dX5_clerk_20 : decode cX5_clerk 20 = .ok (.iconst 2, 1) := by decide +kernel
theorem dX5_clerk_21 : decode cX5_clerk 21 = .ok (.invokestatic 26, 3) := by decide +kernel
theorem dX5_clerk_24 : decode cX5_clerk 24 = .ok (.ifCond .eq 12, 3) := by decide +kernel
theorem dX5_clerk_27 : decode cX5_clerk 27 = .ok (.aload_n 0, 1) := by decide +kernel
theorem dX5_clerk_28 : decode cX5_clerk 28 = .ok (.iload_n 1, 1) := by decide +kernel
theorem dX5_clerk_29 : decode cX5_clerk 29 = .ok (.iload_n 2, 1) := by decide +kernel
theorem dX5_clerk_30 : decode cX5_clerk 30 = .ok (.invokevirtual 122, 3) := by decide +kernel
theorem dX5_clerk_33 : decode cX5_clerk 33 = .ok (.goto 8, 3) := by decide +kernel
theorem dX5_clerk_36 : decode cX5_clerk 36 = .ok (.aload_n 0, 1) := by decide +kernel
theorem dX5_clerk_37 : decode cX5_clerk 37 = .ok (.iconst 2, 1) := by decide +kernel
theorem dX5_clerk_38 : decode cX5_clerk 38 = .ok (.invokevirtual 33, 3) := by decide +kernel
theorem dX5_clerk_41 : decode cX5_clerk 41 = .ok (.ireturn, 1) := by decide +kernel
set_option maxRecDepth 20000 in
theorem ggX5_ofReader_X5_ofReading : GoodIn wsX5_ofReader wsX5_ofReading := goodIn_r _ [5, 6, 7, 8, 9, 4, 10, 22, 23, 24, 25, 26, 27, 28, 29, 30, 31] (by decide +kernel) (by decide +kernel)
set_option maxRecDepth 20000 in
theorem gX5_ofReader_X5_ofReading : GoodIn wsX5_ofReader (wsV RX5 71 RX5 yX5_ofReading wsX5_ofReading) := goodIn_app (goodIn_of _ (by decide +kernel)) ggX5_ofReader_X5_ofReading
set_option maxRecDepth 20000 in
theorem ggX5_ofReader_X5_of : GoodIn wsX5_ofReader wsX5_of := goodIn_r _ [10, 6, 22, 23, 24, 25, 26, 27, 28, 29, 30, 31] (by decide +kernel) (by decide +kernel)
set_option maxRecDepth 20000 in
theorem gX5_ofReader_X5_of : GoodIn wsX5_ofReader (wsV RX5 63 RX5 yX5_of wsX5_of) := goodIn_app (goodIn_of _ (by decide +kernel)) ggX5_ofReader_X5_of
set_option maxRecDepth 20000 in
theorem ggX5_ofReader_X5_same : GoodIn wsX5_ofReader wsX5_same := goodIn_r _ [14, 6, 15, 16, 17, 4, 18, 19, 20, 21, 22, 23, 24, 25, 26, 27, 28, 29, 30, 31] (by decide +kernel) (by decide +kernel)
set_option maxRecDepth 20000 in
theorem gX5_ofReader_X5_same : GoodIn wsX5_ofReader (wsV RX5 80 RX5 yX5_same wsX5_same) := goodIn_app (goodIn_of _ (by decide +kernel)) ggX5_ofReader_X5_same
theorem dX5_ofReader_0 : decode cX5_ofReader 0 = .ok (.iload_n 2, 1) := by decide +kernel
theorem dX5_ofReader_1 : decode cX5_ofReader 1 = .ok (.tableswitch 114 0 6 #[43, 49, 56, 77, 77, 77, 84], 43) := by decide +kernel
theorem dX5_ofReader_44 : decode cX5_ofReader 44 = .ok (.aload_n 0, 1) := by decide +kernel
theorem dX5_ofReader_45 : decode cX5_ofReader 45 = .ok (.iload_n 1, 1) := by decide +kernel
theorem dX5_ofReader_46 : decode cX5_ofReader 46 = .ok (.invokevirtual 71, 3) := by decide +kernel
theorem dX5_ofReader_49 : decode cX5_ofReader 49 = .ok (.ireturn, 1) := by decide +kernel
theorem dX5_ofReader_50 : decode cX5_ofReader 50 = .ok (.aload_n 0, 1) := by decide +kernel
theorem dX5_ofReader_51 : decode cX5_ofReader 51 = .ok (.iload_n 1, 1) := by decide +kernel
theorem dX5_ofReader_52 : decode cX5_ofReader 52 = .ok (.iconst 1, 1) := by decide +kernel
theorem dX5_ofReader_53 : decode cX5_ofReader 53 = .ok (.invokevirtual 63, 3) := by decide +kernel
theorem dX5_ofReader_56 : decode cX5_ofReader 56 = .ok (.ireturn, 1) := by decide +kernel
theorem dX5_ofReader_57 : decode cX5_ofReader 57 = .ok (.aload_n 0, 1) := by decide +kernel
theorem dX5_ofReader_58 : decode cX5_ofReader 58 = .ok (.iload_n 1, 1) := by decide +kernel
theorem dX5_ofReader_59 : decode cX5_ofReader 59 = .ok (.iconst 1, 1) := by decide +kernel
theorem dX5_ofReader_60 : decode cX5_ofReader 60 = .ok (.invokevirtual 63, 3) := by decide +kernel
theorem dX5_ofReader_63 : decode cX5_ofReader 63 = .ok (.iconst (-1), 1) := by decide +kernel
theorem dX5_ofReader_64 : decode cX5_ofReader 64 = .ok (.if_icmp .ne 7, 3) := by decide +kernel
theorem dX5_ofReader_67 : decode cX5_ofReader 67 = .ok (.iconst (-1), 1) := by decide +kernel
theorem dX5_ofReader_68 : decode cX5_ofReader 68 = .ok (.goto 9, 3) := by decide +kernel
theorem dX5_ofReader_71 : decode cX5_ofReader 71 = .ok (.aload_n 0, 1) := by decide +kernel
theorem dX5_ofReader_72 : decode cX5_ofReader 72 = .ok (.iload_n 1, 1) := by decide +kernel
theorem dX5_ofReader_73 : decode cX5_ofReader 73 = .ok (.iconst 2, 1) := by decide +kernel
theorem dX5_ofReader_74 : decode cX5_ofReader 74 = .ok (.invokevirtual 63, 3) := by decide +kernel
theorem dX5_ofReader_77 : decode cX5_ofReader 77 = .ok (.ireturn, 1) := by decide +kernel
theorem dX5_ofReader_78 : decode cX5_ofReader 78 = .ok (.aload_n 0, 1) := by decide +kernel
theorem dX5_ofReader_79 : decode cX5_ofReader 79 = .ok (.iload_n 1, 1) := by decide +kernel
theorem dX5_ofReader_80 : decode cX5_ofReader 80 = .ok (.iload_n 2, 1) := by decide +kernel
theorem dX5_ofReader_81 : decode cX5_ofReader 81 = .ok (.invokevirtual 63, 3) := by decide +kernel
theorem dX5_ofReader_84 : decode cX5_ofReader 84 = .ok (.ireturn, 1) := by decide +kernel
theorem dX5_ofReader_85 : decode cX5_ofReader 85 = .ok (.aload_n 0, 1) := by decide +kernel
theorem dX5_ofReader_86 : decode cX5_ofReader 86 = .ok (.iload_n 1, 1) := by decide +kernel
theorem dX5_ofReader_87 : decode cX5_ofReader 87 = .ok (.bipush 6, 2) := by decide +kernel
theorem dX5_ofReader_89 : decode cX5_ofReader 89 = .ok (.invokevirtual 63, 3) := by decide +kernel
theorem dX5_ofReader_92 : decode cX5_ofReader 92 = .ok (.iconst 1, 1) := by decide +kernel
theorem dX5_ofReader_93 : decode cX5_ofReader 93 = .ok (.if_icmp .ne 20, 3) := by decide +kernel
theorem dX5_ofReader_96 : decode cX5_ofReader 96 = .ok (.aload_n 0, 1) := by decide +kernel
theorem dX5_ofReader_97 : decode cX5_ofReader 97 = .ok (.bipush 15, 2) := by decide +kernel
theorem dX5_ofReader_99 : decode cX5_ofReader 99 = .ok (.bipush 17, 2) := by decide +kernel
theorem dX5_ofReader_101 : decode cX5_ofReader 101 = .ok (.iload_n 1, 1) := by decide +kernel
theorem dX5_ofReader_102 : decode cX5_ofReader 102 = .ok (.imul, 1) := by decide +kernel
theorem dX5_ofReader_103 : decode cX5_ofReader 103 = .ok (.iadd, 1) := by decide +kernel
theorem dX5_ofReader_104 : decode cX5_ofReader 104 = .ok (.bipush 12, 2) := by decide +kernel
theorem dX5_ofReader_106 : decode cX5_ofReader 106 = .ok (.iadd, 1) := by decide +kernel
theorem dX5_ofReader_107 : decode cX5_ofReader 107 = .ok (.invokevirtual 80, 3) := by decide +kernel
theorem dX5_ofReader_110 : decode cX5_ofReader 110 = .ok (.goto 4, 3) := by decide +kernel
theorem dX5_ofReader_113 : decode cX5_ofReader 113 = .ok (.iconst (-1), 1) := by decide +kernel
theorem dX5_ofReader_114 : decode cX5_ofReader 114 = .ok (.ireturn, 1) := by decide +kernel
theorem dX5_ofReader_115 : decode cX5_ofReader 115 = .ok (.aload_n 0, 1) := by decide +kernel
theorem dX5_ofReader_116 : decode cX5_ofReader 116 = .ok (.iload_n 1, 1) := by decide +kernel
theorem dX5_ofReader_117 : decode cX5_ofReader 117 = .ok (.iconst 0, 1) := by decide +kernel
theorem dX5_ofReader_118 : decode cX5_ofReader 118 = .ok (.invokevirtual 63, 3) := by decide +kernel
theorem dX5_ofReader_121 : decode cX5_ofReader 121 = .ok (.ireturn, 1) := by decide +kernel
set_option maxRecDepth 20000 in
theorem ggX5_readerOf_X5_isReader : GoodIn wsX5_readerOf wsX5_isReader := goodIn_r _ [5, 6, 7, 4, 8] (by decide +kernel) (by decide +kernel)
set_option maxRecDepth 20000 in
theorem gX5_readerOf_X5_isReader : GoodIn wsX5_readerOf (va_wsS RX5 60 yX5_isReader wsX5_isReader) := goodIn_app (goodIn_of _ (by decide +kernel)) ggX5_readerOf_X5_isReader
set_option maxRecDepth 20000 in
theorem ggX5_readerOf_X5_fails : GoodIn wsX5_readerOf wsX5_fails := goodIn_r _ [12, 1, 34, 35, 36, 37, 38, 39, 40, 41, 42, 43] (by decide +kernel) (by decide +kernel)
set_option maxRecDepth 20000 in
theorem gX5_readerOf_X5_fails : GoodIn wsX5_readerOf (wsV RX5 33 RX5 yX5_fails wsX5_fails) := goodIn_app (goodIn_of _ (by decide +kernel)) ggX5_readerOf_X5_fails
set_option maxRecDepth 20000 in
theorem ggX5_readerOf_X5_in : GoodIn wsX5_readerOf wsX5_in := goodIn_r _ [8] (by decide +kernel) (by decide +kernel)
set_option maxRecDepth 20000 in
theorem gX5_readerOf_X5_in : GoodIn wsX5_readerOf (va_wsS RX5 26 yX5_in wsX5_in) := goodIn_app (goodIn_of _ (by decide +kernel)) ggX5_readerOf_X5_in
set_option maxRecDepth 20000 in
theorem ggX5_readerOf_X5_ofReader : GoodIn wsX5_readerOf wsX5_ofReader := goodIn_r _ [16, 17, 18, 19, 4, 20, 21, 22, 23, 24, 25, 26, 27, 28, 29, 30, 31, 32, 33, 6, 7, 8, 34, 35, 36, 37, 38, 39, 40, 41, 42, 43] (by decide +kernel) (by decide +kernel)
set_option maxRecDepth 20000 in
theorem gX5_readerOf_X5_ofReader : GoodIn wsX5_readerOf (wsV RX5 125 RX5 yX5_ofReader wsX5_ofReader) := goodIn_app (goodIn_of _ (by decide +kernel)) ggX5_readerOf_X5_ofReader
theorem dX5_readerOf_0 : decode cX5_readerOf 0 = .ok (.aload_n 0, 1) := by decide +kernel
theorem dX5_readerOf_1 : decode cX5_readerOf 1 = .ok (.iconst 0, 1) := by decide +kernel
theorem dX5_readerOf_2 : decode cX5_readerOf 2 = .ok (.putfield 22, 3) := by decide +kernel
theorem dX5_readerOf_5 : decode cX5_readerOf 5 = .ok (.iload_n 1, 1) := by decide +kernel
theorem dX5_readerOf_6 : decode cX5_readerOf 6 = .ok (.invokestatic 60, 3) := by decide +kernel
theorem dX5_readerOf_9 : decode cX5_readerOf 9 = .ok (.ifCond .ne 9, 3) := by decide +kernel
theorem dX5_readerOf_12 : decode cX5_readerOf 12 = .ok (.aload_n 0, 1) := by decide +kernel
theorem dX5_readerOf_13 : decode cX5_readerOf 13 = .ok (.iconst 1, 1) := by decide +kernel
theorem dX5_readerOf_14 : decode cX5_readerOf 14 = .ok (.invokevirtual 33, 3) := by decide +kernel
theorem dX5_readerOf_17 : decode cX5_readerOf 17 = .ok (.ireturn, 1) := by decide +kernel
theorem dX5_readerOf_18 : decode cX5_readerOf 18 = .ok (.iload_n 2, 1) := by decide +kernel
theorem dX5_readerOf_19 : decode cX5_readerOf 19 = .ok (.iconst 0, 1) := by decide +kernel
theorem dX5_readerOf_20 : decode cX5_readerOf 20 = .ok (.bipush 7, 2) := by decide +kernel
theorem dX5_readerOf_22 : decode cX5_readerOf 22 = .ok (.invokestatic 26, 3) := by decide +kernel
theorem dX5_readerOf_25 : decode cX5_readerOf 25 = .ok (.ifCond .eq 12, 3) := by decide +kernel
theorem dX5_readerOf_28 : decode cX5_readerOf 28 = .ok (.aload_n 0, 1) := by decide +kernel
theorem dX5_readerOf_29 : decode cX5_readerOf 29 = .ok (.iload_n 1, 1) := by decide +kernel
theorem dX5_readerOf_30 : decode cX5_readerOf 30 = .ok (.iload_n 2, 1) := by decide +kernel
theorem dX5_readerOf_31 : decode cX5_readerOf 31 = .ok (.invokevirtual 125, 3) := by decide +kernel
theorem dX5_readerOf_34 : decode cX5_readerOf 34 = .ok (.goto 8, 3) := by decide +kernel
theorem dX5_readerOf_37 : decode cX5_readerOf 37 = .ok (.aload_n 0, 1) := by decide +kernel
theorem dX5_readerOf_38 : decode cX5_readerOf 38 = .ok (.iconst 2, 1) := by decide +kernel
theorem dX5_readerOf_39 : decode cX5_readerOf 39 = .ok (.invokevirtual 33, 3) := by decide +kernel
theorem dX5_readerOf_42 : decode cX5_readerOf 42 = .ok (.ireturn, 1) := by decide +kernel
set_option maxRecDepth 20000 in
theorem ggX5_had_X5_of : GoodIn wsX5_had wsX5_of := goodIn_r _ [5, 6, 7, 8, 9, 10, 11, 12, 13, 14, 15, 16] (by decide +kernel) (by decide +kernel)
set_option maxRecDepth 20000 in
theorem gX5_had_X5_of : GoodIn wsX5_had (wsV RX5 63 RX5 yX5_of wsX5_of) := goodIn_app (goodIn_of _ (by decide +kernel)) ggX5_had_X5_of
theorem dX5_had_0 : decode cX5_had 0 = .ok (.aload_n 0, 1) := by decide +kernel
theorem dX5_had_1 : decode cX5_had 1 = .ok (.iload_n 1, 1) := by decide +kernel
theorem dX5_had_2 : decode cX5_had 2 = .ok (.bipush 6, 2) := by decide +kernel
theorem dX5_had_4 : decode cX5_had 4 = .ok (.invokevirtual 63, 3) := by decide +kernel
theorem dX5_had_7 : decode cX5_had 7 = .ok (.iconst 1, 1) := by decide +kernel
theorem dX5_had_8 : decode cX5_had 8 = .ok (.if_icmp .ne 15, 3) := by decide +kernel
theorem dX5_had_11 : decode cX5_had 11 = .ok (.aload_n 0, 1) := by decide +kernel
theorem dX5_had_12 : decode cX5_had 12 = .ok (.iload_n 1, 1) := by decide +kernel
theorem dX5_had_13 : decode cX5_had 13 = .ok (.bipush 12, 2) := by decide +kernel
theorem dX5_had_15 : decode cX5_had 15 = .ok (.iload_n 2, 1) := by decide +kernel
theorem dX5_had_16 : decode cX5_had 16 = .ok (.iadd, 1) := by decide +kernel
theorem dX5_had_17 : decode cX5_had 17 = .ok (.invokevirtual 63, 3) := by decide +kernel
theorem dX5_had_20 : decode cX5_had 20 = .ok (.goto 4, 3) := by decide +kernel
theorem dX5_had_23 : decode cX5_had 23 = .ok (.iconst (-1), 1) := by decide +kernel
theorem dX5_had_24 : decode cX5_had 24 = .ok (.ireturn, 1) := by decide +kernel
set_option maxRecDepth 20000 in
theorem ggX5_has_X5_isReader : GoodIn wsX5_has wsX5_isReader := goodIn_r _ [5, 6, 7, 4, 8] (by decide +kernel) (by decide +kernel)
set_option maxRecDepth 20000 in
theorem gX5_has_X5_isReader : GoodIn wsX5_has (va_wsS RX5 60 yX5_isReader wsX5_isReader) := goodIn_app (goodIn_of _ (by decide +kernel)) ggX5_has_X5_isReader
set_option maxRecDepth 20000 in
theorem ggX5_has_X5_isField : GoodIn wsX5_has wsX5_isField := goodIn_r _ [11, 6, 7, 4, 8] (by decide +kernel) (by decide +kernel)
set_option maxRecDepth 20000 in
theorem gX5_has_X5_isField : GoodIn wsX5_has (va_wsS RX5 54 yX5_isField wsX5_isField) := goodIn_app (goodIn_of _ (by decide +kernel)) ggX5_has_X5_isField
set_option maxRecDepth 20000 in
theorem ggX5_has_X5_had : GoodIn wsX5_has wsX5_had := goodIn_r _ [15, 16, 17, 18, 4, 19, 20, 25, 26, 27, 28, 29, 30, 31, 32, 33, 34] (by decide +kernel) (by decide +kernel)
set_option maxRecDepth 20000 in
theorem gX5_has_X5_had : GoodIn wsX5_has (wsV RX5 128 RX5 yX5_had wsX5_had) := goodIn_app (goodIn_of _ (by decide +kernel)) ggX5_has_X5_had
set_option maxRecDepth 20000 in
theorem ggX5_has_X5_fails : GoodIn wsX5_has wsX5_fails := goodIn_r _ [24, 1, 25, 26, 27, 28, 29, 30, 31, 32, 33, 34] (by decide +kernel) (by decide +kernel)
set_option maxRecDepth 20000 in
theorem gX5_has_X5_fails : GoodIn wsX5_has (wsV RX5 33 RX5 yX5_fails wsX5_fails) := goodIn_app (goodIn_of _ (by decide +kernel)) ggX5_has_X5_fails
theorem dX5_has_0 : decode cX5_has 0 = .ok (.aload_n 0, 1) := by decide +kernel
theorem dX5_has_1 : decode cX5_has 1 = .ok (.iconst 0, 1) := by decide +kernel
theorem dX5_has_2 : decode cX5_has 2 = .ok (.putfield 22, 3) := by decide +kernel
theorem dX5_has_5 : decode cX5_has 5 = .ok (.iload_n 1, 1) := by decide +kernel
theorem dX5_has_6 : decode cX5_has 6 = .ok (.invokestatic 60, 3) := by decide +kernel
theorem dX5_has_9 : decode cX5_has 9 = .ok (.ifCond .eq 19, 3) := by decide +kernel
theorem dX5_has_12 : decode cX5_has 12 = .ok (.iload_n 2, 1) := by decide +kernel
theorem dX5_has_13 : decode cX5_has 13 = .ok (.invokestatic 54, 3) := by decide +kernel
theorem dX5_has_16 : decode cX5_has 16 = .ok (.ifCond .eq 12, 3) := by decide +kernel
theorem dX5_has_19 : decode cX5_has 19 = .ok (.aload_n 0, 1) := by decide +kernel
theorem dX5_has_20 : decode cX5_has 20 = .ok (.iload_n 1, 1) := by decide +kernel
theorem dX5_has_21 : decode cX5_has 21 = .ok (.iload_n 2, 1) := by decide +kernel
theorem dX5_has_22 : decode cX5_has 22 = .ok (.invokevirtual 128, 3) := by decide +kernel
theorem dX5_has_25 : decode cX5_has 25 = .ok (.goto 8, 3) := by decide +kernel
theorem dX5_has_28 : decode cX5_has 28 = .ok (.aload_n 0, 1) := by decide +kernel
theorem dX5_has_29 : decode cX5_has 29 = .ok (.iconst 1, 1) := by decide +kernel
theorem dX5_has_30 : decode cX5_has 30 = .ok (.invokevirtual 33, 3) := by decide +kernel
theorem dX5_has_33 : decode cX5_has 33 = .ok (.ireturn, 1) := by decide +kernel
set_option maxRecDepth 20000 in
theorem ggX5_ofAll_X5_ofReading : GoodIn wsX5_ofAll wsX5_ofReading := goodIn_r _ [5, 6, 7, 8, 9, 4, 10, 11, 12, 13, 14, 15, 16, 17, 18, 19, 20] (by decide +kernel) (by decide +kernel)
set_option maxRecDepth 20000 in
theorem gX5_ofAll_X5_ofReading : GoodIn wsX5_ofAll (wsV RX5 71 RX5 yX5_ofReading wsX5_ofReading) := goodIn_app (goodIn_of _ (by decide +kernel)) ggX5_ofAll_X5_ofReading
set_option maxRecDepth 20000 in
theorem ggX5_ofAll_X5_of : GoodIn wsX5_ofAll wsX5_of := goodIn_r _ [10, 6, 11, 12, 13, 14, 15, 16, 17, 18, 19, 20] (by decide +kernel) (by decide +kernel)
set_option maxRecDepth 20000 in
theorem gX5_ofAll_X5_of : GoodIn wsX5_ofAll (wsV RX5 63 RX5 yX5_of wsX5_of) := goodIn_app (goodIn_of _ (by decide +kernel)) ggX5_ofAll_X5_of
theorem dX5_ofAll_0 : decode cX5_ofAll 0 = .ok (.iconst 0, 1) := by decide +kernel
theorem dX5_ofAll_1 : decode cX5_ofAll 1 = .ok (.istore_n 2, 1) := by decide +kernel
theorem dX5_ofAll_2 : decode cX5_ofAll 2 = .ok (.iconst 0, 1) := by decide +kernel
theorem dX5_ofAll_3 : decode cX5_ofAll 3 = .ok (.istore_n 3, 1) := by decide +kernel
theorem dX5_ofAll_4 : decode cX5_ofAll 4 = .ok (.iload_n 3, 1) := by decide +kernel
theorem dX5_ofAll_5 : decode cX5_ofAll 5 = .ok (.iconst 4, 1) := by decide +kernel
theorem dX5_ofAll_6 : decode cX5_ofAll 6 = .ok (.if_icmp .ge 39, 3) := by decide +kernel
theorem dX5_ofAll_9 : decode cX5_ofAll 9 = .ok (.iload_n 2, 1) := by decide +kernel
theorem dX5_ofAll_10 : decode cX5_ofAll 10 = .ok (.iload_n 1, 1) := by decide +kernel
theorem dX5_ofAll_11 : decode cX5_ofAll 11 = .ok (.ifCond .ne 20, 3) := by decide +kernel
theorem dX5_ofAll_14 : decode cX5_ofAll 14 = .ok (.aload_n 0, 1) := by decide +kernel
theorem dX5_ofAll_15 : decode cX5_ofAll 15 = .ok (.iload_n 3, 1) := by decide +kernel
theorem dX5_ofAll_16 : decode cX5_ofAll 16 = .ok (.invokevirtual 71, 3) := by decide +kernel
theorem dX5_ofAll_19 : decode cX5_ofAll 19 = .ok (.iconst 1, 1) := by decide +kernel
theorem dX5_ofAll_20 : decode cX5_ofAll 20 = .ok (.if_icmp .ne 7, 3) := by decide +kernel
theorem dX5_ofAll_23 : decode cX5_ofAll 23 = .ok (.iconst 1, 1) := by decide +kernel
theorem dX5_ofAll_24 : decode cX5_ofAll 24 = .ok (.goto 13, 3) := by decide +kernel
theorem dX5_ofAll_27 : decode cX5_ofAll 27 = .ok (.iconst 0, 1) := by decide +kernel
theorem dX5_ofAll_28 : decode cX5_ofAll 28 = .ok (.goto 9, 3) := by decide +kernel
theorem dX5_ofAll_31 : decode cX5_ofAll 31 = .ok (.aload_n 0, 1) := by decide +kernel
theorem dX5_ofAll_32 : decode cX5_ofAll 32 = .ok (.iload_n 3, 1) := by decide +kernel
theorem dX5_ofAll_33 : decode cX5_ofAll 33 = .ok (.iload_n 1, 1) := by decide +kernel
theorem dX5_ofAll_34 : decode cX5_ofAll 34 = .ok (.invokevirtual 63, 3) := by decide +kernel
theorem dX5_ofAll_37 : decode cX5_ofAll 37 = .ok (.iadd, 1) := by decide +kernel
theorem dX5_ofAll_38 : decode cX5_ofAll 38 = .ok (.istore_n 2, 1) := by decide +kernel
theorem dX5_ofAll_39 : decode cX5_ofAll 39 = .ok (.iinc 3 1, 3) := by decide +kernel
theorem dX5_ofAll_42 : decode cX5_ofAll 42 = .ok (.goto (-38), 3) := by decide +kernel
theorem dX5_ofAll_45 : decode cX5_ofAll 45 = .ok (.iload_n 2, 1) := by decide +kernel
theorem dX5_ofAll_46 : decode cX5_ofAll 46 = .ok (.ireturn, 1) := by decide +kernel
set_option maxRecDepth 20000 in
theorem ggX5_counted_X5_ofAll : GoodIn wsX5_counted wsX5_ofAll := goodIn_r _ [7, 8, 9, 10, 6, 11, 1, 12, 13, 14, 15, 16, 17, 18, 19, 20, 21, 22, 23, 24, 25] (by decide +kernel) (by decide +kernel)
set_option maxRecDepth 20000 in
theorem gX5_counted_X5_ofAll : GoodIn wsX5_counted (wsV RX5 131 RX5 yX5_ofAll wsX5_ofAll) := goodIn_app (goodIn_of _ (by decide +kernel)) ggX5_counted_X5_ofAll
theorem dX5_counted_0 : decode cX5_counted 0 = .ok (.iload_n 1, 1) := by decide +kernel
theorem dX5_counted_1 : decode cX5_counted 1 = .ok (.tableswitch 100 0 7 #[47, 54, 61, 68, 74, 80, 86, 93], 47) := by decide +kernel
theorem dX5_counted_48 : decode cX5_counted 48 = .ok (.aload_n 0, 1) := by decide +kernel
theorem dX5_counted_49 : decode cX5_counted 49 = .ok (.getfield 7, 3) := by decide +kernel
theorem dX5_counted_52 : decode cX5_counted 52 = .ok (.iconst 0, 1) := by decide +kernel
theorem dX5_counted_53 : decode cX5_counted 53 = .ok (.iaload, 1) := by decide +kernel
theorem dX5_counted_54 : decode cX5_counted 54 = .ok (.ireturn, 1) := by decide +kernel
theorem dX5_counted_55 : decode cX5_counted 55 = .ok (.aload_n 0, 1) := by decide +kernel
theorem dX5_counted_56 : decode cX5_counted 56 = .ok (.getfield 7, 3) := by decide +kernel
theorem dX5_counted_59 : decode cX5_counted 59 = .ok (.iconst 3, 1) := by decide +kernel
theorem dX5_counted_60 : decode cX5_counted 60 = .ok (.iaload, 1) := by decide +kernel
theorem dX5_counted_61 : decode cX5_counted 61 = .ok (.ireturn, 1) := by decide +kernel
theorem dX5_counted_62 : decode cX5_counted 62 = .ok (.aload_n 0, 1) := by decide +kernel
theorem dX5_counted_63 : decode cX5_counted 63 = .ok (.getfield 7, 3) := by decide +kernel
theorem dX5_counted_66 : decode cX5_counted 66 = .ok (.iconst 4, 1) := by decide +kernel
theorem dX5_counted_67 : decode cX5_counted 67 = .ok (.iaload, 1) := by decide +kernel
theorem dX5_counted_68 : decode cX5_counted 68 = .ok (.ireturn, 1) := by decide +kernel
theorem dX5_counted_69 : decode cX5_counted 69 = .ok (.aload_n 0, 1) := by decide +kernel
theorem dX5_counted_70 : decode cX5_counted 70 = .ok (.iconst 0, 1) := by decide +kernel
theorem dX5_counted_71 : decode cX5_counted 71 = .ok (.invokevirtual 131, 3) := by decide +kernel
theorem dX5_counted_74 : decode cX5_counted 74 = .ok (.ireturn, 1) := by decide +kernel
theorem dX5_counted_75 : decode cX5_counted 75 = .ok (.aload_n 0, 1) := by decide +kernel
theorem dX5_counted_76 : decode cX5_counted 76 = .ok (.iconst 4, 1) := by decide +kernel
theorem dX5_counted_77 : decode cX5_counted 77 = .ok (.invokevirtual 131, 3) := by decide +kernel
theorem dX5_counted_80 : decode cX5_counted 80 = .ok (.ireturn, 1) := by decide +kernel
theorem dX5_counted_81 : decode cX5_counted 81 = .ok (.aload_n 0, 1) := by decide +kernel
theorem dX5_counted_82 : decode cX5_counted 82 = .ok (.iconst 5, 1) := by decide +kernel
theorem dX5_counted_83 : decode cX5_counted 83 = .ok (.invokevirtual 131, 3) := by decide +kernel
theorem dX5_counted_86 : decode cX5_counted 86 = .ok (.ireturn, 1) := by decide +kernel
theorem dX5_counted_87 : decode cX5_counted 87 = .ok (.aload_n 0, 1) := by decide +kernel
theorem dX5_counted_88 : decode cX5_counted 88 = .ok (.getfield 7, 3) := by decide +kernel
theorem dX5_counted_91 : decode cX5_counted 91 = .ok (.iconst 2, 1) := by decide +kernel
theorem dX5_counted_92 : decode cX5_counted 92 = .ok (.iaload, 1) := by decide +kernel
theorem dX5_counted_93 : decode cX5_counted 93 = .ok (.ireturn, 1) := by decide +kernel
theorem dX5_counted_94 : decode cX5_counted 94 = .ok (.aload_n 0, 1) := by decide +kernel
theorem dX5_counted_95 : decode cX5_counted 95 = .ok (.getfield 7, 3) := by decide +kernel
theorem dX5_counted_98 : decode cX5_counted 98 = .ok (.iconst 1, 1) := by decide +kernel
theorem dX5_counted_99 : decode cX5_counted 99 = .ok (.iaload, 1) := by decide +kernel
theorem dX5_counted_100 : decode cX5_counted 100 = .ok (.ireturn, 1) := by decide +kernel
theorem dX5_counted_101 : decode cX5_counted 101 = .ok (.aload_n 0, 1) := by decide +kernel
theorem dX5_counted_102 : decode cX5_counted 102 = .ok (.getfield 30, 3) := by decide +kernel
theorem dX5_counted_105 : decode cX5_counted 105 = .ok (.ireturn, 1) := by decide +kernel
set_option maxRecDepth 20000 in
theorem ggX5_count_X5_in : GoodIn wsX5_count wsX5_in := goodIn_r _ [5] (by decide +kernel) (by decide +kernel)
set_option maxRecDepth 20000 in
theorem gX5_count_X5_in : GoodIn wsX5_count (va_wsS RX5 26 yX5_in wsX5_in) := goodIn_app (goodIn_of _ (by decide +kernel)) ggX5_count_X5_in
set_option maxRecDepth 20000 in
theorem ggX5_count_X5_counted : GoodIn wsX5_count wsX5_counted := goodIn_r _ [9, 10, 11, 12, 13, 14, 4, 15, 16, 17, 18, 19, 20, 21, 22, 23, 28, 29, 30, 31, 32, 33, 34, 35, 36, 37] (by decide +kernel) (by decide +kernel)
set_option maxRecDepth 20000 in
theorem gX5_count_X5_counted : GoodIn wsX5_count (wsV RX5 134 RX5 yX5_counted wsX5_counted) := goodIn_app (goodIn_of _ (by decide +kernel)) ggX5_count_X5_counted
set_option maxRecDepth 20000 in
theorem ggX5_count_X5_fails : GoodIn wsX5_count wsX5_fails := goodIn_r _ [27, 1, 28, 29, 30, 31, 32, 33, 34, 35, 36, 37] (by decide +kernel) (by decide +kernel)
set_option maxRecDepth 20000 in
theorem gX5_count_X5_fails : GoodIn wsX5_count (wsV RX5 33 RX5 yX5_fails wsX5_fails) := goodIn_app (goodIn_of _ (by decide +kernel)) ggX5_count_X5_fails
theorem dX5_count_0 : decode cX5_count 0 = .ok (.aload_n 0, 1) := by decide +kernel
theorem dX5_count_1 : decode cX5_count 1 = .ok (.iconst 0, 1) := by decide +kernel
theorem dX5_count_2 : decode cX5_count 2 = .ok (.putfield 22, 3) := by decide +kernel
theorem dX5_count_5 : decode cX5_count 5 = .ok (.iload_n 1, 1) := by decide +kernel
theorem dX5_count_6 : decode cX5_count 6 = .ok (.iconst 0, 1) := by decide +kernel
theorem dX5_count_7 : decode cX5_count 7 = .ok (.bipush 8, 2) := by decide +kernel
theorem dX5_count_9 : decode cX5_count 9 = .ok (.invokestatic 26, 3) := by decide +kernel
theorem dX5_count_12 : decode cX5_count 12 = .ok (.ifCond .eq 11, 3) := by decide +kernel
theorem dX5_count_15 : decode cX5_count 15 = .ok (.aload_n 0, 1) := by decide +kernel
theorem dX5_count_16 : decode cX5_count 16 = .ok (.iload_n 1, 1) := by decide +kernel
theorem dX5_count_17 : decode cX5_count 17 = .ok (.invokevirtual 134, 3) := by decide +kernel
theorem dX5_count_20 : decode cX5_count 20 = .ok (.goto 8, 3) := by decide +kernel
theorem dX5_count_23 : decode cX5_count 23 = .ok (.aload_n 0, 1) := by decide +kernel
theorem dX5_count_24 : decode cX5_count 24 = .ok (.iconst 1, 1) := by decide +kernel
theorem dX5_count_25 : decode cX5_count 25 = .ok (.invokevirtual 33, 3) := by decide +kernel
theorem dX5_count_28 : decode cX5_count 28 = .ok (.ireturn, 1) := by decide +kernel
set_option maxRecDepth 20000 in
theorem ggX5_tries_X5_ofReading : GoodIn wsX5_tries wsX5_ofReading := goodIn_r _ [6, 1, 7, 8, 9, 5, 10, 15, 16, 17, 18, 19, 20, 21, 22, 23, 24] (by decide +kernel) (by decide +kernel)
set_option maxRecDepth 20000 in
theorem gX5_tries_X5_ofReading : GoodIn wsX5_tries (wsV RX5 71 RX5 yX5_ofReading wsX5_ofReading) := goodIn_app (goodIn_of _ (by decide +kernel)) ggX5_tries_X5_ofReading
set_option maxRecDepth 20000 in
theorem ggX5_tries_X5_of : GoodIn wsX5_tries wsX5_of := goodIn_r _ [10, 1, 15, 16, 17, 18, 19, 20, 21, 22, 23, 24] (by decide +kernel) (by decide +kernel)
set_option maxRecDepth 20000 in
theorem gX5_tries_X5_of : GoodIn wsX5_tries (wsV RX5 63 RX5 yX5_of wsX5_of) := goodIn_app (goodIn_of _ (by decide +kernel)) ggX5_tries_X5_of
set_option maxRecDepth 20000 in
theorem ggX5_tries_X5_isOdd : GoodIn wsX5_tries wsX5_isOdd := goodIn_r _ [14, 1, 15, 16, 17, 18, 19, 20, 21, 22, 23, 24] (by decide +kernel) (by decide +kernel)
set_option maxRecDepth 20000 in
theorem gX5_tries_X5_isOdd : GoodIn wsX5_tries (wsV RX5 37 RX5 yX5_isOdd wsX5_isOdd) := goodIn_app (goodIn_of _ (by decide +kernel)) ggX5_tries_X5_isOdd
theorem dX5_tries_0 : decode cX5_tries 0 = .ok (.aload_n 0, 1) := by decide +kernel
theorem dX5_tries_1 : decode cX5_tries 1 = .ok (.iload_n 1, 1) := by decide +kernel
theorem dX5_tries_2 : decode cX5_tries 2 = .ok (.invokevirtual 71, 3) := by decide +kernel
theorem dX5_tries_5 : decode cX5_tries 5 = .ok (.istore_n 2, 1) := by decide +kernel
theorem dX5_tries_6 : decode cX5_tries 6 = .ok (.iload_n 2, 1) := by decide +kernel
theorem dX5_tries_7 : decode cX5_tries 7 = .ok (.iconst 2, 1) := by decide +kernel
theorem dX5_tries_8 : decode cX5_tries 8 = .ok (.if_icmp .ne 5, 3) := by decide +kernel
theorem dX5_tries_11 : decode cX5_tries 11 = .ok (.iconst (-1), 1) := by decide +kernel
theorem dX5_tries_12 : decode cX5_tries 12 = .ok (.ireturn, 1) := by decide +kernel
theorem dX5_tries_13 : decode cX5_tries 13 = .ok (.aload_n 0, 1) := by decide +kernel
theorem dX5_tries_14 : decode cX5_tries 14 = .ok (.iload_n 1, 1) := by decide +kernel
theorem dX5_tries_15 : decode cX5_tries 15 = .ok (.iconst 0, 1) := by decide +kernel
theorem dX5_tries_16 : decode cX5_tries 16 = .ok (.invokevirtual 63, 3) := by decide +kernel
theorem dX5_tries_19 : decode cX5_tries 19 = .ok (.iconst 1, 1) := by decide +kernel
theorem dX5_tries_20 : decode cX5_tries 20 = .ok (.if_icmp .ne 37, 3) := by decide +kernel
theorem dX5_tries_23 : decode cX5_tries 23 = .ok (.iload_n 2, 1) := by decide +kernel
theorem dX5_tries_24 : decode cX5_tries 24 = .ok (.iconst 1, 1) := by decide +kernel
theorem dX5_tries_25 : decode cX5_tries 25 = .ok (.if_icmp .ne 21, 3) := by decide +kernel
theorem dX5_tries_28 : decode cX5_tries 28 = .ok (.aload_n 0, 1) := by decide +kernel
theorem dX5_tries_29 : decode cX5_tries 29 = .ok (.iload_n 1, 1) := by decide +kernel
theorem dX5_tries_30 : decode cX5_tries 30 = .ok (.iconst 1, 1) := by decide +kernel
theorem dX5_tries_31 : decode cX5_tries 31 = .ok (.invokevirtual 63, 3) := by decide +kernel
theorem dX5_tries_34 : decode cX5_tries 34 = .ok (.aload_n 0, 1) := by decide +kernel
theorem dX5_tries_35 : decode cX5_tries 35 = .ok (.getfield 7, 3) := by decide +kernel
theorem dX5_tries_38 : decode cX5_tries 38 = .ok (.iconst 0, 1) := by decide +kernel
theorem dX5_tries_39 : decode cX5_tries 39 = .ok (.iaload, 1) := by decide +kernel
theorem dX5_tries_40 : decode cX5_tries 40 = .ok (.if_icmp .eq 17, 3) := by decide +kernel
theorem dX5_tries_43 : decode cX5_tries 43 = .ok (.goto 10, 3) := by decide +kernel
theorem dX5_tries_46 : decode cX5_tries 46 = .ok (.aload_n 0, 1) := by decide +kernel
theorem dX5_tries_47 : decode cX5_tries 47 = .ok (.invokevirtual 37, 3) := by decide +kernel
theorem dX5_tries_50 : decode cX5_tries 50 = .ok (.ifCond .eq 7, 3) := by decide +kernel
theorem dX5_tries_53 : decode cX5_tries 53 = .ok (.iconst 1, 1) := by decide +kernel
theorem dX5_tries_54 : decode cX5_tries 54 = .ok (.goto 4, 3) := by decide +kernel
theorem dX5_tries_57 : decode cX5_tries 57 = .ok (.iconst 0, 1) := by decide +kernel
theorem dX5_tries_58 : decode cX5_tries 58 = .ok (.istore_n 3, 1) := by decide +kernel
theorem dX5_tries_59 : decode cX5_tries 59 = .ok (.iload_n 3, 1) := by decide +kernel
theorem dX5_tries_60 : decode cX5_tries 60 = .ok (.ifCond .eq 7, 3) := by decide +kernel
theorem dX5_tries_63 : decode cX5_tries 63 = .ok (.iconst 0, 1) := by decide +kernel
theorem dX5_tries_64 : decode cX5_tries 64 = .ok (.goto 4, 3) := by decide +kernel
theorem dX5_tries_67 : decode cX5_tries 67 = .ok (.iconst 1, 1) := by decide +kernel
theorem dX5_tries_68 : decode cX5_tries 68 = .ok (.ireturn, 1) := by decide +kernel
set_option maxRecDepth 20000 in
theorem ggX5_ifRead_X5_isReader : GoodIn wsX5_ifRead wsX5_isReader := goodIn_r _ [5, 6, 7, 4, 8] (by decide +kernel) (by decide +kernel)
set_option maxRecDepth 20000 in
theorem gX5_ifRead_X5_isReader : GoodIn wsX5_ifRead (va_wsS RX5 60 yX5_isReader wsX5_isReader) := goodIn_app (goodIn_of _ (by decide +kernel)) ggX5_ifRead_X5_isReader
set_option maxRecDepth 20000 in
theorem ggX5_ifRead_X5_tries : GoodIn wsX5_ifRead wsX5_tries := goodIn_r _ [12, 13, 14, 15, 16, 4, 17, 18, 19, 20, 21, 22, 23, 24, 25, 30, 31, 32, 33, 34, 35, 36, 37, 38, 39] (by decide +kernel) (by decide +kernel)
set_option maxRecDepth 20000 in
theorem gX5_ifRead_X5_tries : GoodIn wsX5_ifRead (wsV RX5 137 RX5 yX5_tries wsX5_tries) := goodIn_app (goodIn_of _ (by decide +kernel)) ggX5_ifRead_X5_tries
set_option maxRecDepth 20000 in
theorem ggX5_ifRead_X5_fails : GoodIn wsX5_ifRead wsX5_fails := goodIn_r _ [29, 1, 30, 31, 32, 33, 34, 35, 36, 37, 38, 39] (by decide +kernel) (by decide +kernel)
set_option maxRecDepth 20000 in
theorem gX5_ifRead_X5_fails : GoodIn wsX5_ifRead (wsV RX5 33 RX5 yX5_fails wsX5_fails) := goodIn_app (goodIn_of _ (by decide +kernel)) ggX5_ifRead_X5_fails
theorem dX5_ifRead_0 : decode cX5_ifRead 0 = .ok (.aload_n 0, 1) := by decide +kernel
theorem dX5_ifRead_1 : decode cX5_ifRead 1 = .ok (.iconst 0, 1) := by decide +kernel
theorem dX5_ifRead_2 : decode cX5_ifRead 2 = .ok (.putfield 22, 3) := by decide +kernel
theorem dX5_ifRead_5 : decode cX5_ifRead 5 = .ok (.iload_n 1, 1) := by decide +kernel
theorem dX5_ifRead_6 : decode cX5_ifRead 6 = .ok (.invokestatic 60, 3) := by decide +kernel
theorem dX5_ifRead_9 : decode cX5_ifRead 9 = .ok (.ifCond .eq 11, 3) := by decide +kernel
theorem dX5_ifRead_12 : decode cX5_ifRead 12 = .ok (.aload_n 0, 1) := by decide +kernel
theorem dX5_ifRead_13 : decode cX5_ifRead 13 = .ok (.iload_n 1, 1) := by decide +kernel
theorem dX5_ifRead_14 : decode cX5_ifRead 14 = .ok (.invokevirtual 137, 3) := by decide +kernel
theorem dX5_ifRead_17 : decode cX5_ifRead 17 = .ok (.goto 8, 3) := by decide +kernel
theorem dX5_ifRead_20 : decode cX5_ifRead 20 = .ok (.aload_n 0, 1) := by decide +kernel
theorem dX5_ifRead_21 : decode cX5_ifRead 21 = .ok (.iconst 1, 1) := by decide +kernel
theorem dX5_ifRead_22 : decode cX5_ifRead 22 = .ok (.invokevirtual 33, 3) := by decide +kernel
theorem dX5_ifRead_25 : decode cX5_ifRead 25 = .ok (.ireturn, 1) := by decide +kernel
set_option maxRecDepth 20000 in
theorem ggX5_halves_X5_tries : GoodIn wsX5_halves wsX5_tries := goodIn_r _ [6, 1, 7, 8, 9, 5, 10, 11, 12, 13, 14, 15, 16, 17, 18, 26, 27, 28, 29, 30, 31, 32, 33, 34, 35] (by decide +kernel) (by decide +kernel)
set_option maxRecDepth 20000 in
theorem gX5_halves_X5_tries : GoodIn wsX5_halves (wsV RX5 137 RX5 yX5_tries wsX5_tries) := goodIn_app (goodIn_of _ (by decide +kernel)) ggX5_halves_X5_tries
set_option maxRecDepth 20000 in
theorem ggX5_halves_X5_ofReading : GoodIn wsX5_halves wsX5_ofReading := goodIn_r _ [10, 1, 11, 12, 13, 5, 14, 26, 27, 28, 29, 30, 31, 32, 33, 34, 35] (by decide +kernel) (by decide +kernel)
set_option maxRecDepth 20000 in
theorem gX5_halves_X5_ofReading : GoodIn wsX5_halves (wsV RX5 71 RX5 yX5_ofReading wsX5_ofReading) := goodIn_app (goodIn_of _ (by decide +kernel)) ggX5_halves_X5_ofReading
set_option maxRecDepth 20000 in
theorem ggX5_halves_X5_of : GoodIn wsX5_halves wsX5_of := goodIn_r _ [14, 1, 26, 27, 28, 29, 30, 31, 32, 33, 34, 35] (by decide +kernel) (by decide +kernel)
set_option maxRecDepth 20000 in
theorem gX5_halves_X5_of : GoodIn wsX5_halves (wsV RX5 63 RX5 yX5_of wsX5_of) := goodIn_app (goodIn_of _ (by decide +kernel)) ggX5_halves_X5_of
set_option maxRecDepth 20000 in
theorem ggX5_halves_X5_isKept : GoodIn wsX5_halves wsX5_isKept := goodIn_r _ [22, 1, 23, 24, 5, 25, 26, 27, 28, 29, 30, 31, 32, 33, 34, 35] (by decide +kernel) (by decide +kernel)
set_option maxRecDepth 20000 in
theorem gX5_halves_X5_isKept : GoodIn wsX5_halves (wsV RX5 77 RX5 yX5_isKept wsX5_isKept) := goodIn_app (goodIn_of _ (by decide +kernel)) ggX5_halves_X5_isKept
theorem dX5_halves_0 : decode cX5_halves 0 = .ok (.aload_n 0, 1) := by decide +kernel
theorem dX5_halves_1 : decode cX5_halves 1 = .ok (.iload_n 1, 1) := by decide +kernel
theorem dX5_halves_2 : decode cX5_halves 2 = .ok (.invokevirtual 137, 3) := by decide +kernel
theorem dX5_halves_5 : decode cX5_halves 5 = .ok (.iconst 1, 1) := by decide +kernel
theorem dX5_halves_6 : decode cX5_halves 6 = .ok (.if_icmp .eq 5, 3) := by decide +kernel
theorem dX5_halves_9 : decode cX5_halves 9 = .ok (.iconst 0, 1) := by decide +kernel
theorem dX5_halves_10 : decode cX5_halves 10 = .ok (.ireturn, 1) := by decide +kernel
theorem dX5_halves_11 : decode cX5_halves 11 = .ok (.aload_n 0, 1) := by decide +kernel
theorem dX5_halves_12 : decode cX5_halves 12 = .ok (.iload_n 1, 1) := by decide +kernel
theorem dX5_halves_13 : decode cX5_halves 13 = .ok (.invokevirtual 71, 3) := by decide +kernel
theorem dX5_halves_16 : decode cX5_halves 16 = .ok (.iconst 1, 1) := by decide +kernel
theorem dX5_halves_17 : decode cX5_halves 17 = .ok (.if_icmp .ne 12, 3) := by decide +kernel
theorem dX5_halves_20 : decode cX5_halves 20 = .ok (.aload_n 0, 1) := by decide +kernel
theorem dX5_halves_21 : decode cX5_halves 21 = .ok (.iload_n 1, 1) := by decide +kernel
theorem dX5_halves_22 : decode cX5_halves 22 = .ok (.iconst 2, 1) := by decide +kernel
theorem dX5_halves_23 : decode cX5_halves 23 = .ok (.invokevirtual 63, 3) := by decide +kernel
theorem dX5_halves_26 : decode cX5_halves 26 = .ok (.goto 4, 3) := by decide +kernel
theorem dX5_halves_29 : decode cX5_halves 29 = .ok (.iconst 0, 1) := by decide +kernel
theorem dX5_halves_30 : decode cX5_halves 30 = .ok (.istore_n 2, 1) := by decide +kernel
theorem dX5_halves_31 : decode cX5_halves 31 = .ok (.iconst 0, 1) := by decide +kernel
theorem dX5_halves_32 : decode cX5_halves 32 = .ok (.istore_n 3, 1) := by decide +kernel
theorem dX5_halves_33 : decode cX5_halves 33 = .ok (.iconst 0, 1) := by decide +kernel
theorem dX5_halves_34 : decode cX5_halves 34 = .ok (.istore 4, 2) := by decide +kernel
theorem dX5_halves_36 : decode cX5_halves 36 = .ok (.iload 4, 2) := by decide +kernel
theorem dX5_halves_38 : decode cX5_halves 38 = .ok (.bipush 16, 2) := by decide +kernel
theorem dX5_halves_40 : decode cX5_halves 40 = .ok (.if_icmp .ge 131, 3) := by decide +kernel
theorem dX5_halves_43 : decode cX5_halves 43 = .ok (.aload_n 0, 1) := by decide +kernel
theorem dX5_halves_44 : decode cX5_halves 44 = .ok (.aload_n 0, 1) := by decide +kernel
theorem dX5_halves_45 : decode cX5_halves 45 = .ok (.getfield 7, 3) := by decide +kernel
theorem dX5_halves_48 : decode cX5_halves 48 = .ok (.iconst 0, 1) := by decide +kernel
theorem dX5_halves_49 : decode cX5_halves 49 = .ok (.iaload, 1) := by decide +kernel
theorem dX5_halves_50 : decode cX5_halves 50 = .ok (.iconst 2, 1) := by decide +kernel
theorem dX5_halves_51 : decode cX5_halves 51 = .ok (.idiv, 1) := by decide +kernel
theorem dX5_halves_52 : decode cX5_halves 52 = .ok (.iload 4, 2) := by decide +kernel
theorem dX5_halves_54 : decode cX5_halves 54 = .ok (.isub, 1) := by decide +kernel
theorem dX5_halves_55 : decode cX5_halves 55 = .ok (.invokevirtual 77, 3) := by decide +kernel
theorem dX5_halves_58 : decode cX5_halves 58 = .ok (.istore 5, 2) := by decide +kernel
theorem dX5_halves_60 : decode cX5_halves 60 = .ok (.iconst 0, 1) := by decide +kernel
theorem dX5_halves_61 : decode cX5_halves 61 = .ok (.istore 6, 2) := by decide +kernel
theorem dX5_halves_63 : decode cX5_halves 63 = .ok (.iload 6, 2) := by decide +kernel
theorem dX5_halves_65 : decode cX5_halves 65 = .ok (.iconst 5, 1) := by decide +kernel
theorem dX5_halves_66 : decode cX5_halves 66 = .ok (.if_icmp .ge 84, 3) := by decide +kernel
theorem dX5_halves_69 : decode cX5_halves 69 = .ok (.iload 5, 2) := by decide +kernel
theorem dX5_halves_71 : decode cX5_halves 71 = .ok (.ifCond .eq 79, 3) := by decide +kernel
theorem dX5_halves_74 : decode cX5_halves 74 = .ok (.iload 6, 2) := by decide +kernel
theorem dX5_halves_76 : decode cX5_halves 76 = .ok (.iload_n 2, 1) := by decide +kernel
theorem dX5_halves_77 : decode cX5_halves 77 = .ok (.if_icmp .ge 16, 3) := by decide +kernel
theorem dX5_halves_80 : decode cX5_halves 80 = .ok (.aload_n 0, 1) := by decide +kernel
theorem dX5_halves_81 : decode cX5_halves 81 = .ok (.iload_n 1, 1) := by decide +kernel
theorem dX5_halves_82 : decode cX5_halves 82 = .ok (.bipush 7, 2) := by decide +kernel
theorem dX5_halves_84 : decode cX5_halves 84 = .ok (.iload 6, 2) := by decide +kernel
theorem dX5_halves_86 : decode cX5_halves 86 = .ok (.iadd, 1) := by decide +kernel
theorem dX5_halves_87 : decode cX5_halves 87 = .ok (.invokevirtual 63, 3) := by decide +kernel
theorem dX5_halves_90 : decode cX5_halves 90 = .ok (.goto 13, 3) := by decide +kernel
theorem dX5_halves_93 : decode cX5_halves 93 = .ok (.aload_n 0, 1) := by decide +kernel
theorem dX5_halves_94 : decode cX5_halves 94 = .ok (.getfield 7, 3) := by decide +kernel
theorem dX5_halves_97 : decode cX5_halves 97 = .ok (.bipush 7, 2) := by decide +kernel
theorem dX5_halves_99 : decode cX5_halves 99 = .ok (.iload 6, 2) := by decide +kernel
theorem dX5_halves_101 : decode cX5_halves 101 = .ok (.iadd, 1) := by decide +kernel
theorem dX5_halves_102 : decode cX5_halves 102 = .ok (.iaload, 1) := by decide +kernel
theorem dX5_halves_103 : decode cX5_halves 103 = .ok (.istore 7, 2) := by decide +kernel
theorem dX5_halves_105 : decode cX5_halves 105 = .ok (.iload 7, 2) := by decide +kernel
theorem dX5_halves_107 : decode cX5_halves 107 = .ok (.aload_n 0, 1) := by decide +kernel
theorem dX5_halves_108 : decode cX5_halves 108 = .ok (.getfield 7, 3) := by decide +kernel
theorem dX5_halves_111 : decode cX5_halves 111 = .ok (.bipush 83, 2) := by decide +kernel
theorem dX5_halves_113 : decode cX5_halves 113 = .ok (.iconst 5, 1) := by decide +kernel
theorem dX5_halves_114 : decode cX5_halves 114 = .ok (.aload_n 0, 1) := by decide +kernel
theorem dX5_halves_115 : decode cX5_halves 115 = .ok (.getfield 7, 3) := by decide +kernel
theorem dX5_halves_118 : decode cX5_halves 118 = .ok (.iconst 0, 1) := by decide +kernel
theorem dX5_halves_119 : decode cX5_halves 119 = .ok (.iaload, 1) := by decide +kernel
theorem dX5_halves_120 : decode cX5_halves 120 = .ok (.iconst 2, 1) := by decide +kernel
theorem dX5_halves_121 : decode cX5_halves 121 = .ok (.idiv, 1) := by decide +kernel
theorem dX5_halves_122 : decode cX5_halves 122 = .ok (.iload 4, 2) := by decide +kernel
theorem dX5_halves_124 : decode cX5_halves 124 = .ok (.isub, 1) := by decide +kernel
theorem dX5_halves_125 : decode cX5_halves 125 = .ok (.bipush 16, 2) := by decide +kernel
theorem dX5_halves_127 : decode cX5_halves 127 = .ok (.irem, 1) := by decide +kernel
theorem dX5_halves_128 : decode cX5_halves 128 = .ok (.imul, 1) := by decide +kernel
theorem dX5_halves_129 : decode cX5_halves 129 = .ok (.iadd, 1) := by decide +kernel
theorem dX5_halves_130 : decode cX5_halves 130 = .ok (.iload 6, 2) := by decide +kernel
theorem dX5_halves_132 : decode cX5_halves 132 = .ok (.iadd, 1) := by decide +kernel
theorem dX5_halves_133 : decode cX5_halves 133 = .ok (.iaload, 1) := by decide +kernel
theorem dX5_halves_134 : decode cX5_halves 134 = .ok (.if_icmp .ne 7, 3) := by decide +kernel
theorem dX5_halves_137 : decode cX5_halves 137 = .ok (.iconst 1, 1) := by decide +kernel
theorem dX5_halves_138 : decode cX5_halves 138 = .ok (.goto 4, 3) := by decide +kernel
theorem dX5_halves_141 : decode cX5_halves 141 = .ok (.iconst 0, 1) := by decide +kernel
theorem dX5_halves_142 : decode cX5_halves 142 = .ok (.istore 5, 2) := by decide +kernel
theorem dX5_halves_144 : decode cX5_halves 144 = .ok (.iinc 6 1, 3) := by decide +kernel
theorem dX5_halves_147 : decode cX5_halves 147 = .ok (.goto (-84), 3) := by decide +kernel
theorem dX5_halves_150 : decode cX5_halves 150 = .ok (.iload_n 3, 1) := by decide +kernel
theorem dX5_halves_151 : decode cX5_halves 151 = .ok (.ifCond .ne 8, 3) := by decide +kernel
theorem dX5_halves_154 : decode cX5_halves 154 = .ok (.iload 5, 2) := by decide +kernel
theorem dX5_halves_156 : decode cX5_halves 156 = .ok (.ifCond .eq 7, 3) := by decide +kernel
theorem dX5_halves_159 : decode cX5_halves 159 = .ok (.iconst 1, 1) := by decide +kernel
theorem dX5_halves_160 : decode cX5_halves 160 = .ok (.goto 4, 3) := by decide +kernel
theorem dX5_halves_163 : decode cX5_halves 163 = .ok (.iconst 0, 1) := by decide +kernel
theorem dX5_halves_164 : decode cX5_halves 164 = .ok (.istore_n 3, 1) := by decide +kernel
theorem dX5_halves_165 : decode cX5_halves 165 = .ok (.iinc 4 1, 3) := by decide +kernel
theorem dX5_halves_168 : decode cX5_halves 168 = .ok (.goto (-132), 3) := by decide +kernel
theorem dX5_halves_171 : decode cX5_halves 171 = .ok (.iload_n 3, 1) := by decide +kernel
theorem dX5_halves_172 : decode cX5_halves 172 = .ok (.ifCond .eq 7, 3) := by decide +kernel
theorem dX5_halves_175 : decode cX5_halves 175 = .ok (.iconst 0, 1) := by decide +kernel
theorem dX5_halves_176 : decode cX5_halves 176 = .ok (.goto 4, 3) := by decide +kernel
theorem dX5_halves_179 : decode cX5_halves 179 = .ok (.iconst 1, 1) := by decide +kernel
theorem dX5_halves_180 : decode cX5_halves 180 = .ok (.ireturn, 1) := by decide +kernel
set_option maxRecDepth 20000 in
theorem ggX5_wouldBeHalf_X5_isReader : GoodIn wsX5_wouldBeHalf wsX5_isReader := goodIn_r _ [5, 6, 7, 4, 8] (by decide +kernel) (by decide +kernel)
set_option maxRecDepth 20000 in
theorem gX5_wouldBeHalf_X5_isReader : GoodIn wsX5_wouldBeHalf (va_wsS RX5 60 yX5_isReader wsX5_isReader) := goodIn_app (goodIn_of _ (by decide +kernel)) ggX5_wouldBeHalf_X5_isReader
set_option maxRecDepth 20000 in
theorem ggX5_wouldBeHalf_X5_halves : GoodIn wsX5_wouldBeHalf wsX5_halves := goodIn_r _ [12, 13, 14, 15, 16, 4, 17, 18, 19, 20, 21, 22, 23, 24, 25, 26, 27, 28, 29, 30, 31, 32, 33, 6, 7, 8, 38, 39, 40, 41, 42, 43, 44, 45, 46, 47] (by decide +kernel) (by decide +kernel)
set_option maxRecDepth 20000 in
theorem gX5_wouldBeHalf_X5_halves : GoodIn wsX5_wouldBeHalf (wsV RX5 140 RX5 yX5_halves wsX5_halves) := goodIn_app (goodIn_of _ (by decide +kernel)) ggX5_wouldBeHalf_X5_halves
set_option maxRecDepth 20000 in
theorem ggX5_wouldBeHalf_X5_fails : GoodIn wsX5_wouldBeHalf wsX5_fails := goodIn_r _ [37, 1, 38, 39, 40, 41, 42, 43, 44, 45, 46, 47] (by decide +kernel) (by decide +kernel)
set_option maxRecDepth 20000 in
theorem gX5_wouldBeHalf_X5_fails : GoodIn wsX5_wouldBeHalf (wsV RX5 33 RX5 yX5_fails wsX5_fails) := goodIn_app (goodIn_of _ (by decide +kernel)) ggX5_wouldBeHalf_X5_fails
theorem dX5_wouldBeHalf_0 : decode cX5_wouldBeHalf 0 = .ok (.aload_n 0, 1) := by decide +kernel
theorem dX5_wouldBeHalf_1 : decode cX5_wouldBeHalf 1 = .ok (.iconst 0, 1) := by decide +kernel
theorem dX5_wouldBeHalf_2 : decode cX5_wouldBeHalf 2 = .ok (.putfield 22, 3) := by decide +kernel
theorem dX5_wouldBeHalf_5 : decode cX5_wouldBeHalf 5 = .ok (.iload_n 1, 1) := by decide +kernel
theorem dX5_wouldBeHalf_6 : decode cX5_wouldBeHalf 6 = .ok (.invokestatic 60, 3) := by decide +kernel
theorem dX5_wouldBeHalf_9 : decode cX5_wouldBeHalf 9 = .ok (.ifCond .eq 11, 3) := by decide +kernel
theorem dX5_wouldBeHalf_12 : decode cX5_wouldBeHalf 12 = .ok (.aload_n 0, 1) := by decide +kernel
theorem dX5_wouldBeHalf_13 : decode cX5_wouldBeHalf 13 = .ok (.iload_n 1, 1) := by decide +kernel
theorem dX5_wouldBeHalf_14 : decode cX5_wouldBeHalf 14 = .ok (.invokevirtual 140, 3) := by decide +kernel
theorem dX5_wouldBeHalf_17 : decode cX5_wouldBeHalf 17 = .ok (.goto 8, 3) := by decide +kernel
theorem dX5_wouldBeHalf_20 : decode cX5_wouldBeHalf 20 = .ok (.aload_n 0, 1) := by decide +kernel
theorem dX5_wouldBeHalf_21 : decode cX5_wouldBeHalf 21 = .ok (.iconst 1, 1) := by decide +kernel
theorem dX5_wouldBeHalf_22 : decode cX5_wouldBeHalf 22 = .ok (.invokevirtual 33, 3) := by decide +kernel
theorem dX5_wouldBeHalf_25 : decode cX5_wouldBeHalf 25 = .ok (.ireturn, 1) := by decide +kernel
set_option maxRecDepth 20000 in
theorem ggX5_clerksIn_X5_isOdd : GoodIn wsX5_clerksIn wsX5_isOdd := goodIn_r _ [6, 1, 7, 8, 9, 10, 11, 12, 13, 14, 15, 16] (by decide +kernel) (by decide +kernel)
set_option maxRecDepth 20000 in
theorem gX5_clerksIn_X5_isOdd : GoodIn wsX5_clerksIn (wsV RX5 37 RX5 yX5_isOdd wsX5_isOdd) := goodIn_app (goodIn_of _ (by decide +kernel)) ggX5_clerksIn_X5_isOdd
theorem dX5_clerksIn_0 : decode cX5_clerksIn 0 = .ok (.aload_n 0, 1) := by decide +kernel
theorem dX5_clerksIn_1 : decode cX5_clerksIn 1 = .ok (.invokevirtual 37, 3) := by decide +kernel
theorem dX5_clerksIn_4 : decode cX5_clerksIn 4 = .ok (.ifCond .eq 14, 3) := by decide +kernel
theorem dX5_clerksIn_7 : decode cX5_clerksIn 7 = .ok (.iconst 1, 1) := by decide +kernel
theorem dX5_clerksIn_8 : decode cX5_clerksIn 8 = .ok (.aload_n 0, 1) := by decide +kernel
theorem dX5_clerksIn_9 : decode cX5_clerksIn 9 = .ok (.getfield 7, 3) := by decide +kernel
theorem dX5_clerksIn_12 : decode cX5_clerksIn 12 = .ok (.iconst 4, 1) := by decide +kernel
theorem dX5_clerksIn_13 : decode cX5_clerksIn 13 = .ok (.iaload, 1) := by decide +kernel
theorem dX5_clerksIn_14 : decode cX5_clerksIn 14 = .ok (.iadd, 1) := by decide +kernel
theorem dX5_clerksIn_15 : decode cX5_clerksIn 15 = .ok (.goto 4, 3) := by decide +kernel
theorem dX5_clerksIn_18 : decode cX5_clerksIn 18 = .ok (.iconst 0, 1) := by decide +kernel
theorem dX5_clerksIn_19 : decode cX5_clerksIn 19 = .ok (.ireturn, 1) := by decide +kernel
set_option maxRecDepth 20000 in
theorem ggX5_busy_X5_clerksIn : GoodIn wsX5_busy wsX5_clerksIn := goodIn_r _ [6, 7, 8, 9, 10, 5, 11, 12, 13, 14, 15, 16, 17, 18, 19, 20, 21] (by decide +kernel) (by decide +kernel)
set_option maxRecDepth 20000 in
theorem gX5_busy_X5_clerksIn : GoodIn wsX5_busy (wsV RX5 143 RX5 yX5_clerksIn wsX5_clerksIn) := goodIn_app (goodIn_of _ (by decide +kernel)) ggX5_busy_X5_clerksIn
theorem dX5_busy_0 : decode cX5_busy 0 = .ok (.aload_n 0, 1) := by decide +kernel
theorem dX5_busy_1 : decode cX5_busy 1 = .ok (.iconst 0, 1) := by decide +kernel
theorem dX5_busy_2 : decode cX5_busy 2 = .ok (.putfield 22, 3) := by decide +kernel
theorem dX5_busy_5 : decode cX5_busy 5 = .ok (.aload_n 0, 1) := by decide +kernel
theorem dX5_busy_6 : decode cX5_busy 6 = .ok (.invokevirtual 143, 3) := by decide +kernel
theorem dX5_busy_9 : decode cX5_busy 9 = .ok (.ireturn, 1) := by decide +kernel
set_option maxRecDepth 20000 in
theorem ggX5_share_X5_ofAll : GoodIn wsX5_share wsX5_ofAll := goodIn_r _ [5, 6, 7, 8, 4, 9, 10, 11, 12, 13, 14, 15, 16, 17, 18, 19, 20, 21, 22, 23, 24] (by decide +kernel) (by decide +kernel)
set_option maxRecDepth 20000 in
theorem gX5_share_X5_ofAll : GoodIn wsX5_share (wsV RX5 131 RX5 yX5_ofAll wsX5_ofAll) := goodIn_app (goodIn_of _ (by decide +kernel)) ggX5_share_X5_ofAll
theorem dX5_share_0 : decode cX5_share 0 = .ok (.aload_n 0, 1) := by decide +kernel
theorem dX5_share_1 : decode cX5_share 1 = .ok (.iconst 5, 1) := by decide +kernel
theorem dX5_share_2 : decode cX5_share 2 = .ok (.invokevirtual 131, 3) := by decide +kernel
theorem dX5_share_5 : decode cX5_share 5 = .ok (.istore_n 1, 1) := by decide +kernel
theorem dX5_share_6 : decode cX5_share 6 = .ok (.iload_n 1, 1) := by decide +kernel
theorem dX5_share_7 : decode cX5_share 7 = .ok (.aload_n 0, 1) := by decide +kernel
theorem dX5_share_8 : decode cX5_share 8 = .ok (.iconst 4, 1) := by decide +kernel
theorem dX5_share_9 : decode cX5_share 9 = .ok (.invokevirtual 131, 3) := by decide +kernel
theorem dX5_share_12 : decode cX5_share 12 = .ok (.iadd, 1) := by decide +kernel
theorem dX5_share_13 : decode cX5_share 13 = .ok (.istore_n 2, 1) := by decide +kernel
theorem dX5_share_14 : decode cX5_share 14 = .ok (.iload_n 2, 1) := by decide +kernel
theorem dX5_share_15 : decode cX5_share 15 = .ok (.ifCond .ne 7, 3) := by decide +kernel
theorem dX5_share_18 : decode cX5_share 18 = .ok (.dconst 1, 1) := by decide +kernel
theorem dX5_share_19 : decode cX5_share 19 = .ok (.goto 8, 3) := by decide +kernel
theorem dX5_share_22 : decode cX5_share 22 = .ok (.iload_n 1, 1) := by decide +kernel
theorem dX5_share_23 : decode cX5_share 23 = .ok (.i2d, 1) := by decide +kernel
theorem dX5_share_24 : decode cX5_share 24 = .ok (.iload_n 2, 1) := by decide +kernel
theorem dX5_share_25 : decode cX5_share 25 = .ok (.i2d, 1) := by decide +kernel
theorem dX5_share_26 : decode cX5_share 26 = .ok (.ddiv, 1) := by decide +kernel
theorem dX5_share_27 : decode cX5_share 27 = .ok (.dreturn, 1) := by decide +kernel
set_option maxRecDepth 20000 in
theorem ggX5_wellShare_X5_share : GoodIn wsX5_wellShare wsX5_share := goodIn_r _ [6, 7, 8, 9, 5, 10, 11, 12, 13, 14, 15, 16, 17, 18, 19, 20, 21, 22, 23, 24, 25, 26, 27, 28, 29] (by decide +kernel) (by decide +kernel)
set_option maxRecDepth 20000 in
theorem gX5_wellShare_X5_share : GoodIn wsX5_wellShare (wsV RX5 147 RX5 yX5_share wsX5_share) := goodIn_app (goodIn_of _ (by decide +kernel)) ggX5_wellShare_X5_share
theorem dX5_wellShare_0 : decode cX5_wellShare 0 = .ok (.aload_n 0, 1) := by decide +kernel
theorem dX5_wellShare_1 : decode cX5_wellShare 1 = .ok (.iconst 0, 1) := by decide +kernel
theorem dX5_wellShare_2 : decode cX5_wellShare 2 = .ok (.putfield 22, 3) := by decide +kernel
theorem dX5_wellShare_5 : decode cX5_wellShare 5 = .ok (.aload_n 0, 1) := by decide +kernel
theorem dX5_wellShare_6 : decode cX5_wellShare 6 = .ok (.invokevirtual 147, 3) := by decide +kernel
theorem dX5_wellShare_9 : decode cX5_wellShare 9 = .ok (.dreturn, 1) := by decide +kernel
set_option maxRecDepth 20000 in
theorem ggX5_digest_X5_counted : GoodIn wsX5_digest wsX5_counted := goodIn_r _ [11, 4, 12, 13, 14, 15, 10, 16, 17, 18, 19, 20, 21, 22, 23, 24, 84, 85, 86, 87, 88, 89, 90, 91, 92, 93] (by decide +kernel) (by decide +kernel)
set_option maxRecDepth 20000 in
theorem gX5_digest_X5_counted : GoodIn wsX5_digest (wsV RX5 134 RX5 yX5_counted wsX5_counted) := goodIn_app (goodIn_of _ (by decide +kernel)) ggX5_digest_X5_counted
set_option maxRecDepth 20000 in
theorem ggX5_digest_X5_ofClerk : GoodIn wsX5_digest wsX5_ofClerk := goodIn_r _ [28, 4, 29, 30, 31, 10, 32, 84, 85, 86, 87, 88, 89, 90, 91, 92, 93] (by decide +kernel) (by decide +kernel)
set_option maxRecDepth 20000 in
theorem gX5_digest_X5_ofClerk : GoodIn wsX5_digest (wsV RX5 122 RX5 yX5_ofClerk wsX5_ofClerk) := goodIn_app (goodIn_of _ (by decide +kernel)) ggX5_digest_X5_ofClerk
set_option maxRecDepth 20000 in
theorem ggX5_digest_X5_ofReader : GoodIn wsX5_digest wsX5_ofReader := goodIn_r _ [36, 17, 18, 19, 10, 20, 4, 21, 22, 23, 24, 37, 38, 39, 40, 41, 42, 43, 44, 45, 46, 47, 84, 85, 86, 87, 88, 89, 90, 91, 92, 93] (by decide +kernel) (by decide +kernel)
set_option maxRecDepth 20000 in
theorem gX5_digest_X5_ofReader : GoodIn wsX5_digest (wsV RX5 125 RX5 yX5_ofReader wsX5_ofReader) := goodIn_app (goodIn_of _ (by decide +kernel)) ggX5_digest_X5_ofReader
set_option maxRecDepth 20000 in
theorem ggX5_digest_X5_had : GoodIn wsX5_digest wsX5_had := goodIn_r _ [51, 21, 22, 23, 10, 24, 4, 84, 85, 86, 87, 88, 89, 90, 91, 92, 93] (by decide +kernel) (by decide +kernel)
set_option maxRecDepth 20000 in
theorem gX5_digest_X5_had : GoodIn wsX5_digest (wsV RX5 128 RX5 yX5_had wsX5_had) := goodIn_app (goodIn_of _ (by decide +kernel)) ggX5_digest_X5_had
set_option maxRecDepth 20000 in
theorem ggX5_digest_X5_tries : GoodIn wsX5_digest wsX5_tries := goodIn_r _ [55, 4, 17, 18, 19, 10, 20, 21, 22, 23, 24, 56, 57, 58, 59, 84, 85, 86, 87, 88, 89, 90, 91, 92, 93] (by decide +kernel) (by decide +kernel)
set_option maxRecDepth 20000 in
theorem gX5_digest_X5_tries : GoodIn wsX5_digest (wsV RX5 137 RX5 yX5_tries wsX5_tries) := goodIn_app (goodIn_of _ (by decide +kernel)) ggX5_digest_X5_tries
set_option maxRecDepth 20000 in
theorem ggX5_digest_X5_halves : GoodIn wsX5_digest wsX5_halves := goodIn_r _ [63, 4, 52, 53, 54, 10, 55, 17, 18, 19, 20, 21, 22, 23, 24, 56, 57, 58, 59, 41, 42, 43, 44, 45, 46, 47, 84, 85, 86, 87, 88, 89, 90, 91, 92, 93] (by decide +kernel) (by decide +kernel)
set_option maxRecDepth 20000 in
theorem gX5_digest_X5_halves : GoodIn wsX5_digest (wsV RX5 140 RX5 yX5_halves wsX5_halves) := goodIn_app (goodIn_of _ (by decide +kernel)) ggX5_digest_X5_halves
set_option maxRecDepth 20000 in
theorem ggX5_digest_X5_isKept : GoodIn wsX5_digest wsX5_isKept := goodIn_r _ [44, 4, 45, 46, 10, 47, 84, 85, 86, 87, 88, 89, 90, 91, 92, 93] (by decide +kernel) (by decide +kernel)
set_option maxRecDepth 20000 in
theorem gX5_digest_X5_isKept : GoodIn wsX5_digest (wsV RX5 77 RX5 yX5_isKept wsX5_isKept) := goodIn_app (goodIn_of _ (by decide +kernel)) ggX5_digest_X5_isKept
set_option maxRecDepth 20000 in
theorem ggX5_digest_X5_clerksIn : GoodIn wsX5_digest wsX5_clerksIn := goodIn_r _ [67, 4, 56, 57, 58, 10, 59, 84, 85, 86, 87, 88, 89, 90, 91, 92, 93] (by decide +kernel) (by decide +kernel)
set_option maxRecDepth 20000 in
theorem gX5_digest_X5_clerksIn : GoodIn wsX5_digest (wsV RX5 143 RX5 yX5_clerksIn wsX5_clerksIn) := goodIn_app (goodIn_of _ (by decide +kernel)) ggX5_digest_X5_clerksIn
set_option maxRecDepth 20000 in
theorem ggX5_digest_X5_share : GoodIn wsX5_digest wsX5_share := goodIn_r _ [71, 13, 14, 15, 10, 16, 17, 18, 19, 20, 4, 21, 22, 23, 24, 84, 85, 86, 87, 88, 89, 90, 91, 92, 93] (by decide +kernel) (by decide +kernel)
set_option maxRecDepth 20000 in
theorem gX5_digest_X5_share : GoodIn wsX5_digest (wsV RX5 147 RX5 yX5_share wsX5_share) := goodIn_app (goodIn_of _ (by decide +kernel)) ggX5_digest_X5_share
set_option maxRecDepth 20000 in
theorem ggX5_digest_Jxe99ae_doubleToLongBits_ccdee : GoodIn wsX5_digest wsJxe99ae_doubleToLongBits_ccdee := goodIn_r _ [75, 76, 77, 78, 79, 80, 81, 82, 74, 83] (by decide +kernel) (by decide +kernel)
set_option maxRecDepth 20000 in
theorem gX5_digest_Jxe99ae_doubleToLongBits_ccdee : GoodIn wsX5_digest (va_wsS RX5 155 yJxe99ae_doubleToLongBits_ccdee wsJxe99ae_doubleToLongBits_ccdee) := goodIn_app (goodIn_of _ (by decide +kernel)) ggX5_digest_Jxe99ae_doubleToLongBits_ccdee
theorem dX5_digest_0 : decode cX5_digest 0 = .ok (.aload_n 0, 1) := by decide +kernel
theorem dX5_digest_1 : decode cX5_digest 1 = .ok (.iconst 0, 1) := by decide +kernel
theorem dX5_digest_2 : decode cX5_digest 2 = .ok (.putfield 22, 3) := by decide +kernel
theorem dX5_digest_5 : decode cX5_digest 5 = .ok (.ldc2_w 151, 3) := by decide +kernel
theorem dX5_digest_8 : decode cX5_digest 8 = .ok (.lstore_n 1, 1) := by decide +kernel
theorem dX5_digest_9 : decode cX5_digest 9 = .ok (.iconst 0, 1) := by decide +kernel
theorem dX5_digest_10 : decode cX5_digest 10 = .ok (.istore_n 3, 1) := by decide +kernel
theorem dX5_digest_11 : decode cX5_digest 11 = .ok (.iload_n 3, 1) := by decide +kernel
theorem dX5_digest_12 : decode cX5_digest 12 = .ok (.bipush 9, 2) := by decide +kernel
theorem dX5_digest_14 : decode cX5_digest 14 = .ok (.if_icmp .ge 22, 3) := by decide +kernel
theorem dX5_digest_17 : decode cX5_digest 17 = .ok (.ldc2_w 153, 3) := by decide +kernel
theorem dX5_digest_20 : decode cX5_digest 20 = .ok (.lload_n 1, 1) := by decide +kernel
theorem dX5_digest_21 : decode cX5_digest 21 = .ok (.lmul, 1) := by decide +kernel
theorem dX5_digest_22 : decode cX5_digest 22 = .ok (.aload_n 0, 1) := by decide +kernel
theorem dX5_digest_23 : decode cX5_digest 23 = .ok (.iload_n 3, 1) := by decide +kernel
theorem dX5_digest_24 : decode cX5_digest 24 = .ok (.invokevirtual 134, 3) := by decide +kernel
theorem dX5_digest_27 : decode cX5_digest 27 = .ok (.i2l, 1) := by decide +kernel
theorem dX5_digest_28 : decode cX5_digest 28 = .ok (.ladd, 1) := by decide +kernel
theorem dX5_digest_29 : decode cX5_digest 29 = .ok (.lstore_n 1, 1) := by decide +kernel
theorem dX5_digest_30 : decode cX5_digest 30 = .ok (.iinc 3 1, 3) := by decide +kernel
theorem dX5_digest_33 : decode cX5_digest 33 = .ok (.goto (-22), 3) := by decide +kernel
theorem dX5_digest_36 : decode cX5_digest 36 = .ok (.iconst 0, 1) := by decide +kernel
theorem dX5_digest_37 : decode cX5_digest 37 = .ok (.istore_n 3, 1) := by decide +kernel
theorem dX5_digest_38 : decode cX5_digest 38 = .ok (.iload_n 3, 1) := by decide +kernel
theorem dX5_digest_39 : decode cX5_digest 39 = .ok (.iconst 5, 1) := by decide +kernel
theorem dX5_digest_40 : decode cX5_digest 40 = .ok (.if_icmp .ge 26, 3) := by decide +kernel
theorem dX5_digest_43 : decode cX5_digest 43 = .ok (.ldc2_w 153, 3) := by decide +kernel
theorem dX5_digest_46 : decode cX5_digest 46 = .ok (.lload_n 1, 1) := by decide +kernel
theorem dX5_digest_47 : decode cX5_digest 47 = .ok (.lmul, 1) := by decide +kernel
theorem dX5_digest_48 : decode cX5_digest 48 = .ok (.aload_n 0, 1) := by decide +kernel
theorem dX5_digest_49 : decode cX5_digest 49 = .ok (.getfield 7, 3) := by decide +kernel
theorem dX5_digest_52 : decode cX5_digest 52 = .ok (.bipush 7, 2) := by decide +kernel
theorem dX5_digest_54 : decode cX5_digest 54 = .ok (.iload_n 3, 1) := by decide +kernel
theorem dX5_digest_55 : decode cX5_digest 55 = .ok (.iadd, 1) := by decide +kernel
theorem dX5_digest_56 : decode cX5_digest 56 = .ok (.iaload, 1) := by decide +kernel
theorem dX5_digest_57 : decode cX5_digest 57 = .ok (.i2l, 1) := by decide +kernel
theorem dX5_digest_58 : decode cX5_digest 58 = .ok (.ladd, 1) := by decide +kernel
theorem dX5_digest_59 : decode cX5_digest 59 = .ok (.lstore_n 1, 1) := by decide +kernel
theorem dX5_digest_60 : decode cX5_digest 60 = .ok (.iinc 3 1, 3) := by decide +kernel
theorem dX5_digest_63 : decode cX5_digest 63 = .ok (.goto (-25), 3) := by decide +kernel
theorem dX5_digest_66 : decode cX5_digest 66 = .ok (.iconst 0, 1) := by decide +kernel
theorem dX5_digest_67 : decode cX5_digest 67 = .ok (.istore_n 3, 1) := by decide +kernel
theorem dX5_digest_68 : decode cX5_digest 68 = .ok (.iload_n 3, 1) := by decide +kernel
theorem dX5_digest_69 : decode cX5_digest 69 = .ok (.bipush 9, 2) := by decide +kernel
theorem dX5_digest_71 : decode cX5_digest 71 = .ok (.if_icmp .ge 27, 3) := by decide +kernel
theorem dX5_digest_74 : decode cX5_digest 74 = .ok (.ldc2_w 153, 3) := by decide +kernel
theorem dX5_digest_77 : decode cX5_digest 77 = .ok (.lload_n 1, 1) := by decide +kernel
theorem dX5_digest_78 : decode cX5_digest 78 = .ok (.lmul, 1) := by decide +kernel
theorem dX5_digest_79 : decode cX5_digest 79 = .ok (.aload_n 0, 1) := by decide +kernel
theorem dX5_digest_80 : decode cX5_digest 80 = .ok (.iload_n 3, 1) := by decide +kernel
theorem dX5_digest_81 : decode cX5_digest 81 = .ok (.iconst 3, 1) := by decide +kernel
theorem dX5_digest_82 : decode cX5_digest 82 = .ok (.idiv, 1) := by decide +kernel
theorem dX5_digest_83 : decode cX5_digest 83 = .ok (.iload_n 3, 1) := by decide +kernel
theorem dX5_digest_84 : decode cX5_digest 84 = .ok (.iconst 3, 1) := by decide +kernel
theorem dX5_digest_85 : decode cX5_digest 85 = .ok (.irem, 1) := by decide +kernel
theorem dX5_digest_86 : decode cX5_digest 86 = .ok (.invokevirtual 122, 3) := by decide +kernel
theorem dX5_digest_89 : decode cX5_digest 89 = .ok (.i2l, 1) := by decide +kernel
theorem dX5_digest_90 : decode cX5_digest 90 = .ok (.ladd, 1) := by decide +kernel
theorem dX5_digest_91 : decode cX5_digest 91 = .ok (.lstore_n 1, 1) := by decide +kernel
theorem dX5_digest_92 : decode cX5_digest 92 = .ok (.iinc 3 1, 3) := by decide +kernel
theorem dX5_digest_95 : decode cX5_digest 95 = .ok (.goto (-27), 3) := by decide +kernel
theorem dX5_digest_98 : decode cX5_digest 98 = .ok (.iconst 0, 1) := by decide +kernel
theorem dX5_digest_99 : decode cX5_digest 99 = .ok (.istore_n 3, 1) := by decide +kernel
theorem dX5_digest_100 : decode cX5_digest 100 = .ok (.iload_n 3, 1) := by decide +kernel
theorem dX5_digest_101 : decode cX5_digest 101 = .ok (.iconst 4, 1) := by decide +kernel
theorem dX5_digest_102 : decode cX5_digest 102 = .ok (.if_icmp .ge 94, 3) := by decide +kernel
theorem dX5_digest_105 : decode cX5_digest 105 = .ok (.iconst 0, 1) := by decide +kernel
theorem dX5_digest_106 : decode cX5_digest 106 = .ok (.istore 4, 2) := by decide +kernel
theorem dX5_digest_108 : decode cX5_digest 108 = .ok (.iload 4, 2) := by decide +kernel
theorem dX5_digest_110 : decode cX5_digest 110 = .ok (.bipush 8, 2) := by decide +kernel
theorem dX5_digest_112 : decode cX5_digest 112 = .ok (.if_icmp .ge 24, 3) := by decide +kernel
theorem dX5_digest_115 : decode cX5_digest 115 = .ok (.ldc2_w 153, 3) := by decide +kernel
theorem dX5_digest_118 : decode cX5_digest 118 = .ok (.lload_n 1, 1) := by decide +kernel
theorem dX5_digest_119 : decode cX5_digest 119 = .ok (.lmul, 1) := by decide +kernel
theorem dX5_digest_120 : decode cX5_digest 120 = .ok (.aload_n 0, 1) := by decide +kernel
theorem dX5_digest_121 : decode cX5_digest 121 = .ok (.iload_n 3, 1) := by decide +kernel
theorem dX5_digest_122 : decode cX5_digest 122 = .ok (.iload 4, 2) := by decide +kernel
theorem dX5_digest_124 : decode cX5_digest 124 = .ok (.invokevirtual 125, 3) := by decide +kernel
theorem dX5_digest_127 : decode cX5_digest 127 = .ok (.i2l, 1) := by decide +kernel
theorem dX5_digest_128 : decode cX5_digest 128 = .ok (.ladd, 1) := by decide +kernel
theorem dX5_digest_129 : decode cX5_digest 129 = .ok (.lstore_n 1, 1) := by decide +kernel
theorem dX5_digest_130 : decode cX5_digest 130 = .ok (.iinc 4 1, 3) := by decide +kernel
theorem dX5_digest_133 : decode cX5_digest 133 = .ok (.goto (-25), 3) := by decide +kernel
theorem dX5_digest_136 : decode cX5_digest 136 = .ok (.iconst 0, 1) := by decide +kernel
theorem dX5_digest_137 : decode cX5_digest 137 = .ok (.istore 4, 2) := by decide +kernel
theorem dX5_digest_139 : decode cX5_digest 139 = .ok (.iload 4, 2) := by decide +kernel
theorem dX5_digest_141 : decode cX5_digest 141 = .ok (.iconst 5, 1) := by decide +kernel
theorem dX5_digest_142 : decode cX5_digest 142 = .ok (.if_icmp .ge 24, 3) := by decide +kernel
theorem dX5_digest_145 : decode cX5_digest 145 = .ok (.ldc2_w 153, 3) := by decide +kernel
theorem dX5_digest_148 : decode cX5_digest 148 = .ok (.lload_n 1, 1) := by decide +kernel
theorem dX5_digest_149 : decode cX5_digest 149 = .ok (.lmul, 1) := by decide +kernel
theorem dX5_digest_150 : decode cX5_digest 150 = .ok (.aload_n 0, 1) := by decide +kernel
theorem dX5_digest_151 : decode cX5_digest 151 = .ok (.iload_n 3, 1) := by decide +kernel
theorem dX5_digest_152 : decode cX5_digest 152 = .ok (.iload 4, 2) := by decide +kernel
theorem dX5_digest_154 : decode cX5_digest 154 = .ok (.invokevirtual 128, 3) := by decide +kernel
theorem dX5_digest_157 : decode cX5_digest 157 = .ok (.i2l, 1) := by decide +kernel
theorem dX5_digest_158 : decode cX5_digest 158 = .ok (.ladd, 1) := by decide +kernel
theorem dX5_digest_159 : decode cX5_digest 159 = .ok (.lstore_n 1, 1) := by decide +kernel
theorem dX5_digest_160 : decode cX5_digest 160 = .ok (.iinc 4 1, 3) := by decide +kernel
theorem dX5_digest_163 : decode cX5_digest 163 = .ok (.goto (-24), 3) := by decide +kernel
theorem dX5_digest_166 : decode cX5_digest 166 = .ok (.ldc2_w 153, 3) := by decide +kernel
theorem dX5_digest_169 : decode cX5_digest 169 = .ok (.ldc2_w 153, 3) := by decide +kernel
theorem dX5_digest_172 : decode cX5_digest 172 = .ok (.lload_n 1, 1) := by decide +kernel
theorem dX5_digest_173 : decode cX5_digest 173 = .ok (.lmul, 1) := by decide +kernel
theorem dX5_digest_174 : decode cX5_digest 174 = .ok (.aload_n 0, 1) := by decide +kernel
theorem dX5_digest_175 : decode cX5_digest 175 = .ok (.iload_n 3, 1) := by decide +kernel
theorem dX5_digest_176 : decode cX5_digest 176 = .ok (.invokevirtual 137, 3) := by decide +kernel
theorem dX5_digest_179 : decode cX5_digest 179 = .ok (.i2l, 1) := by decide +kernel
theorem dX5_digest_180 : decode cX5_digest 180 = .ok (.ladd, 1) := by decide +kernel
theorem dX5_digest_181 : decode cX5_digest 181 = .ok (.lmul, 1) := by decide +kernel
theorem dX5_digest_182 : decode cX5_digest 182 = .ok (.aload_n 0, 1) := by decide +kernel
theorem dX5_digest_183 : decode cX5_digest 183 = .ok (.iload_n 3, 1) := by decide +kernel
theorem dX5_digest_184 : decode cX5_digest 184 = .ok (.invokevirtual 140, 3) := by decide +kernel
theorem dX5_digest_187 : decode cX5_digest 187 = .ok (.i2l, 1) := by decide +kernel
theorem dX5_digest_188 : decode cX5_digest 188 = .ok (.ladd, 1) := by decide +kernel
theorem dX5_digest_189 : decode cX5_digest 189 = .ok (.lstore_n 1, 1) := by decide +kernel
theorem dX5_digest_190 : decode cX5_digest 190 = .ok (.iinc 3 1, 3) := by decide +kernel
theorem dX5_digest_193 : decode cX5_digest 193 = .ok (.goto (-93), 3) := by decide +kernel
theorem dX5_digest_196 : decode cX5_digest 196 = .ok (.bipush 15, 2) := by decide +kernel
theorem dX5_digest_198 : decode cX5_digest 198 = .ok (.istore_n 3, 1) := by decide +kernel
theorem dX5_digest_199 : decode cX5_digest 199 = .ok (.iload_n 3, 1) := by decide +kernel
theorem dX5_digest_200 : decode cX5_digest 200 = .ok (.ifCond .lt 75, 3) := by decide +kernel
theorem dX5_digest_203 : decode cX5_digest 203 = .ok (.iconst 0, 1) := by decide +kernel
theorem dX5_digest_204 : decode cX5_digest 204 = .ok (.istore 4, 2) := by decide +kernel
theorem dX5_digest_206 : decode cX5_digest 206 = .ok (.iload 4, 2) := by decide +kernel
theorem dX5_digest_208 : decode cX5_digest 208 = .ok (.iconst 5, 1) := by decide +kernel
theorem dX5_digest_209 : decode cX5_digest 209 = .ok (.if_icmp .ge 60, 3) := by decide +kernel
theorem dX5_digest_212 : decode cX5_digest 212 = .ok (.aload_n 0, 1) := by decide +kernel
theorem dX5_digest_213 : decode cX5_digest 213 = .ok (.aload_n 0, 1) := by decide +kernel
theorem dX5_digest_214 : decode cX5_digest 214 = .ok (.getfield 7, 3) := by decide +kernel
theorem dX5_digest_217 : decode cX5_digest 217 = .ok (.iconst 0, 1) := by decide +kernel
theorem dX5_digest_218 : decode cX5_digest 218 = .ok (.iaload, 1) := by decide +kernel
theorem dX5_digest_219 : decode cX5_digest 219 = .ok (.iconst 2, 1) := by decide +kernel
theorem dX5_digest_220 : decode cX5_digest 220 = .ok (.idiv, 1) := by decide +kernel
theorem dX5_digest_221 : decode cX5_digest 221 = .ok (.iload_n 3, 1) := by decide +kernel
theorem dX5_digest_222 : decode cX5_digest 222 = .ok (.isub, 1) := by decide +kernel
theorem dX5_digest_223 : decode cX5_digest 223 = .ok (.invokevirtual 77, 3) := by decide +kernel
theorem dX5_digest_226 : decode cX5_digest 226 = .ok (.ifCond .eq 43, 3) := by decide +kernel
theorem dX5_digest_229 : decode cX5_digest 229 = .ok (.ldc2_w 153, 3) := by decide +kernel
theorem dX5_digest_232 : decode cX5_digest 232 = .ok (.lload_n 1, 1) := by decide +kernel
theorem dX5_digest_233 : decode cX5_digest 233 = .ok (.lmul, 1) := by decide +kernel
theorem dX5_digest_234 : decode cX5_digest 234 = .ok (.aload_n 0, 1) := by decide +kernel
theorem dX5_digest_235 : decode cX5_digest 235 = .ok (.getfield 7, 3) := by decide +kernel
theorem dX5_digest_238 : decode cX5_digest 238 = .ok (.bipush 83, 2) := by decide +kernel
theorem dX5_digest_240 : decode cX5_digest 240 = .ok (.iconst 5, 1) := by decide +kernel
theorem dX5_digest_241 : decode cX5_digest 241 = .ok (.aload_n 0, 1) := by decide +kernel
theorem dX5_digest_242 : decode cX5_digest 242 = .ok (.getfield 7, 3) := by decide +kernel
theorem dX5_digest_245 : decode cX5_digest 245 = .ok (.iconst 0, 1) := by decide +kernel
theorem dX5_digest_246 : decode cX5_digest 246 = .ok (.iaload, 1) := by decide +kernel
theorem dX5_digest_247 : decode cX5_digest 247 = .ok (.iconst 2, 1) := by decide +kernel
theorem dX5_digest_248 : decode cX5_digest 248 = .ok (.idiv, 1) := by decide +kernel
theorem dX5_digest_249 : decode cX5_digest 249 = .ok (.iload_n 3, 1) := by decide +kernel
theorem dX5_digest_250 : decode cX5_digest 250 = .ok (.isub, 1) := by decide +kernel
theorem dX5_digest_251 : decode cX5_digest 251 = .ok (.bipush 16, 2) := by decide +kernel
theorem dX5_digest_253 : decode cX5_digest 253 = .ok (.irem, 1) := by decide +kernel
theorem dX5_digest_254 : decode cX5_digest 254 = .ok (.imul, 1) := by decide +kernel
theorem dX5_digest_255 : decode cX5_digest 255 = .ok (.iadd, 1) := by decide +kernel
theorem dX5_digest_256 : decode cX5_digest 256 = .ok (.iload 4, 2) := by decide +kernel
theorem dX5_digest_258 : decode cX5_digest 258 = .ok (.iadd, 1) := by decide +kernel
theorem dX5_digest_259 : decode cX5_digest 259 = .ok (.iaload, 1) := by decide +kernel
theorem dX5_digest_260 : decode cX5_digest 260 = .ok (.i2l, 1) := by decide +kernel
theorem dX5_digest_261 : decode cX5_digest 261 = .ok (.ladd, 1) := by decide +kernel
theorem dX5_digest_262 : decode cX5_digest 262 = .ok (.lstore_n 1, 1) := by decide +kernel
theorem dX5_digest_263 : decode cX5_digest 263 = .ok (.iinc 4 1, 3) := by decide +kernel
theorem dX5_digest_266 : decode cX5_digest 266 = .ok (.goto (-60), 3) := by decide +kernel
theorem dX5_digest_269 : decode cX5_digest 269 = .ok (.iinc 3 (-1), 3) := by decide +kernel
theorem dX5_digest_272 : decode cX5_digest 272 = .ok (.goto (-73), 3) := by decide +kernel
theorem dX5_digest_275 : decode cX5_digest 275 = .ok (.ldc2_w 153, 3) := by decide +kernel
theorem dX5_digest_278 : decode cX5_digest 278 = .ok (.lload_n 1, 1) := by decide +kernel
theorem dX5_digest_279 : decode cX5_digest 279 = .ok (.lmul, 1) := by decide +kernel
theorem dX5_digest_280 : decode cX5_digest 280 = .ok (.aload_n 0, 1) := by decide +kernel
theorem dX5_digest_281 : decode cX5_digest 281 = .ok (.invokevirtual 143, 3) := by decide +kernel
theorem dX5_digest_284 : decode cX5_digest 284 = .ok (.i2l, 1) := by decide +kernel
theorem dX5_digest_285 : decode cX5_digest 285 = .ok (.ladd, 1) := by decide +kernel
theorem dX5_digest_286 : decode cX5_digest 286 = .ok (.lstore_n 1, 1) := by decide +kernel
theorem dX5_digest_287 : decode cX5_digest 287 = .ok (.ldc2_w 153, 3) := by decide +kernel
theorem dX5_digest_290 : decode cX5_digest 290 = .ok (.ldc2_w 153, 3) := by decide +kernel
theorem dX5_digest_293 : decode cX5_digest 293 = .ok (.lload_n 1, 1) := by decide +kernel
theorem dX5_digest_294 : decode cX5_digest 294 = .ok (.lmul, 1) := by decide +kernel
theorem dX5_digest_295 : decode cX5_digest 295 = .ok (.aload_n 0, 1) := by decide +kernel
theorem dX5_digest_296 : decode cX5_digest 296 = .ok (.invokevirtual 147, 3) := by decide +kernel
theorem dX5_digest_299 : decode cX5_digest 299 = .ok (.invokestatic 155, 3) := by decide +kernel
theorem dX5_digest_302 : decode cX5_digest 302 = .ok (.ladd, 1) := by decide +kernel
theorem dX5_digest_303 : decode cX5_digest 303 = .ok (.lmul, 1) := by decide +kernel
theorem dX5_digest_304 : decode cX5_digest 304 = .ok (.aload_n 0, 1) := by decide +kernel
theorem dX5_digest_305 : decode cX5_digest 305 = .ok (.getfield 86, 3) := by decide +kernel
theorem dX5_digest_308 : decode cX5_digest 308 = .ok (.i2l, 1) := by decide +kernel
theorem dX5_digest_309 : decode cX5_digest 309 = .ok (.ladd, 1) := by decide +kernel
theorem dX5_digest_310 : decode cX5_digest 310 = .ok (.lstore_n 1, 1) := by decide +kernel
theorem dX5_digest_311 : decode cX5_digest 311 = .ok (.iconst 0, 1) := by decide +kernel
theorem dX5_digest_312 : decode cX5_digest 312 = .ok (.istore_n 3, 1) := by decide +kernel
theorem dX5_digest_313 : decode cX5_digest 313 = .ok (.iload_n 3, 1) := by decide +kernel
theorem dX5_digest_314 : decode cX5_digest 314 = .ok (.aload_n 0, 1) := by decide +kernel
theorem dX5_digest_315 : decode cX5_digest 315 = .ok (.getfield 86, 3) := by decide +kernel
theorem dX5_digest_318 : decode cX5_digest 318 = .ok (.if_icmp .ge 23, 3) := by decide +kernel
theorem dX5_digest_321 : decode cX5_digest 321 = .ok (.ldc2_w 153, 3) := by decide +kernel
theorem dX5_digest_324 : decode cX5_digest 324 = .ok (.lload_n 1, 1) := by decide +kernel
theorem dX5_digest_325 : decode cX5_digest 325 = .ok (.lmul, 1) := by decide +kernel
theorem dX5_digest_326 : decode cX5_digest 326 = .ok (.aload_n 0, 1) := by decide +kernel
theorem dX5_digest_327 : decode cX5_digest 327 = .ok (.getfield 16, 3) := by decide +kernel
theorem dX5_digest_330 : decode cX5_digest 330 = .ok (.iload_n 3, 1) := by decide +kernel
theorem dX5_digest_331 : decode cX5_digest 331 = .ok (.iaload, 1) := by decide +kernel
theorem dX5_digest_332 : decode cX5_digest 332 = .ok (.i2l, 1) := by decide +kernel
theorem dX5_digest_333 : decode cX5_digest 333 = .ok (.ladd, 1) := by decide +kernel
theorem dX5_digest_334 : decode cX5_digest 334 = .ok (.lstore_n 1, 1) := by decide +kernel
theorem dX5_digest_335 : decode cX5_digest 335 = .ok (.iinc 3 1, 3) := by decide +kernel
theorem dX5_digest_338 : decode cX5_digest 338 = .ok (.goto (-25), 3) := by decide +kernel
theorem dX5_digest_341 : decode cX5_digest 341 = .ok (.lload_n 1, 1) := by decide +kernel
theorem dX5_digest_342 : decode cX5_digest 342 = .ok (.lreturn, 1) := by decide +kernel
