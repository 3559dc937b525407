theorem dJxe99ae_isNaN_b9ae7_0 : decode cJxe99ae_isNaN_b9ae7 0 = .ok (.dload_n 0, 1) := by decide +kernel
theorem dJxe99ae_isNaN_b9ae7_1 : decode cJxe99ae_isNaN_b9ae7 1 = .ok (.dload_n 0, 1) := by decide +kernel
theorem dJxe99ae_isNaN_b9ae7_2 : decode cJxe99ae_isNaN_b9ae7 2 = .ok (.dcmp .l, 1) := by decide +kernel
theorem dJxe99ae_isNaN_b9ae7_3 : decode cJxe99ae_isNaN_b9ae7 3 = .ok (.ifCond .eq 7, 3) := by decide +kernel
theorem dJxe99ae_isNaN_b9ae7_6 : decode cJxe99ae_isNaN_b9ae7 6 = .ok (.iconst 1, 1) := by decide +kernel
theorem dJxe99ae_isNaN_b9ae7_7 : decode cJxe99ae_isNaN_b9ae7 7 = .ok (.goto 4, 3) := by decide +kernel
theorem dJxe99ae_isNaN_b9ae7_10 : decode cJxe99ae_isNaN_b9ae7 10 = .ok (.iconst 0, 1) := by decide +kernel
theorem dJxe99ae_isNaN_b9ae7_11 : decode cJxe99ae_isNaN_b9ae7 11 = .ok (.ireturn, 1) := by decide +kernel
set_option maxRecDepth 20000 in
theorem ggJxe99ae_doubleToLongBits_ccdee_Jxe99ae_isNaN_b9ae7 : GoodIn wsJxe99ae_doubleToLongBits_ccdee wsJxe99ae_isNaN_b9ae7 := goodIn_r _ [9] (by decide +kernel) (by decide +kernel)
set_option maxRecDepth 20000 in
theorem gJxe99ae_doubleToLongBits_ccdee_Jxe99ae_isNaN_b9ae7 : GoodIn wsJxe99ae_doubleToLongBits_ccdee (va_wsS RJxe99ae 122 yJxe99ae_isNaN_b9ae7 wsJxe99ae_isNaN_b9ae7) := goodIn_app (goodIn_of _ (by decide +kernel)) ggJxe99ae_doubleToLongBits_ccdee_Jxe99ae_isNaN_b9ae7
theorem dJxe99ae_doubleToLongBits_ccdee_0 : decode cJxe99ae_doubleToLongBits_ccdee 0 = .ok (.dload_n 0, 1) := by decide +kernel
theorem dJxe99ae_doubleToLongBits_ccdee_1 : decode cJxe99ae_doubleToLongBits_ccdee 1 = .ok (.invokestatic 122, 3) := by decide +kernel
theorem dJxe99ae_doubleToLongBits_ccdee_4 : decode cJxe99ae_doubleToLongBits_ccdee 4 = .ok (.ifCond .ne 8, 3) := by decide +kernel
theorem dJxe99ae_doubleToLongBits_ccdee_7 : decode cJxe99ae_doubleToLongBits_ccdee 7 = .ok (.dload_n 0, 1) := by decide +kernel
theorem dJxe99ae_doubleToLongBits_ccdee_8 : decode cJxe99ae_doubleToLongBits_ccdee 8 = .ok (.invokestatic 134, 3) := by decide +kernel
theorem dJxe99ae_doubleToLongBits_ccdee_11 : decode cJxe99ae_doubleToLongBits_ccdee 11 = .ok (.lreturn, 1) := by decide +kernel
theorem dJxe99ae_doubleToLongBits_ccdee_12 : decode cJxe99ae_doubleToLongBits_ccdee 12 = .ok (.ldc2_w 137, 3) := by decide +kernel
theorem dJxe99ae_doubleToLongBits_ccdee_15 : decode cJxe99ae_doubleToLongBits_ccdee 15 = .ok (.lreturn, 1) := by decide +kernel
theorem dJ9_floorMod_7cf53_0 : decode cJ9_floorMod_7cf53 0 = .ok (.iload_n 0, 1) := by decide +kernel
theorem dJ9_floorMod_7cf53_1 : decode cJ9_floorMod_7cf53 1 = .ok (.iload_n 1, 1) := by decide +kernel
theorem dJ9_floorMod_7cf53_2 : decode cJ9_floorMod_7cf53 2 = .ok (.irem, 1) := by decide +kernel
theorem dJ9_floorMod_7cf53_3 : decode cJ9_floorMod_7cf53 3 = .ok (.istore_n 2, 1) := by decide +kernel
theorem dJ9_floorMod_7cf53_4 : decode cJ9_floorMod_7cf53 4 = .ok (.iload_n 0, 1) := by decide +kernel
theorem dJ9_floorMod_7cf53_5 : decode cJ9_floorMod_7cf53 5 = .ok (.iload_n 1, 1) := by decide +kernel
theorem dJ9_floorMod_7cf53_6 : decode cJ9_floorMod_7cf53 6 = .ok (.ixor, 1) := by decide +kernel
theorem dJ9_floorMod_7cf53_7 : decode cJ9_floorMod_7cf53 7 = .ok (.ifCond .ge 11, 3) := by decide +kernel
theorem dJ9_floorMod_7cf53_10 : decode cJ9_floorMod_7cf53 10 = .ok (.iload_n 2, 1) := by decide +kernel
theorem dJ9_floorMod_7cf53_11 : decode cJ9_floorMod_7cf53 11 = .ok (.ifCond .eq 7, 3) := by decide +kernel
theorem dJ9_floorMod_7cf53_14 : decode cJ9_floorMod_7cf53 14 = .ok (.iload_n 2, 1) := by decide +kernel
theorem dJ9_floorMod_7cf53_15 : decode cJ9_floorMod_7cf53 15 = .ok (.iload_n 1, 1) := by decide +kernel
theorem dJ9_floorMod_7cf53_16 : decode cJ9_floorMod_7cf53 16 = .ok (.iadd, 1) := by decide +kernel
theorem dJ9_floorMod_7cf53_17 : decode cJ9_floorMod_7cf53 17 = .ok (.ireturn, 1) := by decide +kernel
theorem dJ9_floorMod_7cf53_18 : decode cJ9_floorMod_7cf53 18 = .ok (.iload_n 2, 1) := by decide +kernel
theorem dJ9_floorMod_7cf53_19 : decode cJ9_floorMod_7cf53 19 = .ok (.ireturn, 1) := by decide +kernel
theorem dJ9_max_7cf53_0 : decode cJ9_max_7cf53 0 = .ok (.iload_n 0, 1) := by decide +kernel
theorem dJ9_max_7cf53_1 : decode cJ9_max_7cf53 1 = .ok (.iload_n 1, 1) := by decide +kernel
theorem dJ9_max_7cf53_2 : decode cJ9_max_7cf53 2 = .ok (.if_icmp .lt 7, 3) := by decide +kernel
theorem dJ9_max_7cf53_5 : decode cJ9_max_7cf53 5 = .ok (.iload_n 0, 1) := by decide +kernel
theorem dJ9_max_7cf53_6 : decode cJ9_max_7cf53 6 = .ok (.goto 4, 3) := by decide +kernel
theorem dJ9_max_7cf53_9 : decode cJ9_max_7cf53 9 = .ok (.iload_n 1, 1) := by decide +kernel
theorem dJ9_max_7cf53_10 : decode cJ9_max_7cf53 10 = .ok (.ireturn, 1) := by decide +kernel
set_option maxRecDepth 20000 in
theorem ggL_come_X4_come : GoodIn wsL_come wsX4_come := goodIn_ca (goodIn_ca (goodIn_r _ [7, 8, 9, 10, 11, 12, 13, 14, 15, 6, 16, 17, 18, 19, 20, 21, 22, 23, 24, 25, 26, 27, 28, 29, 30, 31, 32, 33, 34, 35, 36, 37, 38, 39, 40, 41, 42, 43, 44, 45, 46, 47, 48, 49, 50, 51, 52, 53, 54, 55, 56, 57, 58, 59, 60, 61, 62, 63, 64, 65, 66, 67, 68, 69, 70, 71, 72, 73, 74, 75, 76, 77, 78, 79, 80, 81, 82, 83, 84, 85, 86, 87, 88, 89, 90, 91, 92, 93, 94, 95, 96, 97, 98, 99, 100, 101, 102, 103, 104] (by decide +kernel) (by decide +kernel)) (goodIn_sub (fun _ h => List.mem_cons_of_mem _ (List.mem_append_left _ (List.mem_append_right _ h))) (by decide +kernel))) (goodIn_sub (fun _ h => List.mem_cons_of_mem _ (List.mem_append_right _ h)) (by decide +kernel))
set_option maxRecDepth 20000 in
theorem gL_come_X4_come : GoodIn wsL_come (wsV RL 7 RX4 yX4_come wsX4_come) := goodIn_app (goodIn_of _ (by decide +kernel)) ggL_come_X4_come
theorem dL_come_0 : decode cL_come 0 = .ok (.aload_n 2, 1) := by decide +kernel
theorem dL_come_1 : decode cL_come 1 = .ok (.iconst 0, 1) := by decide +kernel
theorem dL_come_2 : decode cL_come 2 = .ok (.aload_n 0, 1) := by decide +kernel
theorem dL_come_3 : decode cL_come 3 = .ok (.iload_n 1, 1) := by decide +kernel
theorem dL_come_4 : decode cL_come 4 = .ok (.invokevirtual 7, 3) := by decide +kernel
theorem dL_come_7 : decode cL_come 7 = .ok (.i2l, 1) := by decide +kernel
theorem dL_come_8 : decode cL_come 8 = .ok (.lastore, 1) := by decide +kernel
theorem dL_come_9 : decode cL_come 9 = .ok (.goto 9, 3) := by decide +kernel
theorem dL_come_12 : decode cL_come 12 = .ok (.astore_n 3, 1) := by decide +kernel
theorem dL_come_13 : decode cL_come 13 = .ok (.iconst 1, 1) := by decide +kernel
theorem dL_come_14 : decode cL_come 14 = .ok (.ireturn, 1) := by decide +kernel
theorem dL_come_15 : decode cL_come 15 = .ok (.astore_n 3, 1) := by decide +kernel
theorem dL_come_16 : decode cL_come 16 = .ok (.iconst 2, 1) := by decide +kernel
theorem dL_come_17 : decode cL_come 17 = .ok (.ireturn, 1) := by decide +kernel
theorem dL_come_18 : decode cL_come 18 = .ok (.iconst 0, 1) := by decide +kernel
theorem dL_come_19 : decode cL_come 19 = .ok (.ireturn, 1) := by decide +kernel
set_option maxRecDepth 20000 in
theorem ggL_chalk_X4_chalk : GoodIn wsL_chalk wsX4_chalk := goodIn_ca (goodIn_ca (goodIn_ca (goodIn_r _ [8, 9, 10, 11, 12, 13, 14, 15, 16, 17, 18, 7, 19, 20, 21, 22, 23, 24, 25, 26, 27, 28, 29, 30, 31, 32, 33, 34, 35, 36, 37, 38, 39, 40, 41, 42, 43, 44, 45, 46, 47, 48, 49, 50, 51, 52, 53, 54, 55, 56, 57, 58, 59, 60, 61, 62, 63, 64, 65, 66, 67, 68, 69, 70, 71, 72, 73, 74, 75, 76, 77, 78, 79, 80, 81, 82, 83, 84, 85, 86, 87, 88, 89, 90, 91, 92, 93, 94, 95, 96, 97, 98, 99, 100, 101, 102] (by decide +kernel) (by decide +kernel)) (goodIn_sub (fun _ h => List.mem_cons_of_mem _ (List.mem_append_left _ (List.mem_append_left _ (List.mem_append_right _ h)))) (by decide +kernel))) (goodIn_sub (fun _ h => List.mem_cons_of_mem _ (List.mem_append_left _ (List.mem_append_right _ h))) (by decide +kernel))) (goodIn_sub (fun _ h => List.mem_cons_of_mem _ (List.mem_append_right _ h)) (by decide +kernel))
set_option maxRecDepth 20000 in
theorem gL_chalk_X4_chalk : GoodIn wsL_chalk (wsV RL 17 RX4 yX4_chalk wsX4_chalk) := goodIn_app (goodIn_of _ (by decide +kernel)) ggL_chalk_X4_chalk
theorem dL_chalk_0 : decode cL_chalk 0 = .ok (.aload_n 3, 1) := by decide +kernel
theorem dL_chalk_1 : decode cL_chalk 1 = .ok (.iconst 0, 1) := by decide +kernel
theorem dL_chalk_2 : decode cL_chalk 2 = .ok (.aload_n 0, 1) := by decide +kernel
theorem dL_chalk_3 : decode cL_chalk 3 = .ok (.iload_n 1, 1) := by decide +kernel
theorem dL_chalk_4 : decode cL_chalk 4 = .ok (.iload_n 2, 1) := by decide +kernel
theorem dL_chalk_5 : decode cL_chalk 5 = .ok (.invokevirtual 17, 3) := by decide +kernel
theorem dL_chalk_8 : decode cL_chalk 8 = .ok (.i2l, 1) := by decide +kernel
theorem dL_chalk_9 : decode cL_chalk 9 = .ok (.lastore, 1) := by decide +kernel
theorem dL_chalk_10 : decode cL_chalk 10 = .ok (.goto 15, 3) := by decide +kernel
theorem dL_chalk_13 : decode cL_chalk 13 = .ok (.astore 4, 2) := by decide +kernel
theorem dL_chalk_15 : decode cL_chalk 15 = .ok (.iconst 1, 1) := by decide +kernel
theorem dL_chalk_16 : decode cL_chalk 16 = .ok (.ireturn, 1) := by decide +kernel
theorem dL_chalk_17 : decode cL_chalk 17 = .ok (.astore 4, 2) := by decide +kernel
theorem dL_chalk_19 : decode cL_chalk 19 = .ok (.iconst 2, 1) := by decide +kernel
theorem dL_chalk_20 : decode cL_chalk 20 = .ok (.ireturn, 1) := by decide +kernel
theorem dL_chalk_21 : decode cL_chalk 21 = .ok (.astore 4, 2) := by decide +kernel
theorem dL_chalk_23 : decode cL_chalk 23 = .ok (.iconst 3, 1) := by decide +kernel
theorem dL_chalk_24 : decode cL_chalk 24 = .ok (.ireturn, 1) := by decide +kernel
theorem dL_chalk_25 : decode cL_chalk 25 = .ok (.iconst 0, 1) := by decide +kernel
theorem dL_chalk_26 : decode cL_chalk 26 = .ok (.ireturn, 1) := by decide +kernel
set_option maxRecDepth 20000 in
theorem ggL_done_X4_done : GoodIn wsL_done wsX4_done := goodIn_ca (goodIn_ca (goodIn_r _ [7, 8, 9, 10, 11, 12, 13, 14, 15, 6, 16, 17, 18, 19, 20, 21, 22, 23, 24, 25, 26, 27, 28, 29, 30, 31, 32, 33, 34, 35, 36, 37, 38, 39, 40, 41, 42, 43, 44, 45, 46, 47, 48, 49, 50, 51, 52, 53, 54, 55, 56, 57, 58, 59, 60, 61, 62, 63, 64, 65, 66, 67, 68, 69, 70, 71, 72, 73, 74, 75, 76, 77, 78, 79, 80, 81, 82, 83, 84, 85, 86, 87, 88, 89, 90, 91, 92, 93, 94, 95, 96, 97, 98, 99, 100, 101, 102, 103, 104, 105, 106, 107, 108, 109, 110, 111, 112, 113, 114, 115, 116, 117, 118, 119, 120, 121, 122, 123, 124, 125, 126] (by decide +kernel) (by decide +kernel)) (goodIn_sub (fun _ h => List.mem_cons_of_mem _ (List.mem_append_left _ (List.mem_append_right _ h))) (by decide +kernel))) (goodIn_sub (fun _ h => List.mem_cons_of_mem _ (List.mem_append_right _ h)) (by decide +kernel))
set_option maxRecDepth 20000 in
theorem gL_done_X4_done : GoodIn wsL_done (wsV RL 23 RX4 yX4_done wsX4_done) := goodIn_app (goodIn_of _ (by decide +kernel)) ggL_done_X4_done
theorem dL_done_0 : decode cL_done 0 = .ok (.aload_n 2, 1) := by decide +kernel
theorem dL_done_1 : decode cL_done 1 = .ok (.iconst 0, 1) := by decide +kernel
theorem dL_done_2 : decode cL_done 2 = .ok (.aload_n 0, 1) := by decide +kernel
theorem dL_done_3 : decode cL_done 3 = .ok (.iload_n 1, 1) := by decide +kernel
theorem dL_done_4 : decode cL_done 4 = .ok (.invokevirtual 23, 3) := by decide +kernel
theorem dL_done_7 : decode cL_done 7 = .ok (.i2l, 1) := by decide +kernel
theorem dL_done_8 : decode cL_done 8 = .ok (.lastore, 1) := by decide +kernel
theorem dL_done_9 : decode cL_done 9 = .ok (.goto 9, 3) := by decide +kernel
theorem dL_done_12 : decode cL_done 12 = .ok (.astore_n 3, 1) := by decide +kernel
theorem dL_done_13 : decode cL_done 13 = .ok (.iconst 1, 1) := by decide +kernel
theorem dL_done_14 : decode cL_done 14 = .ok (.ireturn, 1) := by decide +kernel
theorem dL_done_15 : decode cL_done 15 = .ok (.astore_n 3, 1) := by decide +kernel
theorem dL_done_16 : decode cL_done 16 = .ok (.iconst 2, 1) := by decide +kernel
theorem dL_done_17 : decode cL_done 17 = .ok (.ireturn, 1) := by decide +kernel
theorem dL_done_18 : decode cL_done 18 = .ok (.iconst 0, 1) := by decide +kernel
theorem dL_done_19 : decode cL_done 19 = .ok (.ireturn, 1) := by decide +kernel
set_option maxRecDepth 20000 in
theorem ggL_reader_X4_reader : GoodIn wsL_reader wsX4_reader := goodIn_ca (goodIn_r _ [6, 7, 8, 9, 10, 11, 12, 13, 5, 14, 15, 16, 17, 18, 19, 20, 21, 22, 23, 24, 25, 26, 27, 28, 29, 30, 31, 32, 33, 34, 35, 36, 37, 38, 39, 40, 41, 42, 43, 44, 45, 46, 47, 48, 49, 50, 51, 52, 53, 54, 55, 56, 57, 58, 59, 60, 61, 62, 63, 64, 65, 66, 67, 68, 69, 70, 71, 72, 73, 74, 75, 76, 77, 78, 79, 80, 81, 82, 83, 84, 85, 86, 87, 88, 89, 90, 91, 92, 93] (by decide +kernel) (by decide +kernel)) (goodIn_sub (fun _ h => List.mem_cons_of_mem _ (List.mem_append_right _ h)) (by decide +kernel))
set_option maxRecDepth 20000 in
theorem gL_reader_X4_reader : GoodIn wsL_reader (wsV RL 26 RX4 yX4_reader wsX4_reader) := goodIn_app (goodIn_of _ (by decide +kernel)) ggL_reader_X4_reader
theorem dL_reader_0 : decode cL_reader 0 = .ok (.aload_n 3, 1) := by decide +kernel
theorem dL_reader_1 : decode cL_reader 1 = .ok (.iconst 0, 1) := by decide +kernel
theorem dL_reader_2 : decode cL_reader 2 = .ok (.aload_n 0, 1) := by decide +kernel
theorem dL_reader_3 : decode cL_reader 3 = .ok (.iload_n 1, 1) := by decide +kernel
theorem dL_reader_4 : decode cL_reader 4 = .ok (.iload_n 2, 1) := by decide +kernel
theorem dL_reader_5 : decode cL_reader 5 = .ok (.invokevirtual 26, 3) := by decide +kernel
theorem dL_reader_8 : decode cL_reader 8 = .ok (.i2l, 1) := by decide +kernel
theorem dL_reader_9 : decode cL_reader 9 = .ok (.lastore, 1) := by decide +kernel
theorem dL_reader_10 : decode cL_reader 10 = .ok (.goto 7, 3) := by decide +kernel
theorem dL_reader_13 : decode cL_reader 13 = .ok (.astore 4, 2) := by decide +kernel
theorem dL_reader_15 : decode cL_reader 15 = .ok (.iconst 1, 1) := by decide +kernel
theorem dL_reader_16 : decode cL_reader 16 = .ok (.ireturn, 1) := by decide +kernel
theorem dL_reader_17 : decode cL_reader 17 = .ok (.iconst 0, 1) := by decide +kernel
theorem dL_reader_18 : decode cL_reader 18 = .ok (.ireturn, 1) := by decide +kernel
set_option maxRecDepth 20000 in
theorem ggL_begin_X4_begin : GoodIn wsL_begin wsX4_begin := goodIn_ca (goodIn_ca (goodIn_r _ [7, 8, 9, 10, 11, 12, 13, 14, 15, 16, 6, 17, 18, 19, 20, 21, 22, 23, 24, 25, 26, 27, 28, 29, 30, 31, 32, 33, 34, 35, 36, 37, 38, 39, 40, 41, 42, 43, 44, 45, 46, 47, 48, 49, 50, 51, 52, 53, 54, 55, 56, 57, 58, 59, 60, 61, 62, 63, 64, 65, 66, 67, 68, 69, 70, 71, 72, 73, 74, 75, 76, 77, 78, 79, 80, 81, 82, 83, 84, 85, 86, 87, 88, 89, 90, 91, 92, 93, 94, 95, 96, 97, 98, 99, 100, 101, 102, 103, 104, 105, 106, 107, 108, 109, 110, 111, 112, 113, 114, 115, 116, 117, 118] (by decide +kernel) (by decide +kernel)) (goodIn_sub (fun _ h => List.mem_cons_of_mem _ (List.mem_append_left _ (List.mem_append_right _ h))) (by decide +kernel))) (goodIn_sub (fun _ h => List.mem_cons_of_mem _ (List.mem_append_right _ h)) (by decide +kernel))
set_option maxRecDepth 20000 in
theorem gL_begin_X4_begin : GoodIn wsL_begin (wsV RL 30 RX4 yX4_begin wsX4_begin) := goodIn_app (goodIn_of _ (by decide +kernel)) ggL_begin_X4_begin
theorem dL_begin_0 : decode cL_begin 0 = .ok (.aload_n 2, 1) := by decide +kernel
theorem dL_begin_1 : decode cL_begin 1 = .ok (.iconst 0, 1) := by decide +kernel
theorem dL_begin_2 : decode cL_begin 2 = .ok (.aload_n 0, 1) := by decide +kernel
theorem dL_begin_3 : decode cL_begin 3 = .ok (.iload_n 1, 1) := by decide +kernel
theorem dL_begin_4 : decode cL_begin 4 = .ok (.invokevirtual 30, 3) := by decide +kernel
theorem dL_begin_7 : decode cL_begin 7 = .ok (.i2l, 1) := by decide +kernel
theorem dL_begin_8 : decode cL_begin 8 = .ok (.lastore, 1) := by decide +kernel
theorem dL_begin_9 : decode cL_begin 9 = .ok (.goto 9, 3) := by decide +kernel
theorem dL_begin_12 : decode cL_begin 12 = .ok (.astore_n 3, 1) := by decide +kernel
theorem dL_begin_13 : decode cL_begin 13 = .ok (.iconst 1, 1) := by decide +kernel
theorem dL_begin_14 : decode cL_begin 14 = .ok (.ireturn, 1) := by decide +kernel
theorem dL_begin_15 : decode cL_begin 15 = .ok (.astore_n 3, 1) := by decide +kernel
theorem dL_begin_16 : decode cL_begin 16 = .ok (.iconst 2, 1) := by decide +kernel
theorem dL_begin_17 : decode cL_begin 17 = .ok (.ireturn, 1) := by decide +kernel
theorem dL_begin_18 : decode cL_begin 18 = .ok (.iconst 0, 1) := by decide +kernel
theorem dL_begin_19 : decode cL_begin 19 = .ok (.ireturn, 1) := by decide +kernel
set_option maxRecDepth 20000 in
theorem ggL_look_X4_look : GoodIn wsL_look wsX4_look := goodIn_ca (goodIn_ca (goodIn_r _ [7, 8, 9, 10, 11, 12, 13, 14, 15, 16, 6, 17, 18, 19, 20, 21, 22, 23, 24, 25, 26, 27, 28, 29, 30, 31, 32, 33, 34, 35, 36, 37, 38, 39, 40, 41, 42, 43, 44, 45, 46, 47, 48, 49, 50, 51, 52, 53, 54, 55, 56, 57, 58, 59, 60, 61, 62, 63, 64, 65, 66, 67, 68, 69, 70, 71, 72, 73, 74, 75, 76, 77, 78, 79, 80, 81, 82, 83, 84, 85, 86, 87, 88, 89, 90, 91, 92, 93, 94, 95, 96, 97, 98, 99, 100, 101, 102, 103, 104, 105, 106, 107, 108, 109, 110, 111, 112, 113, 114, 115, 116, 117, 118, 119, 120, 121, 122, 123, 124, 125, 126, 127, 128, 129, 130, 131, 132, 133, 134, 135, 136, 137, 138, 139] (by decide +kernel) (by decide +kernel)) (goodIn_sub (fun _ h => List.mem_cons_of_mem _ (List.mem_append_left _ (List.mem_append_right _ h))) (by decide +kernel))) (goodIn_sub (fun _ h => List.mem_cons_of_mem _ (List.mem_append_right _ h)) (by decide +kernel))
set_option maxRecDepth 20000 in
theorem gL_look_X4_look : GoodIn wsL_look (wsV RL 33 RX4 yX4_look wsX4_look) := goodIn_app (goodIn_of _ (by decide +kernel)) ggL_look_X4_look
theorem dL_look_0 : decode cL_look 0 = .ok (.aload_n 2, 1) := by decide +kernel
theorem dL_look_1 : decode cL_look 1 = .ok (.iconst 0, 1) := by decide +kernel
theorem dL_look_2 : decode cL_look 2 = .ok (.aload_n 0, 1) := by decide +kernel
theorem dL_look_3 : decode cL_look 3 = .ok (.iload_n 1, 1) := by decide +kernel
theorem dL_look_4 : decode cL_look 4 = .ok (.invokevirtual 33, 3) := by decide +kernel
theorem dL_look_7 : decode cL_look 7 = .ok (.i2l, 1) := by decide +kernel
theorem dL_look_8 : decode cL_look 8 = .ok (.lastore, 1) := by decide +kernel
theorem dL_look_9 : decode cL_look 9 = .ok (.goto 9, 3) := by decide +kernel
theorem dL_look_12 : decode cL_look 12 = .ok (.astore_n 3, 1) := by decide +kernel
theorem dL_look_13 : decode cL_look 13 = .ok (.iconst 1, 1) := by decide +kernel
theorem dL_look_14 : decode cL_look 14 = .ok (.ireturn, 1) := by decide +kernel
theorem dL_look_15 : decode cL_look 15 = .ok (.astore_n 3, 1) := by decide +kernel
theorem dL_look_16 : decode cL_look 16 = .ok (.iconst 2, 1) := by decide +kernel
theorem dL_look_17 : decode cL_look 17 = .ok (.ireturn, 1) := by decide +kernel
theorem dL_look_18 : decode cL_look 18 = .ok (.iconst 0, 1) := by decide +kernel
theorem dL_look_19 : decode cL_look 19 = .ok (.ireturn, 1) := by decide +kernel
set_option maxRecDepth 20000 in
theorem ggL_set_X4_set : GoodIn wsL_set wsX4_set := goodIn_ca (goodIn_r _ [6, 7, 8, 9, 10, 11, 12, 13, 5, 14, 15, 16, 17, 18, 19, 20, 21, 22, 23, 24, 25, 26, 27, 28, 29, 30, 31, 32, 33, 34, 35, 36, 37, 38, 39, 40, 41, 42, 43, 44, 45, 46, 47, 48, 49, 50, 51, 52, 53, 54, 55, 56, 57, 58, 59, 60, 61, 62, 63, 64, 65, 66, 67, 68, 69, 70, 71, 72, 73, 74, 75, 76, 77, 78, 79, 80, 81, 82, 83, 84, 85] (by decide +kernel) (by decide +kernel)) (goodIn_sub (fun _ h => List.mem_cons_of_mem _ (List.mem_append_right _ h)) (by decide +kernel))
set_option maxRecDepth 20000 in
theorem gL_set_X4_set : GoodIn wsL_set (wsV RL 36 RX4 yX4_set wsX4_set) := goodIn_app (goodIn_of _ (by decide +kernel)) ggL_set_X4_set
theorem dL_set_0 : decode cL_set 0 = .ok (.aload_n 2, 1) := by decide +kernel
theorem dL_set_1 : decode cL_set 1 = .ok (.iconst 0, 1) := by decide +kernel
theorem dL_set_2 : decode cL_set 2 = .ok (.aload_n 0, 1) := by decide +kernel
theorem dL_set_3 : decode cL_set 3 = .ok (.iload_n 1, 1) := by decide +kernel
theorem dL_set_4 : decode cL_set 4 = .ok (.invokevirtual 36, 3) := by decide +kernel
theorem dL_set_7 : decode cL_set 7 = .ok (.i2l, 1) := by decide +kernel
theorem dL_set_8 : decode cL_set 8 = .ok (.lastore, 1) := by decide +kernel
theorem dL_set_9 : decode cL_set 9 = .ok (.goto 6, 3) := by decide +kernel
theorem dL_set_12 : decode cL_set 12 = .ok (.astore_n 3, 1) := by decide +kernel
theorem dL_set_13 : decode cL_set 13 = .ok (.iconst 1, 1) := by decide +kernel
theorem dL_set_14 : decode cL_set 14 = .ok (.ireturn, 1) := by decide +kernel
theorem dL_set_15 : decode cL_set 15 = .ok (.iconst 0, 1) := by decide +kernel
theorem dL_set_16 : decode cL_set 16 = .ok (.ireturn, 1) := by decide +kernel
set_option maxRecDepth 20000 in
theorem ggL_append_X4_append : GoodIn wsL_append wsX4_append := goodIn_ca (goodIn_ca (goodIn_r _ [7, 8, 9, 10, 11, 12, 13, 14, 15, 16, 17, 18, 19, 20, 21, 22, 23, 24, 25, 26, 27, 28, 29, 30, 6, 31, 32, 33, 34, 35, 36, 37, 38, 39, 40, 41] (by decide +kernel) (by decide +kernel)) (goodIn_sub (fun _ h => List.mem_cons_of_mem _ (List.mem_append_left _ (List.mem_append_right _ h))) (by decide +kernel))) (goodIn_sub (fun _ h => List.mem_cons_of_mem _ (List.mem_append_right _ h)) (by decide +kernel))
set_option maxRecDepth 20000 in
theorem gL_append_X4_append : GoodIn wsL_append (wsV RL 39 RX4 yX4_append wsX4_append) := goodIn_app (goodIn_of _ (by decide +kernel)) ggL_append_X4_append
theorem dL_append_0 : decode cL_append 0 = .ok (.aload_n 2, 1) := by decide +kernel
theorem dL_append_1 : decode cL_append 1 = .ok (.iconst 0, 1) := by decide +kernel
theorem dL_append_2 : decode cL_append 2 = .ok (.aload_n 0, 1) := by decide +kernel
theorem dL_append_3 : decode cL_append 3 = .ok (.iload_n 1, 1) := by decide +kernel
theorem dL_append_4 : decode cL_append 4 = .ok (.invokevirtual 39, 3) := by decide +kernel
theorem dL_append_7 : decode cL_append 7 = .ok (.i2l, 1) := by decide +kernel
theorem dL_append_8 : decode cL_append 8 = .ok (.lastore, 1) := by decide +kernel
theorem dL_append_9 : decode cL_append 9 = .ok (.goto 9, 3) := by decide +kernel
theorem dL_append_12 : decode cL_append 12 = .ok (.astore_n 3, 1) := by decide +kernel
theorem dL_append_13 : decode cL_append 13 = .ok (.iconst 1, 1) := by decide +kernel
theorem dL_append_14 : decode cL_append 14 = .ok (.ireturn, 1) := by decide +kernel
theorem dL_append_15 : decode cL_append 15 = .ok (.astore_n 3, 1) := by decide +kernel
theorem dL_append_16 : decode cL_append 16 = .ok (.iconst 2, 1) := by decide +kernel
theorem dL_append_17 : decode cL_append 17 = .ok (.ireturn, 1) := by decide +kernel
theorem dL_append_18 : decode cL_append 18 = .ok (.iconst 0, 1) := by decide +kernel
theorem dL_append_19 : decode cL_append 19 = .ok (.ireturn, 1) := by decide +kernel
set_option maxRecDepth 20000 in
theorem ggL_play_X4_play : GoodIn wsL_play wsX4_play := goodIn_ca (goodIn_r _ [6, 7, 8, 9, 10, 11, 12, 13, 14, 15, 16, 17, 18, 19, 5, 20, 21, 22, 23, 24, 25, 26, 27, 28, 29, 30, 31, 32, 33, 34, 35, 36, 37, 38, 39, 40, 41, 42, 43, 44, 45, 46, 47, 48, 49, 50, 51, 52, 53, 54, 55, 56, 57, 58, 59, 60, 61, 62, 63, 64, 65, 66, 67, 68, 69, 70, 71, 72, 73, 74, 75, 76, 77, 78, 79, 80, 81, 82, 83, 84, 85, 86, 87, 88, 89, 90, 91, 92, 93, 94, 95, 96, 97, 98, 99, 100, 101, 102, 103, 104, 105, 106, 107, 108, 109, 110, 111, 112, 113, 114, 115, 116, 117, 118, 119, 120, 121, 122, 123, 124, 125, 126, 127, 128, 129, 130, 131, 132, 133, 134, 135, 136, 137, 138, 139, 140, 141, 142, 143, 144, 145, 146, 147, 148, 149, 150, 151, 152, 153, 154, 155, 156, 157, 158, 159, 160, 161, 162, 163, 164, 165, 166, 167, 168, 169, 170, 171, 172, 173, 174, 175, 176, 177, 178, 179, 180, 181, 182, 183, 184, 185, 186, 187, 188, 189, 190, 191, 192, 193, 194, 195, 196, 197, 198, 199, 200, 201, 202, 203, 204, 205, 206, 207, 208, 209, 210, 211, 212, 213, 214, 215, 216, 217, 218, 219, 220, 221, 222, 223, 224, 225, 226, 227, 228, 229, 230, 231, 232, 233] (by decide +kernel) (by decide +kernel)) (goodIn_sub (fun _ h => List.mem_cons_of_mem _ (List.mem_append_right _ h)) (by decide +kernel))
set_option maxRecDepth 20000 in
theorem gL_play_X4_play : GoodIn wsL_play (wsV RL 42 RX4 yX4_play wsX4_play) := goodIn_app (goodIn_of _ (by decide +kernel)) ggL_play_X4_play
theorem dL_play_0 : decode cL_play 0 = .ok (.aload_n 1, 1) := by decide +kernel
theorem dL_play_1 : decode cL_play 1 = .ok (.iconst 0, 1) := by decide +kernel
theorem dL_play_2 : decode cL_play 2 = .ok (.aload_n 0, 1) := by decide +kernel
theorem dL_play_3 : decode cL_play 3 = .ok (.invokevirtual 42, 3) := by decide +kernel
theorem dL_play_6 : decode cL_play 6 = .ok (.i2l, 1) := by decide +kernel
theorem dL_play_7 : decode cL_play 7 = .ok (.lastore, 1) := by decide +kernel
theorem dL_play_8 : decode cL_play 8 = .ok (.goto 6, 3) := by decide +kernel
theorem dL_play_11 : decode cL_play 11 = .ok (.astore_n 2, 1) := by decide +kernel
theorem dL_play_12 : decode cL_play 12 = .ok (.iconst 1, 1) := by decide +kernel
theorem dL_play_13 : decode cL_play 13 = .ok (.ireturn, 1) := by decide +kernel
theorem dL_play_14 : decode cL_play 14 = .ok (.iconst 0, 1) := by decide +kernel
theorem dL_play_15 : decode cL_play 15 = .ok (.ireturn, 1) := by decide +kernel
set_option maxRecDepth 20000 in
theorem ggL_undo_X4_undo : GoodIn wsL_undo wsX4_undo := goodIn_ca (goodIn_r _ [6, 7, 8, 9, 10, 11, 12, 13, 14, 5, 15, 16, 17, 18, 19, 20, 21, 22, 23, 24, 25, 26, 27, 28, 29, 30, 31, 32, 33, 34, 35, 36, 37, 38, 39, 40, 41, 42, 43, 44, 45, 46, 47, 48, 49, 50, 51, 52, 53, 54, 55, 56, 57, 58, 59, 60, 61, 62, 63, 64, 65, 66, 67, 68, 69, 70, 71, 72, 73, 74, 75, 76, 77, 78, 79, 80] (by decide +kernel) (by decide +kernel)) (goodIn_sub (fun _ h => List.mem_cons_of_mem _ (List.mem_append_right _ h)) (by decide +kernel))
set_option maxRecDepth 20000 in
theorem gL_undo_X4_undo : GoodIn wsL_undo (wsV RL 46 RX4 yX4_undo wsX4_undo) := goodIn_app (goodIn_of _ (by decide +kernel)) ggL_undo_X4_undo
theorem dL_undo_0 : decode cL_undo 0 = .ok (.aload_n 1, 1) := by decide +kernel
theorem dL_undo_1 : decode cL_undo 1 = .ok (.iconst 0, 1) := by decide +kernel
theorem dL_undo_2 : decode cL_undo 2 = .ok (.aload_n 0, 1) := by decide +kernel
theorem dL_undo_3 : decode cL_undo 3 = .ok (.invokevirtual 46, 3) := by decide +kernel
theorem dL_undo_6 : decode cL_undo 6 = .ok (.i2l, 1) := by decide +kernel
theorem dL_undo_7 : decode cL_undo 7 = .ok (.lastore, 1) := by decide +kernel
theorem dL_undo_8 : decode cL_undo 8 = .ok (.goto 6, 3) := by decide +kernel
theorem dL_undo_11 : decode cL_undo 11 = .ok (.astore_n 2, 1) := by decide +kernel
theorem dL_undo_12 : decode cL_undo 12 = .ok (.iconst 1, 1) := by decide +kernel
theorem dL_undo_13 : decode cL_undo 13 = .ok (.ireturn, 1) := by decide +kernel
theorem dL_undo_14 : decode cL_undo 14 = .ok (.iconst 0, 1) := by decide +kernel
theorem dL_undo_15 : decode cL_undo 15 = .ok (.ireturn, 1) := by decide +kernel
set_option maxRecDepth 20000 in
theorem ggL_field_X4_field : GoodIn wsL_field wsX4_field := goodIn_ca (goodIn_r _ [6, 7, 8, 9, 10, 11, 12, 13, 5, 14, 15, 16, 17, 18, 19, 20, 21, 22, 23, 24, 25, 26, 27, 28, 29] (by decide +kernel) (by decide +kernel)) (goodIn_sub (fun _ h => List.mem_cons_of_mem _ (List.mem_append_right _ h)) (by decide +kernel))
set_option maxRecDepth 20000 in
theorem gL_field_X4_field : GoodIn wsL_field (wsV RL 49 RX4 yX4_field wsX4_field) := goodIn_app (goodIn_of _ (by decide +kernel)) ggL_field_X4_field
theorem dL_field_0 : decode cL_field 0 = .ok (.aload_n 2, 1) := by decide +kernel
theorem dL_field_1 : decode cL_field 1 = .ok (.iconst 0, 1) := by decide +kernel
theorem dL_field_2 : decode cL_field 2 = .ok (.aload_n 0, 1) := by decide +kernel
theorem dL_field_3 : decode cL_field 3 = .ok (.iload_n 1, 1) := by decide +kernel
theorem dL_field_4 : decode cL_field 4 = .ok (.invokevirtual 49, 3) := by decide +kernel
theorem dL_field_7 : decode cL_field 7 = .ok (.i2l, 1) := by decide +kernel
theorem dL_field_8 : decode cL_field 8 = .ok (.lastore, 1) := by decide +kernel
theorem dL_field_9 : decode cL_field 9 = .ok (.goto 6, 3) := by decide +kernel
theorem dL_field_12 : decode cL_field 12 = .ok (.astore_n 3, 1) := by decide +kernel
theorem dL_field_13 : decode cL_field 13 = .ok (.iconst 1, 1) := by decide +kernel
theorem dL_field_14 : decode cL_field 14 = .ok (.ireturn, 1) := by decide +kernel
theorem dL_field_15 : decode cL_field 15 = .ok (.iconst 0, 1) := by decide +kernel
theorem dL_field_16 : decode cL_field 16 = .ok (.ireturn, 1) := by decide +kernel
set_option maxRecDepth 20000 in
theorem ggL_notice_X4_notice : GoodIn wsL_notice wsX4_notice := goodIn_ca (goodIn_ca (goodIn_r _ [7, 8, 9, 10, 11, 12, 13, 14, 15, 6, 16, 17, 18, 19, 20, 21, 22, 23, 24, 25, 26, 27, 28, 29, 30, 31, 32, 33, 34, 35, 36, 37, 38, 39, 40, 41, 42, 43, 44, 45, 46, 47, 48, 49, 50, 51, 52, 53, 54, 55, 56, 57] (by decide +kernel) (by decide +kernel)) (goodIn_sub (fun _ h => List.mem_cons_of_mem _ (List.mem_append_left _ (List.mem_append_right _ h))) (by decide +kernel))) (goodIn_sub (fun _ h => List.mem_cons_of_mem _ (List.mem_append_right _ h)) (by decide +kernel))
set_option maxRecDepth 20000 in
theorem gL_notice_X4_notice : GoodIn wsL_notice (wsV RL 52 RX4 yX4_notice wsX4_notice) := goodIn_app (goodIn_of _ (by decide +kernel)) ggL_notice_X4_notice
theorem dL_notice_0 : decode cL_notice 0 = .ok (.aload_n 3, 1) := by decide +kernel
theorem dL_notice_1 : decode cL_notice 1 = .ok (.iconst 0, 1) := by decide +kernel
theorem dL_notice_2 : decode cL_notice 2 = .ok (.aload_n 0, 1) := by decide +kernel
theorem dL_notice_3 : decode cL_notice 3 = .ok (.iload_n 1, 1) := by decide +kernel
theorem dL_notice_4 : decode cL_notice 4 = .ok (.iload_n 2, 1) := by decide +kernel
theorem dL_notice_5 : decode cL_notice 5 = .ok (.invokevirtual 52, 3) := by decide +kernel
theorem dL_notice_8 : decode cL_notice 8 = .ok (.i2l, 1) := by decide +kernel
theorem dL_notice_9 : decode cL_notice 9 = .ok (.lastore, 1) := by decide +kernel
theorem dL_notice_10 : decode cL_notice 10 = .ok (.goto 11, 3) := by decide +kernel
theorem dL_notice_13 : decode cL_notice 13 = .ok (.astore 4, 2) := by decide +kernel
theorem dL_notice_15 : decode cL_notice 15 = .ok (.iconst 1, 1) := by decide +kernel
theorem dL_notice_16 : decode cL_notice 16 = .ok (.ireturn, 1) := by decide +kernel
theorem dL_notice_17 : decode cL_notice 17 = .ok (.astore 4, 2) := by decide +kernel
theorem dL_notice_19 : decode cL_notice 19 = .ok (.iconst 2, 1) := by decide +kernel
theorem dL_notice_20 : decode cL_notice 20 = .ok (.ireturn, 1) := by decide +kernel
theorem dL_notice_21 : decode cL_notice 21 = .ok (.iconst 0, 1) := by decide +kernel
theorem dL_notice_22 : decode cL_notice 22 = .ok (.ireturn, 1) := by decide +kernel
set_option maxRecDepth 20000 in
theorem ggL_clerk_X4_clerk : GoodIn wsL_clerk wsX4_clerk := goodIn_ca (goodIn_ca (goodIn_r _ [7, 8, 9, 10, 11, 12, 13, 14, 15, 16, 6, 17, 18, 19, 20, 21, 22, 23, 24, 25, 26, 27, 28, 29, 30, 31, 32, 33, 34, 35, 36, 37, 38, 39, 40, 41, 42, 43, 44, 45, 46, 47, 48, 49, 50] (by decide +kernel) (by decide +kernel)) (goodIn_sub (fun _ h => List.mem_cons_of_mem _ (List.mem_append_left _ (List.mem_append_right _ h))) (by decide +kernel))) (goodIn_sub (fun _ h => List.mem_cons_of_mem _ (List.mem_append_right _ h)) (by decide +kernel))
set_option maxRecDepth 20000 in
theorem gL_clerk_X4_clerk : GoodIn wsL_clerk (wsV RL 55 RX4 yX4_clerk wsX4_clerk) := goodIn_app (goodIn_of _ (by decide +kernel)) ggL_clerk_X4_clerk
theorem dL_clerk_0 : decode cL_clerk 0 = .ok (.aload_n 3, 1) := by decide +kernel
theorem dL_clerk_1 : decode cL_clerk 1 = .ok (.iconst 0, 1) := by decide +kernel
theorem dL_clerk_2 : decode cL_clerk 2 = .ok (.aload_n 0, 1) := by decide +kernel
theorem dL_clerk_3 : decode cL_clerk 3 = .ok (.iload_n 1, 1) := by decide +kernel
theorem dL_clerk_4 : decode cL_clerk 4 = .ok (.iload_n 2, 1) := by decide +kernel
theorem dL_clerk_5 : decode cL_clerk 5 = .ok (.invokevirtual 55, 3) := by decide +kernel
theorem dL_clerk_8 : decode cL_clerk 8 = .ok (.i2l, 1) := by decide +kernel
theorem dL_clerk_9 : decode cL_clerk 9 = .ok (.lastore, 1) := by decide +kernel
theorem dL_clerk_10 : decode cL_clerk 10 = .ok (.goto 11, 3) := by decide +kernel
theorem dL_clerk_13 : decode cL_clerk 13 = .ok (.astore 4, 2) := by decide +kernel
theorem dL_clerk_15 : decode cL_clerk 15 = .ok (.iconst 1, 1) := by decide +kernel
theorem dL_clerk_16 : decode cL_clerk 16 = .ok (.ireturn, 1) := by decide +kernel
theorem dL_clerk_17 : decode cL_clerk 17 = .ok (.astore 4, 2) := by decide +kernel
theorem dL_clerk_19 : decode cL_clerk 19 = .ok (.iconst 2, 1) := by decide +kernel
theorem dL_clerk_20 : decode cL_clerk 20 = .ok (.ireturn, 1) := by decide +kernel
theorem dL_clerk_21 : decode cL_clerk 21 = .ok (.iconst 0, 1) := by decide +kernel
theorem dL_clerk_22 : decode cL_clerk 22 = .ok (.ireturn, 1) := by decide +kernel
set_option maxRecDepth 20000 in
theorem ggL_readerOf_X4_readerOf : GoodIn wsL_readerOf wsX4_readerOf := goodIn_ca (goodIn_ca (goodIn_r _ [7, 8, 9, 10, 11, 12, 13, 14, 15, 16, 17, 18, 19, 20, 21, 22, 23, 24, 25, 26, 6, 27, 28, 29, 30, 31, 32, 33, 34, 35, 36, 37, 38, 39, 40, 41, 42, 43, 44, 45, 46, 47, 48, 49, 50, 51, 52, 53, 54, 55, 56, 57, 58, 59, 60, 61, 62, 63, 64, 65, 66, 67, 68, 69, 70, 71, 72, 73, 74, 75, 76, 77, 78, 79, 80, 81, 82, 83, 84, 85, 86] (by decide +kernel) (by decide +kernel)) (goodIn_sub (fun _ h => List.mem_cons_of_mem _ (List.mem_append_left _ (List.mem_append_right _ h))) (by decide +kernel))) (goodIn_sub (fun _ h => List.mem_cons_of_mem _ (List.mem_append_right _ h)) (by decide +kernel))
set_option maxRecDepth 20000 in
theorem gL_readerOf_X4_readerOf : GoodIn wsL_readerOf (wsV RL 58 RX4 yX4_readerOf wsX4_readerOf) := goodIn_app (goodIn_of _ (by decide +kernel)) ggL_readerOf_X4_readerOf
theorem dL_readerOf_0 : decode cL_readerOf 0 = .ok (.aload_n 3, 1) := by decide +kernel
theorem dL_readerOf_1 : decode cL_readerOf 1 = .ok (.iconst 0, 1) := by decide +kernel
theorem dL_readerOf_2 : decode cL_readerOf 2 = .ok (.aload_n 0, 1) := by decide +kernel
theorem dL_readerOf_3 : decode cL_readerOf 3 = .ok (.iload_n 1, 1) := by decide +kernel
theorem dL_readerOf_4 : decode cL_readerOf 4 = .ok (.iload_n 2, 1) := by decide +kernel
theorem dL_readerOf_5 : decode cL_readerOf 5 = .ok (.invokevirtual 58, 3) := by decide +kernel
theorem dL_readerOf_8 : decode cL_readerOf 8 = .ok (.i2l, 1) := by decide +kernel
theorem dL_readerOf_9 : decode cL_readerOf 9 = .ok (.lastore, 1) := by decide +kernel
theorem dL_readerOf_10 : decode cL_readerOf 10 = .ok (.goto 11, 3) := by decide +kernel
theorem dL_readerOf_13 : decode cL_readerOf 13 = .ok (.astore 4, 2) := by decide +kernel
theorem dL_readerOf_15 : decode cL_readerOf 15 = .ok (.iconst 1, 1) := by decide +kernel
theorem dL_readerOf_16 : decode cL_readerOf 16 = .ok (.ireturn, 1) := by decide +kernel
theorem dL_readerOf_17 : decode cL_readerOf 17 = .ok (.astore 4, 2) := by decide +kernel
theorem dL_readerOf_19 : decode cL_readerOf 19 = .ok (.iconst 2, 1) := by decide +kernel
theorem dL_readerOf_20 : decode cL_readerOf 20 = .ok (.ireturn, 1) := by decide +kernel
theorem dL_readerOf_21 : decode cL_readerOf 21 = .ok (.iconst 0, 1) := by decide +kernel
theorem dL_readerOf_22 : decode cL_readerOf 22 = .ok (.ireturn, 1) := by decide +kernel
set_option maxRecDepth 20000 in
theorem ggL_has_X4_has : GoodIn wsL_has wsX4_has := goodIn_ca (goodIn_r _ [6, 7, 8, 9, 10, 11, 12, 13, 14, 5, 15, 16, 17, 18, 19, 20, 21, 22, 23, 24, 25, 26, 27, 28, 29, 30, 31, 32, 33, 34, 35] (by decide +kernel) (by decide +kernel)) (goodIn_sub (fun _ h => List.mem_cons_of_mem _ (List.mem_append_right _ h)) (by decide +kernel))
set_option maxRecDepth 20000 in
theorem gL_has_X4_has : GoodIn wsL_has (wsV RL 61 RX4 yX4_has wsX4_has) := goodIn_app (goodIn_of _ (by decide +kernel)) ggL_has_X4_has
theorem dL_has_0 : decode cL_has 0 = .ok (.aload_n 3, 1) := by decide +kernel
theorem dL_has_1 : decode cL_has 1 = .ok (.iconst 0, 1) := by decide +kernel
theorem dL_has_2 : decode cL_has 2 = .ok (.aload_n 0, 1) := by decide +kernel
theorem dL_has_3 : decode cL_has 3 = .ok (.iload_n 1, 1) := by decide +kernel
theorem dL_has_4 : decode cL_has 4 = .ok (.iload_n 2, 1) := by decide +kernel
theorem dL_has_5 : decode cL_has 5 = .ok (.invokevirtual 61, 3) := by decide +kernel
theorem dL_has_8 : decode cL_has 8 = .ok (.i2l, 1) := by decide +kernel
theorem dL_has_9 : decode cL_has 9 = .ok (.lastore, 1) := by decide +kernel
theorem dL_has_10 : decode cL_has 10 = .ok (.goto 7, 3) := by decide +kernel
theorem dL_has_13 : decode cL_has 13 = .ok (.astore 4, 2) := by decide +kernel
theorem dL_has_15 : decode cL_has 15 = .ok (.iconst 1, 1) := by decide +kernel
theorem dL_has_16 : decode cL_has 16 = .ok (.ireturn, 1) := by decide +kernel
theorem dL_has_17 : decode cL_has 17 = .ok (.iconst 0, 1) := by decide +kernel
theorem dL_has_18 : decode cL_has 18 = .ok (.ireturn, 1) := by decide +kernel
set_option maxRecDepth 20000 in
theorem ggL_count_X4_count : GoodIn wsL_count wsX4_count := goodIn_ca (goodIn_r _ [6, 7, 8, 9, 10, 11, 12, 13, 14, 15, 16, 17, 18, 19, 20, 21, 22, 23, 24, 25, 26, 27, 28, 29, 30, 31, 32, 33, 34, 35, 36, 37, 38, 39, 40, 41, 42, 43, 44, 45, 46, 47, 48, 49, 50, 51, 52, 53, 54, 55, 56, 57, 58, 59, 60, 61, 62, 63, 64, 65, 66, 67, 68, 69, 70, 71, 72, 73, 74, 75, 76, 77, 78] (by decide +kernel) (by decide +kernel)) (goodIn_sub (fun _ h => List.mem_cons_of_mem _ (List.mem_append_right _ h)) (by decide +kernel))
set_option maxRecDepth 20000 in
theorem gL_count_X4_count : GoodIn wsL_count (wsV RL 64 RX4 yX4_count wsX4_count) := goodIn_app (goodIn_of _ (by decide +kernel)) ggL_count_X4_count
theorem dL_count_0 : decode cL_count 0 = .ok (.aload_n 2, 1) := by decide +kernel
theorem dL_count_1 : decode cL_count 1 = .ok (.iconst 0, 1) := by decide +kernel
theorem dL_count_2 : decode cL_count 2 = .ok (.aload_n 0, 1) := by decide +kernel
theorem dL_count_3 : decode cL_count 3 = .ok (.iload_n 1, 1) := by decide +kernel
theorem dL_count_4 : decode cL_count 4 = .ok (.invokevirtual 64, 3) := by decide +kernel
theorem dL_count_7 : decode cL_count 7 = .ok (.i2l, 1) := by decide +kernel
theorem dL_count_8 : decode cL_count 8 = .ok (.lastore, 1) := by decide +kernel
theorem dL_count_9 : decode cL_count 9 = .ok (.goto 6, 3) := by decide +kernel
theorem dL_count_12 : decode cL_count 12 = .ok (.astore_n 3, 1) := by decide +kernel
theorem dL_count_13 : decode cL_count 13 = .ok (.iconst 1, 1) := by decide +kernel
theorem dL_count_14 : decode cL_count 14 = .ok (.ireturn, 1) := by decide +kernel
theorem dL_count_15 : decode cL_count 15 = .ok (.iconst 0, 1) := by decide +kernel
theorem dL_count_16 : decode cL_count 16 = .ok (.ireturn, 1) := by decide +kernel
set_option maxRecDepth 20000 in
theorem ggL_ifRead_X4_ifRead : GoodIn wsL_ifRead wsX4_ifRead := goodIn_ca (goodIn_r _ [6, 7, 8, 9, 10, 11, 5, 12, 13, 14, 15, 16, 17, 18, 19, 20, 21, 22, 23, 24, 25, 26, 27, 28, 29, 30, 31, 32, 33, 34, 35, 36, 37, 38, 39, 40, 41, 42, 43, 44, 45, 46, 47, 48, 49, 50, 51, 52, 53, 54, 55, 56, 57, 58, 59, 60, 61, 62, 63, 64, 65] (by decide +kernel) (by decide +kernel)) (goodIn_sub (fun _ h => List.mem_cons_of_mem _ (List.mem_append_right _ h)) (by decide +kernel))
set_option maxRecDepth 20000 in
theorem gL_ifRead_X4_ifRead : GoodIn wsL_ifRead (wsV RL 67 RX4 yX4_ifRead wsX4_ifRead) := goodIn_app (goodIn_of _ (by decide +kernel)) ggL_ifRead_X4_ifRead
theorem dL_ifRead_0 : decode cL_ifRead 0 = .ok (.aload_n 2, 1) := by decide +kernel
theorem dL_ifRead_1 : decode cL_ifRead 1 = .ok (.iconst 0, 1) := by decide +kernel
theorem dL_ifRead_2 : decode cL_ifRead 2 = .ok (.aload_n 0, 1) := by decide +kernel
theorem dL_ifRead_3 : decode cL_ifRead 3 = .ok (.iload_n 1, 1) := by decide +kernel
theorem dL_ifRead_4 : decode cL_ifRead 4 = .ok (.invokevirtual 67, 3) := by decide +kernel
theorem dL_ifRead_7 : decode cL_ifRead 7 = .ok (.i2l, 1) := by decide +kernel
theorem dL_ifRead_8 : decode cL_ifRead 8 = .ok (.lastore, 1) := by decide +kernel
theorem dL_ifRead_9 : decode cL_ifRead 9 = .ok (.goto 6, 3) := by decide +kernel
theorem dL_ifRead_12 : decode cL_ifRead 12 = .ok (.astore_n 3, 1) := by decide +kernel
theorem dL_ifRead_13 : decode cL_ifRead 13 = .ok (.iconst 1, 1) := by decide +kernel
theorem dL_ifRead_14 : decode cL_ifRead 14 = .ok (.ireturn, 1) := by decide +kernel
theorem dL_ifRead_15 : decode cL_ifRead 15 = .ok (.iconst 0, 1) := by decide +kernel
theorem dL_ifRead_16 : decode cL_ifRead 16 = .ok (.ireturn, 1) := by decide +kernel
set_option maxRecDepth 20000 in
theorem ggL_wouldBeHalf_X4_wouldBeHalf : GoodIn wsL_wouldBeHalf wsX4_wouldBeHalf := goodIn_ca (goodIn_r _ [6, 7, 8, 9, 10, 11, 12, 13, 14, 5, 15, 16, 17, 18, 19, 20, 21, 22, 23, 24, 25, 26, 27, 28, 29, 30, 31, 32, 33, 34, 35, 36, 37, 38, 39, 40, 41, 42, 43, 44, 45, 46, 47, 48, 49, 50, 51, 52, 53, 54, 55, 56, 57, 58, 59, 60, 61, 62, 63, 64, 65, 66, 67, 68, 69, 70, 71, 72, 73, 74, 75, 76, 77, 78, 79, 80, 81, 82, 83, 84, 85, 86, 87, 88, 89, 90, 91, 92, 93, 94, 95] (by decide +kernel) (by decide +kernel)) (goodIn_sub (fun _ h => List.mem_cons_of_mem _ (List.mem_append_right _ h)) (by decide +kernel))
set_option maxRecDepth 20000 in
theorem gL_wouldBeHalf_X4_wouldBeHalf : GoodIn wsL_wouldBeHalf (wsV RL 70 RX4 yX4_wouldBeHalf wsX4_wouldBeHalf) := goodIn_app (goodIn_of _ (by decide +kernel)) ggL_wouldBeHalf_X4_wouldBeHalf
theorem dL_wouldBeHalf_0 : decode cL_wouldBeHalf 0 = .ok (.aload_n 2, 1) := by decide +kernel
theorem dL_wouldBeHalf_1 : decode cL_wouldBeHalf 1 = .ok (.iconst 0, 1) := by decide +kernel
theorem dL_wouldBeHalf_2 : decode cL_wouldBeHalf 2 = .ok (.aload_n 0, 1) := by decide +kernel
theorem dL_wouldBeHalf_3 : decode cL_wouldBeHalf 3 = .ok (.iload_n 1, 1) := by decide +kernel
theorem dL_wouldBeHalf_4 : decode cL_wouldBeHalf 4 = .ok (.invokevirtual 70, 3) := by decide +kernel
theorem dL_wouldBeHalf_7 : decode cL_wouldBeHalf 7 = .ok (.i2l, 1) := by decide +kernel
theorem dL_wouldBeHalf_8 : decode cL_wouldBeHalf 8 = .ok (.lastore, 1) := by decide +kernel
theorem dL_wouldBeHalf_9 : decode cL_wouldBeHalf 9 = .ok (.goto 6, 3) := by decide +kernel
theorem dL_wouldBeHalf_12 : decode cL_wouldBeHalf 12 = .ok (.astore_n 3, 1) := by decide +kernel
theorem dL_wouldBeHalf_13 : decode cL_wouldBeHalf 13 = .ok (.iconst 1, 1) := by decide +kernel
theorem dL_wouldBeHalf_14 : decode cL_wouldBeHalf 14 = .ok (.ireturn, 1) := by decide +kernel
theorem dL_wouldBeHalf_15 : decode cL_wouldBeHalf 15 = .ok (.iconst 0, 1) := by decide +kernel
theorem dL_wouldBeHalf_16 : decode cL_wouldBeHalf 16 = .ok (.ireturn, 1) := by decide +kernel
set_option maxRecDepth 20000 in
theorem ggL_law_X4_init : GoodIn wsL_law wsX4_init := goodIn_r _ [9, 10, 11, 12, 13, 14, 15, 16, 17, 18, 19, 20, 21, 22, 23, 24, 25, 26, 27, 28, 29, 30, 31, 32, 33, 34, 35, 36, 37, 38, 39, 40, 41, 42, 43, 44, 45, 46, 47, 48, 49, 50, 51, 52, 53, 54, 55, 788, 789, 790, 791, 772, 773, 774, 775, 776, 777, 792, 793, 794, 795, 796, 797, 798, 799, 800, 801, 802, 803, 804, 805, 806, 807, 808, 809, 810] (by decide +kernel) (by decide +kernel)
set_option maxRecDepth 20000 in
theorem gL_law_X4_init : GoodIn wsL_law (wsX4_init) := ggL_law_X4_init
set_option maxRecDepth 20000 in
theorem ggL_law_X5_init : GoodIn wsL_law wsX5_init := goodIn_r _ [58, 59, 11, 12, 22, 60, 61, 62, 63, 778, 779, 780, 781, 782, 783, 784, 785, 786, 787] (by decide +kernel) (by decide +kernel)
set_option maxRecDepth 20000 in
theorem gL_law_X5_init : GoodIn wsL_law (wsX5_init) := ggL_law_X5_init
set_option maxRecDepth 20000 in
theorem ggL_law_L_come : GoodIn wsL_law wsL_come := goodIn_ca (goodIn_ca (goodIn_r _ [67, 68, 69, 70, 71, 72, 2, 73, 74, 75, 76, 77, 16, 78, 79, 80, 81, 82, 83, 84, 30, 85, 43, 86, 87, 88, 89, 17, 90, 91, 92, 93, 94, 95, 96, 97, 98, 15, 99, 31, 33, 100, 34, 101, 102, 103, 104, 105, 41, 106, 107, 108, 109, 42, 44, 110, 111, 112, 36, 113, 48, 114, 115, 116, 117, 118, 119, 120, 49, 121, 50, 122, 123, 124, 125, 126, 127, 128, 129, 130, 772, 773, 774, 775, 776, 777, 788, 789, 790, 791, 796, 797, 798, 799, 800, 801, 802, 803, 804, 805, 806, 807, 808, 809, 810] (by decide +kernel) (by decide +kernel)) (goodIn_sub (fun _ h => List.mem_append_left _ (List.mem_append_left _ (List.mem_append_right _ h))) (by decide +kernel))) (goodIn_sub (fun _ h => List.mem_append_left _ (List.mem_append_right _ h)) (by decide +kernel))
set_option maxRecDepth 20000 in
theorem gL_law_L_come : GoodIn wsL_law (va_wsS RL 77 yL_come wsL_come) := goodIn_app (goodIn_of _ (by decide +kernel)) ggL_law_L_come
set_option maxRecDepth 20000 in
theorem ggL_law_X5_come : GoodIn wsL_law wsX5_come := goodIn_r _ [134, 135, 136, 137, 5, 138, 139, 140, 141, 142, 143, 144, 145, 146, 147, 148, 149, 60, 150, 151, 152, 153, 154, 61, 155, 156, 157, 158, 159, 160, 161, 162, 778, 779, 780, 781, 782, 783, 784, 785, 786, 787] (by decide +kernel) (by decide +kernel)
set_option maxRecDepth 20000 in
theorem gL_law_X5_come : GoodIn wsL_law (wsV RL 82 RX5 yX5_come wsX5_come) := goodIn_app (goodIn_of _ (by decide +kernel)) ggL_law_X5_come
set_option maxRecDepth 20000 in
theorem ggL_law_X5_thrown : GoodIn wsL_law wsX5_thrown := goodIn_r _ [166, 135, 778, 779, 780, 781, 782, 783, 784, 785, 786, 787] (by decide +kernel) (by decide +kernel)
set_option maxRecDepth 20000 in
theorem gL_law_X5_thrown : GoodIn wsL_law (wsV RL 83 RX5 yX5_thrown wsX5_thrown) := goodIn_app (goodIn_of _ (by decide +kernel)) ggL_law_X5_thrown
set_option maxRecDepth 20000 in
theorem ggL_law_L_chalk : GoodIn wsL_law wsL_chalk := goodIn_ca (goodIn_ca (goodIn_ca (goodIn_r _ [169, 68, 170, 69, 171, 172, 173, 2, 174, 74, 75, 175, 176, 76, 77, 16, 78, 79, 80, 81, 177, 178, 179, 30, 180, 105, 86, 87, 88, 89, 17, 90, 91, 92, 93, 94, 95, 96, 97, 98, 15, 99, 31, 33, 100, 34, 101, 102, 103, 104, 41, 106, 107, 108, 109, 42, 43, 44, 110, 111, 112, 36, 113, 48, 114, 115, 116, 117, 118, 119, 120, 49, 121, 50, 181, 182, 183, 184, 772, 773, 774, 775, 776, 777, 788, 789, 790, 791, 796, 797, 798, 799, 800, 801, 802, 803, 804, 805, 806, 807, 808, 809, 810] (by decide +kernel) (by decide +kernel)) (goodIn_sub (fun _ h => List.mem_append_left _ (List.mem_append_left _ (List.mem_append_right _ h))) (by decide +kernel))) (goodIn_sub (fun _ h => List.mem_append_right _ h) (by decide +kernel))) (goodIn_sub (fun _ h => List.mem_append_left _ (List.mem_append_right _ h)) (by decide +kernel))
set_option maxRecDepth 20000 in
theorem gL_law_L_chalk : GoodIn wsL_law (va_wsS RL 86 yL_chalk wsL_chalk) := goodIn_app (goodIn_of _ (by decide +kernel)) ggL_law_L_chalk
set_option maxRecDepth 20000 in
theorem ggL_law_X5_chalk : GoodIn wsL_law wsX5_chalk := goodIn_r _ [188, 135, 60, 189, 190, 5, 191, 139, 140, 141, 142, 143, 144, 145, 150, 151, 152, 153, 154, 61, 778, 779, 780, 781, 782, 783, 784, 785, 786, 787] (by decide +kernel) (by decide +kernel)
set_option maxRecDepth 20000 in
theorem gL_law_X5_chalk : GoodIn wsL_law (wsV RL 89 RX5 yX5_chalk wsX5_chalk) := goodIn_app (goodIn_of _ (by decide +kernel)) ggL_law_X5_chalk
set_option maxRecDepth 20000 in
theorem ggL_law_L_done : GoodIn wsL_law wsL_done := goodIn_ca (goodIn_ca (goodIn_r _ [194, 68, 69, 195, 196, 197, 2, 198, 74, 75, 76, 77, 16, 78, 79, 80, 81, 199, 200, 201, 30, 202, 43, 86, 87, 88, 89, 17, 90, 91, 92, 93, 94, 95, 96, 97, 98, 15, 99, 31, 33, 100, 34, 101, 102, 103, 104, 105, 41, 106, 107, 108, 109, 42, 44, 110, 111, 112, 36, 113, 48, 114, 115, 116, 117, 118, 119, 120, 49, 121, 50, 203, 204, 205, 206, 207, 208, 209, 210, 211, 212, 213, 214, 215, 216, 217, 218, 219, 220, 221, 222, 223, 224, 225, 126, 127, 128, 129, 130, 83, 84, 85, 772, 773, 774, 775, 776, 777, 788, 789, 790, 791, 796, 797, 798, 799, 800, 801, 802, 803, 804, 805, 806, 807, 808, 809, 810] (by decide +kernel) (by decide +kernel)) (goodIn_sub (fun _ h => List.mem_append_left _ (List.mem_append_left _ (List.mem_append_right _ h))) (by decide +kernel))) (goodIn_sub (fun _ h => List.mem_append_left _ (List.mem_append_right _ h)) (by decide +kernel))
set_option maxRecDepth 20000 in
theorem gL_law_L_done : GoodIn wsL_law (va_wsS RL 90 yL_done wsL_done) := goodIn_app (goodIn_of _ (by decide +kernel)) ggL_law_L_done
set_option maxRecDepth 20000 in
theorem ggL_law_X5_done : GoodIn wsL_law wsX5_done := goodIn_r _ [229, 135, 136, 137, 5, 138, 139, 140, 141, 142, 143, 144, 145, 146, 147, 148, 149, 60, 150, 151, 152, 153, 154, 61, 230, 231, 232, 233, 778, 779, 780, 781, 782, 783, 784, 785, 786, 787] (by decide +kernel) (by decide +kernel)
set_option maxRecDepth 20000 in
theorem gL_law_X5_done : GoodIn wsL_law (wsV RL 92 RX5 yX5_done wsX5_done) := goodIn_app (goodIn_of _ (by decide +kernel)) ggL_law_X5_done
set_option maxRecDepth 20000 in
theorem ggL_law_L_reader : GoodIn wsL_law wsL_reader := goodIn_ca (goodIn_r _ [236, 68, 237, 238, 239, 2, 240, 74, 75, 16, 241, 242, 79, 80, 81, 86, 87, 88, 89, 17, 90, 91, 92, 93, 94, 95, 96, 97, 98, 15, 99, 31, 33, 100, 34, 101, 102, 103, 30, 104, 105, 41, 106, 107, 108, 109, 42, 43, 44, 110, 111, 112, 36, 113, 48, 114, 115, 116, 117, 118, 119, 120, 49, 121, 50, 243, 244, 245, 246, 772, 773, 774, 775, 776, 777, 788, 789, 790, 791, 801, 802, 803, 804, 805, 806, 807, 808, 809, 810, 796, 797, 798, 799, 800] (by decide +kernel) (by decide +kernel)) (goodIn_sub (fun _ h => List.mem_append_left _ (List.mem_append_left _ (List.mem_append_right _ h))) (by decide +kernel))
set_option maxRecDepth 20000 in
theorem gL_law_L_reader : GoodIn wsL_law (va_wsS RL 93 yL_reader wsL_reader) := goodIn_app (goodIn_of _ (by decide +kernel)) ggL_law_L_reader
set_option maxRecDepth 20000 in
theorem ggL_law_X5_reader : GoodIn wsL_law wsX5_reader := goodIn_r _ [250, 135, 60, 251, 252, 5, 253, 139, 140, 141, 142, 143, 144, 145, 150, 151, 152, 153, 154, 61, 778, 779, 780, 781, 782, 783, 784, 785, 786, 787] (by decide +kernel) (by decide +kernel)
set_option maxRecDepth 20000 in
theorem gL_law_X5_reader : GoodIn wsL_law (wsV RL 96 RX5 yX5_reader wsX5_reader) := goodIn_app (goodIn_of _ (by decide +kernel)) ggL_law_X5_reader
set_option maxRecDepth 20000 in
theorem ggL_law_L_begin : GoodIn wsL_law wsL_begin := goodIn_ca (goodIn_ca (goodIn_r _ [256, 68, 69, 257, 258, 259, 2, 260, 74, 75, 76, 77, 16, 241, 78, 79, 80, 81, 261, 262, 263, 15, 264, 33, 265, 34, 266, 267, 268, 36, 269, 48, 114, 118, 86, 87, 88, 89, 17, 90, 91, 92, 93, 94, 95, 96, 97, 98, 99, 31, 100, 101, 102, 103, 30, 104, 105, 41, 106, 107, 108, 109, 42, 43, 44, 110, 111, 112, 113, 115, 116, 117, 119, 120, 49, 121, 50, 270, 271, 272, 273, 274, 275, 276, 277, 278, 279, 178, 179, 180, 280, 281, 282, 283, 772, 773, 774, 775, 776, 777, 788, 789, 790, 791, 801, 802, 803, 804, 805, 806, 807, 808, 809, 810, 796, 797, 798, 799, 800] (by decide +kernel) (by decide +kernel)) (goodIn_sub (fun _ h => List.mem_append_left _ (List.mem_append_left _ (List.mem_append_right _ h))) (by decide +kernel))) (goodIn_sub (fun _ h => List.mem_append_left _ (List.mem_append_right _ h)) (by decide +kernel))
set_option maxRecDepth 20000 in
theorem gL_law_L_begin : GoodIn wsL_law (va_wsS RL 97 yL_begin wsL_begin) := goodIn_app (goodIn_of _ (by decide +kernel)) ggL_law_L_begin
set_option maxRecDepth 20000 in
theorem ggL_law_X5_begin : GoodIn wsL_law wsX5_begin := goodIn_r _ [287, 135, 251, 252, 5, 253, 139, 140, 141, 142, 143, 144, 145, 288, 289, 290, 291, 60, 292, 293, 294, 295, 150, 151, 152, 153, 154, 61, 296, 297, 298, 299, 159, 160, 161, 162, 300, 301, 302, 303, 778, 779, 780, 781, 782, 783, 784, 785, 786, 787] (by decide +kernel) (by decide +kernel)
set_option maxRecDepth 20000 in
theorem gL_law_X5_begin : GoodIn wsL_law (wsV RL 99 RX5 yX5_begin wsX5_begin) := goodIn_app (goodIn_of _ (by decide +kernel)) ggL_law_X5_begin
set_option maxRecDepth 20000 in
theorem ggL_law_L_look : GoodIn wsL_law wsL_look := goodIn_ca (goodIn_ca (goodIn_r _ [306, 68, 69, 307, 308, 309, 2, 310, 74, 75, 76, 77, 16, 241, 311, 79, 80, 81, 86, 87, 88, 89, 17, 90, 91, 92, 93, 94, 95, 96, 97, 98, 15, 99, 31, 33, 100, 34, 101, 102, 103, 30, 104, 105, 41, 106, 107, 108, 109, 42, 43, 44, 110, 111, 112, 36, 113, 48, 114, 115, 116, 117, 118, 119, 120, 49, 121, 50, 312, 313, 314, 315, 316, 317, 318, 319, 320, 321, 322, 323, 276, 277, 278, 274, 279, 178, 179, 180, 324, 281, 282, 283, 325, 326, 327, 328, 329, 330, 331, 332, 215, 216, 217, 218, 219, 220, 221, 222, 223, 224, 225, 333, 334, 335, 336, 772, 773, 774, 775, 776, 777, 788, 789, 790, 791, 801, 802, 803, 804, 805, 806, 807, 808, 809, 810, 796, 797, 798, 799, 800] (by decide +kernel) (by decide +kernel)) (goodIn_sub (fun _ h => List.mem_append_left _ (List.mem_append_left _ (List.mem_append_right _ h))) (by decide +kernel))) (goodIn_sub (fun _ h => List.mem_append_left _ (List.mem_append_right _ h)) (by decide +kernel))
set_option maxRecDepth 20000 in
theorem gL_law_L_look : GoodIn wsL_law (va_wsS RL 100 yL_look wsL_look) := goodIn_app (goodIn_of _ (by decide +kernel)) ggL_law_L_look
set_option maxRecDepth 20000 in
theorem ggL_law_X5_look : GoodIn wsL_law wsX5_look := goodIn_r _ [340, 135, 251, 252, 5, 253, 139, 140, 141, 142, 143, 144, 145, 288, 289, 290, 291, 60, 292, 293, 294, 295, 150, 151, 152, 153, 154, 61, 341, 342, 343, 344, 300, 301, 302, 303, 345, 346, 347, 348, 349, 350, 351, 352, 778, 779, 780, 781, 782, 783, 784, 785, 786, 787] (by decide +kernel) (by decide +kernel)
set_option maxRecDepth 20000 in
theorem gL_law_X5_look : GoodIn wsL_law (wsV RL 102 RX5 yX5_look wsX5_look) := goodIn_app (goodIn_of _ (by decide +kernel)) ggL_law_X5_look
set_option maxRecDepth 20000 in
theorem ggL_law_L_set : GoodIn wsL_law wsL_set := goodIn_ca (goodIn_r _ [355, 170, 356, 357, 358, 2, 359, 175, 176, 16, 360, 86, 87, 88, 89, 17, 90, 91, 92, 93, 94, 95, 96, 97, 98, 15, 99, 31, 33, 100, 34, 101, 102, 103, 30, 104, 105, 41, 106, 107, 108, 109, 42, 43, 44, 110, 111, 112, 36, 113, 48, 114, 115, 116, 117, 118, 119, 120, 49, 121, 50, 772, 773, 774, 775, 776, 777, 788, 789, 790, 791, 796, 797, 798, 799, 800, 801, 802, 803, 804, 805, 806, 807, 808, 809, 810] (by decide +kernel) (by decide +kernel)) (goodIn_sub (fun _ h => List.mem_append_right _ h) (by decide +kernel))
set_option maxRecDepth 20000 in
theorem gL_law_L_set : GoodIn wsL_law (va_wsS RL 103 yL_set wsL_set) := goodIn_app (goodIn_of _ (by decide +kernel)) ggL_law_L_set
set_option maxRecDepth 20000 in
theorem ggL_law_X5_set : GoodIn wsL_law wsX5_set := goodIn_r _ [364, 135, 60, 139, 140, 5, 141, 142, 143, 144, 145, 150, 151, 152, 153, 154, 61, 778, 779, 780, 781, 782, 783, 784, 785, 786, 787] (by decide +kernel) (by decide +kernel)
set_option maxRecDepth 20000 in
theorem gL_law_X5_set : GoodIn wsL_law (wsV RL 105 RX5 yX5_set wsX5_set) := goodIn_app (goodIn_of _ (by decide +kernel)) ggL_law_X5_set
set_option maxRecDepth 20000 in
theorem ggL_law_L_append : GoodIn wsL_law wsL_append := goodIn_ca (goodIn_ca (goodIn_r _ [367, 170, 69, 368, 369, 370, 2, 371, 175, 176, 76, 77, 21, 372, 373, 374, 375, 20, 376, 377, 55, 54, 378, 379, 380, 381, 382, 383, 384, 385, 80, 81, 772, 773, 774, 775, 776, 777, 792, 793, 794, 795] (by decide +kernel) (by decide +kernel)) (goodIn_sub (fun _ h => List.mem_append_right _ h) (by decide +kernel))) (goodIn_sub (fun _ h => List.mem_append_left _ (List.mem_append_right _ h)) (by decide +kernel))
set_option maxRecDepth 20000 in
theorem gL_law_L_append : GoodIn wsL_law (va_wsS RL 106 yL_append wsL_append) := goodIn_app (goodIn_of _ (by decide +kernel)) ggL_law_L_append
set_option maxRecDepth 20000 in
theorem ggL_law_X5_append : GoodIn wsL_law wsX5_append := goodIn_r _ [389, 135, 390, 62, 139, 140, 5, 141, 142, 143, 144, 145, 778, 779, 780, 781, 782, 783, 784, 785, 786, 787] (by decide +kernel) (by decide +kernel)
set_option maxRecDepth 20000 in
theorem gL_law_X5_append : GoodIn wsL_law (wsV RL 108 RX5 yX5_append wsX5_append) := goodIn_app (goodIn_of _ (by decide +kernel)) ggL_law_X5_append
set_option maxRecDepth 20000 in
theorem ggL_law_X4_clearBuffer : GoodIn wsL_law wsX4_clearBuffer := goodIn_r _ [394, 21, 372, 395, 396, 397, 20, 398, 377, 378, 54, 772, 773, 774, 775, 776, 777, 792, 793, 794, 795] (by decide +kernel) (by decide +kernel)
set_option maxRecDepth 20000 in
theorem gL_law_X4_clearBuffer : GoodIn wsL_law (wsV RL 109 RX4 yX4_clearBuffer wsX4_clearBuffer) := goodIn_app (goodIn_of _ (by decide +kernel)) ggL_law_X4_clearBuffer
set_option maxRecDepth 20000 in
theorem ggL_law_X5_clearBuffer : GoodIn wsL_law wsX5_clearBuffer := goodIn_r _ [402, 135, 390, 778, 779, 780, 781, 782, 783, 784, 785, 786, 787] (by decide +kernel) (by decide +kernel)
set_option maxRecDepth 20000 in
theorem gL_law_X5_clearBuffer : GoodIn wsL_law (wsV RL 112 RX5 yX5_clearBuffer wsX5_clearBuffer) := goodIn_app (goodIn_of _ (by decide +kernel)) ggL_law_X5_clearBuffer
set_option maxRecDepth 20000 in
theorem ggL_law_X4_firstError : GoodIn wsL_law wsX4_firstError := goodIn_r _ [406, 21, 407, 772, 773, 774, 775, 776, 777, 792, 793, 794, 795] (by decide +kernel) (by decide +kernel)
set_option maxRecDepth 20000 in
theorem gL_law_X4_firstError : GoodIn wsL_law (wsV RL 113 RX4 yX4_firstError wsX4_firstError) := goodIn_app (goodIn_of _ (by decide +kernel)) ggL_law_X4_firstError
set_option maxRecDepth 20000 in
theorem ggL_law_X5_firstError : GoodIn wsL_law wsX5_firstError := goodIn_r _ [411, 135, 412, 413, 390, 414, 415, 416, 5, 417, 418, 419, 420, 421, 422, 62, 63, 423, 424, 425, 426, 427, 428, 429, 430, 431, 432, 433, 434, 139, 140, 141, 778, 779, 780, 781, 782, 783, 784, 785, 786, 787] (by decide +kernel) (by decide +kernel)
set_option maxRecDepth 20000 in
theorem gL_law_X5_firstError : GoodIn wsL_law (wsV RL 116 RX5 yX5_firstError wsX5_firstError) := goodIn_app (goodIn_of _ (by decide +kernel)) ggL_law_X5_firstError
set_option maxRecDepth 20000 in
theorem ggL_law_L_play : GoodIn wsL_law wsL_play := goodIn_ca (goodIn_r _ [437, 170, 438, 439, 440, 2, 441, 175, 176, 21, 442, 443, 444, 20, 445, 377, 54, 86, 87, 88, 89, 17, 90, 16, 91, 92, 93, 94, 95, 96, 97, 98, 15, 99, 31, 33, 100, 34, 101, 102, 103, 30, 104, 105, 41, 106, 107, 108, 109, 42, 43, 44, 110, 111, 112, 36, 113, 48, 114, 115, 116, 117, 118, 119, 120, 49, 121, 50, 446, 447, 448, 449, 372, 450, 451, 452, 453, 454, 455, 456, 457, 55, 80, 81, 458, 459, 460, 461, 462, 463, 464, 465, 466, 265, 467, 83, 84, 85, 468, 200, 201, 202, 469, 178, 179, 180, 470, 262, 263, 264, 266, 267, 268, 269, 471, 472, 473, 474, 78, 241, 122, 123, 124, 125, 126, 127, 128, 129, 130, 203, 204, 205, 206, 207, 208, 209, 210, 211, 212, 213, 214, 215, 216, 217, 218, 219, 220, 221, 222, 223, 224, 225, 475, 476, 477, 478, 479, 181, 182, 183, 184, 270, 271, 272, 273, 274, 275, 276, 277, 278, 279, 280, 281, 282, 283, 312, 313, 314, 315, 316, 317, 318, 319, 320, 321, 322, 323, 324, 325, 326, 327, 328, 329, 330, 331, 332, 333, 334, 335, 336, 395, 396, 397, 398, 378, 772, 773, 774, 775, 776, 777, 792, 793, 794, 795, 788, 789, 790, 791, 796, 797, 798, 799, 800, 801, 802, 803, 804, 805, 806, 807, 808, 809, 810] (by decide +kernel) (by decide +kernel)) (goodIn_sub (fun _ h => List.mem_append_right _ h) (by decide +kernel))
set_option maxRecDepth 20000 in
theorem gL_law_L_play : GoodIn wsL_law (va_wsS RL 117 yL_play wsL_play) := goodIn_app (goodIn_of _ (by decide +kernel)) ggL_law_L_play
set_option maxRecDepth 20000 in
theorem ggL_law_X5_play : GoodIn wsL_law wsX5_play := goodIn_r _ [483, 135, 390, 418, 63, 414, 415, 416, 5, 417, 413, 412, 419, 420, 421, 422, 62, 423, 424, 425, 426, 427, 428, 429, 430, 431, 432, 433, 434, 139, 140, 141, 142, 143, 144, 145, 150, 151, 152, 153, 154, 61, 60, 484, 485, 486, 487, 146, 147, 148, 149, 288, 289, 290, 291, 292, 293, 294, 295, 488, 489, 490, 491, 155, 156, 157, 158, 159, 160, 161, 162, 230, 231, 232, 233, 296, 297, 298, 299, 300, 301, 302, 303, 341, 342, 343, 344, 345, 346, 347, 348, 349, 350, 351, 352, 778, 779, 780, 781, 782, 783, 784, 785, 786, 787] (by decide +kernel) (by decide +kernel)
set_option maxRecDepth 20000 in
theorem gL_law_X5_play : GoodIn wsL_law (wsV RL 120 RX5 yX5_play wsX5_play) := goodIn_app (goodIn_of _ (by decide +kernel)) ggL_law_X5_play
set_option maxRecDepth 20000 in
theorem ggL_law_L_undo : GoodIn wsL_law wsL_undo := goodIn_ca (goodIn_r _ [494, 69, 495, 496, 497, 2, 498, 76, 77, 90, 16, 17, 92, 93, 94, 95, 91, 96, 97, 98, 15, 99, 31, 33, 100, 34, 101, 102, 103, 30, 104, 105, 41, 106, 107, 108, 109, 42, 43, 44, 110, 111, 112, 36, 113, 48, 114, 115, 116, 117, 118, 119, 120, 49, 121, 50, 772, 773, 774, 775, 776, 777, 788, 789, 790, 791, 796, 797, 798, 799, 800, 801, 802, 803, 804, 805, 806, 807, 808, 809, 810] (by decide +kernel) (by decide +kernel)) (goodIn_sub (fun _ h => List.mem_append_left _ (List.mem_append_right _ h)) (by decide +kernel))
set_option maxRecDepth 20000 in
theorem gL_law_L_undo : GoodIn wsL_law (va_wsS RL 121 yL_undo wsL_undo) := goodIn_app (goodIn_of _ (by decide +kernel)) ggL_law_L_undo
set_option maxRecDepth 20000 in
theorem ggL_law_X5_undo : GoodIn wsL_law wsX5_undo := goodIn_r _ [502, 135, 154, 60, 61, 142, 143, 144, 5, 145, 778, 779, 780, 781, 782, 783, 784, 785, 786, 787] (by decide +kernel) (by decide +kernel)
set_option maxRecDepth 20000 in
theorem gL_law_X5_undo : GoodIn wsL_law (wsV RL 123 RX5 yX5_undo wsX5_undo) := goodIn_app (goodIn_of _ (by decide +kernel)) ggL_law_X5_undo
set_option maxRecDepth 20000 in
theorem ggL_law_L_field : GoodIn wsL_law wsL_field := goodIn_ca (goodIn_r _ [505, 68, 506, 507, 508, 2, 509, 74, 75, 16, 78, 510, 79, 80, 81, 772, 773, 774, 775, 776, 777, 788, 789, 790, 791, 796, 797, 798, 799, 800] (by decide +kernel) (by decide +kernel)) (goodIn_sub (fun _ h => List.mem_append_left _ (List.mem_append_left _ (List.mem_append_right _ h))) (by decide +kernel))
set_option maxRecDepth 20000 in
theorem gL_law_L_field : GoodIn wsL_law (va_wsS RL 124 yL_field wsL_field) := goodIn_app (goodIn_of _ (by decide +kernel)) ggL_law_L_field
set_option maxRecDepth 20000 in
theorem ggL_law_X5_field : GoodIn wsL_law wsX5_field := goodIn_r _ [514, 135, 60, 189, 190, 5, 191, 139, 140, 141, 142, 143, 144, 145, 778, 779, 780, 781, 782, 783, 784, 785, 786, 787] (by decide +kernel) (by decide +kernel)
set_option maxRecDepth 20000 in
theorem gL_law_X5_field : GoodIn wsL_law (wsV RL 126 RX5 yX5_field wsX5_field) := goodIn_app (goodIn_of _ (by decide +kernel)) ggL_law_X5_field
set_option maxRecDepth 20000 in
theorem ggL_law_L_notice : GoodIn wsL_law wsL_notice := goodIn_ca (goodIn_ca (goodIn_r _ [517, 68, 170, 518, 519, 520, 2, 521, 74, 75, 175, 176, 16, 78, 79, 80, 81, 522, 523, 524, 30, 525, 44, 526, 527, 528, 529, 530, 531, 532, 533, 215, 216, 217, 218, 105, 219, 220, 221, 222, 223, 224, 225, 772, 773, 774, 775, 776, 777, 788, 789, 790, 791, 796, 797, 798, 799, 800] (by decide +kernel) (by decide +kernel)) (goodIn_sub (fun _ h => List.mem_append_left _ (List.mem_append_left _ (List.mem_append_right _ h))) (by decide +kernel))) (goodIn_sub (fun _ h => List.mem_append_right _ h) (by decide +kernel))
set_option maxRecDepth 20000 in
theorem gL_law_L_notice : GoodIn wsL_law (va_wsS RL 127 yL_notice wsL_notice) := goodIn_app (goodIn_of _ (by decide +kernel)) ggL_law_L_notice
set_option maxRecDepth 20000 in
theorem ggL_law_X5_notice : GoodIn wsL_law wsX5_notice := goodIn_r _ [537, 135, 60, 189, 190, 5, 191, 139, 140, 141, 142, 143, 144, 145, 349, 350, 351, 352, 778, 779, 780, 781, 782, 783, 784, 785, 786, 787] (by decide +kernel) (by decide +kernel)
set_option maxRecDepth 20000 in
theorem gL_law_X5_notice : GoodIn wsL_law (wsV RL 129 RX5 yX5_notice wsX5_notice) := goodIn_app (goodIn_of _ (by decide +kernel)) ggL_law_X5_notice
set_option maxRecDepth 20000 in
theorem ggL_law_L_clerk : GoodIn wsL_law wsL_clerk := goodIn_ca (goodIn_ca (goodIn_r _ [540, 68, 170, 541, 542, 543, 2, 544, 74, 75, 175, 176, 16, 78, 545, 79, 80, 81, 546, 547, 548, 30, 549, 130, 83, 84, 85, 43, 550, 200, 201, 202, 551, 552, 553, 554, 772, 773, 774, 775, 776, 777, 788, 789, 790, 791, 796, 797, 798, 799, 800] (by decide +kernel) (by decide +kernel)) (goodIn_sub (fun _ h => List.mem_append_left _ (List.mem_append_left _ (List.mem_append_right _ h))) (by decide +kernel))) (goodIn_sub (fun _ h => List.mem_append_right _ h) (by decide +kernel))
set_option maxRecDepth 20000 in
theorem gL_law_L_clerk : GoodIn wsL_law (va_wsS RL 130 yL_clerk wsL_clerk) := goodIn_app (goodIn_of _ (by decide +kernel)) ggL_law_L_clerk
set_option maxRecDepth 20000 in
theorem ggL_law_X5_clerk : GoodIn wsL_law wsX5_clerk := goodIn_r _ [558, 135, 136, 137, 5, 138, 139, 140, 141, 142, 143, 144, 145, 559, 560, 561, 562, 60, 146, 147, 148, 149, 778, 779, 780, 781, 782, 783, 784, 785, 786, 787] (by decide +kernel) (by decide +kernel)
set_option maxRecDepth 20000 in
theorem gL_law_X5_clerk : GoodIn wsL_law (wsV RL 132 RX5 yX5_clerk wsX5_clerk) := goodIn_app (goodIn_of _ (by decide +kernel)) ggL_law_X5_clerk
set_option maxRecDepth 20000 in
theorem ggL_law_L_readerOf : GoodIn wsL_law wsL_readerOf := goodIn_ca (goodIn_ca (goodIn_r _ [565, 68, 170, 566, 567, 568, 2, 569, 74, 75, 175, 176, 16, 241, 360, 311, 570, 571, 572, 573, 574, 575, 78, 576, 242, 79, 80, 81, 577, 578, 579, 36, 580, 114, 581, 267, 268, 269, 48, 118, 582, 330, 331, 30, 332, 215, 216, 217, 218, 105, 219, 220, 221, 222, 223, 224, 225, 333, 334, 335, 336, 44, 772, 773, 774, 775, 776, 777, 788, 789, 790, 791, 801, 802, 803, 804, 805, 806, 807, 808, 809, 810, 796, 797, 798, 799, 800] (by decide +kernel) (by decide +kernel)) (goodIn_sub (fun _ h => List.mem_append_left _ (List.mem_append_left _ (List.mem_append_right _ h))) (by decide +kernel))) (goodIn_sub (fun _ h => List.mem_append_right _ h) (by decide +kernel))
set_option maxRecDepth 20000 in
theorem gL_law_L_readerOf : GoodIn wsL_law (va_wsS RL 133 yL_readerOf wsL_readerOf) := goodIn_app (goodIn_of _ (by decide +kernel)) ggL_law_L_readerOf
set_option maxRecDepth 20000 in
theorem ggL_law_X5_readerOf : GoodIn wsL_law wsX5_readerOf := goodIn_r _ [586, 135, 251, 252, 5, 253, 139, 140, 141, 142, 143, 144, 145, 587, 588, 589, 590, 288, 289, 290, 291, 60, 292, 293, 294, 295, 345, 346, 347, 348, 349, 350, 351, 352, 778, 779, 780, 781, 782, 783, 784, 785, 786, 787] (by decide +kernel) (by decide +kernel)
set_option maxRecDepth 20000 in
theorem gL_law_X5_readerOf : GoodIn wsL_law (wsV RL 135 RX5 yX5_readerOf wsX5_readerOf) := goodIn_app (goodIn_of _ (by decide +kernel)) ggL_law_X5_readerOf
set_option maxRecDepth 20000 in
theorem ggL_law_L_has : GoodIn wsL_law wsL_has := goodIn_ca (goodIn_r _ [593, 68, 594, 595, 596, 2, 597, 74, 75, 16, 241, 575, 576, 79, 80, 81, 772, 773, 774, 775, 776, 777, 788, 789, 790, 791, 801, 802, 803, 804, 805, 806, 807, 808, 809, 810] (by decide +kernel) (by decide +kernel)) (goodIn_sub (fun _ h => List.mem_append_left _ (List.mem_append_left _ (List.mem_append_right _ h))) (by decide +kernel))
set_option maxRecDepth 20000 in
theorem gL_law_L_has : GoodIn wsL_law (va_wsS RL 136 yL_has wsL_has) := goodIn_app (goodIn_of _ (by decide +kernel)) ggL_law_L_has
set_option maxRecDepth 20000 in
theorem ggL_law_X5_has : GoodIn wsL_law wsX5_has := goodIn_r _ [601, 135, 251, 252, 5, 253, 139, 140, 141, 189, 190, 191, 602, 603, 604, 605, 292, 293, 294, 295, 60, 142, 143, 144, 145, 778, 779, 780, 781, 782, 783, 784, 785, 786, 787] (by decide +kernel) (by decide +kernel)
set_option maxRecDepth 20000 in
theorem gL_law_X5_has : GoodIn wsL_law (wsV RL 138 RX5 yX5_has wsX5_has) := goodIn_app (goodIn_of _ (by decide +kernel)) ggL_law_X5_has
set_option maxRecDepth 20000 in
theorem ggL_law_L_count : GoodIn wsL_law wsL_count := goodIn_ca (goodIn_r _ [608, 170, 609, 610, 611, 2, 612, 175, 176, 16, 78, 613, 614, 531, 532, 533, 615, 360, 90, 616, 617, 618, 30, 619, 550, 200, 201, 202, 43, 620, 127, 128, 129, 130, 83, 84, 85, 621, 622, 623, 15, 624, 33, 265, 625, 626, 627, 628, 629, 630, 631, 632, 633, 634, 772, 773, 774, 775, 776, 777, 788, 789, 790, 791, 796, 797, 798, 799, 800, 801, 802, 803, 804, 805, 806, 807, 808, 809, 810] (by decide +kernel) (by decide +kernel)) (goodIn_sub (fun _ h => List.mem_append_right _ h) (by decide +kernel))
set_option maxRecDepth 20000 in
theorem gL_law_L_count : GoodIn wsL_law (va_wsS RL 139 yL_count wsL_count) := goodIn_app (goodIn_of _ (by decide +kernel)) ggL_law_L_count
set_option maxRecDepth 20000 in
theorem ggL_law_X5_count : GoodIn wsL_law wsX5_count := goodIn_r _ [638, 135, 139, 140, 5, 141, 639, 640, 641, 642, 60, 154, 643, 644, 645, 646, 288, 289, 290, 291, 292, 293, 294, 295, 142, 143, 144, 145, 778, 779, 780, 781, 782, 783, 784, 785, 786, 787] (by decide +kernel) (by decide +kernel)
set_option maxRecDepth 20000 in
theorem gL_law_X5_count : GoodIn wsL_law (wsV RL 141 RX5 yX5_count wsX5_count) := goodIn_app (goodIn_of _ (by decide +kernel)) ggL_law_X5_count
set_option maxRecDepth 20000 in
theorem ggL_law_L_ifRead : GoodIn wsL_law wsL_ifRead := goodIn_ca (goodIn_r _ [649, 68, 650, 651, 652, 2, 653, 74, 75, 16, 79, 80, 81, 654, 655, 656, 15, 657, 33, 34, 31, 266, 267, 268, 36, 269, 48, 114, 118, 323, 276, 277, 278, 116, 274, 279, 178, 179, 30, 180, 105, 772, 773, 774, 775, 776, 777, 788, 789, 790, 791, 801, 802, 803, 804, 805, 806, 807, 808, 809, 810, 796, 797, 798, 799, 800] (by decide +kernel) (by decide +kernel)) (goodIn_sub (fun _ h => List.mem_append_left _ (List.mem_append_left _ (List.mem_append_right _ h))) (by decide +kernel))
set_option maxRecDepth 20000 in
theorem gL_law_L_ifRead : GoodIn wsL_law (va_wsS RL 142 yL_ifRead wsL_ifRead) := goodIn_app (goodIn_of _ (by decide +kernel)) ggL_law_L_ifRead
set_option maxRecDepth 20000 in
theorem ggL_law_X5_ifRead : GoodIn wsL_law wsX5_ifRead := goodIn_r _ [661, 135, 251, 252, 5, 253, 139, 140, 141, 662, 663, 664, 665, 60, 288, 289, 290, 291, 292, 293, 294, 295, 159, 160, 161, 162, 142, 143, 144, 145, 778, 779, 780, 781, 782, 783, 784, 785, 786, 787] (by decide +kernel) (by decide +kernel)
set_option maxRecDepth 20000 in
theorem gL_law_X5_ifRead : GoodIn wsL_law (wsV RL 144 RX5 yX5_ifRead wsX5_ifRead) := goodIn_app (goodIn_of _ (by decide +kernel)) ggL_law_X5_ifRead
set_option maxRecDepth 20000 in
theorem ggL_law_L_wouldBeHalf : GoodIn wsL_law wsL_wouldBeHalf := goodIn_ca (goodIn_r _ [668, 68, 669, 670, 671, 2, 672, 74, 75, 16, 241, 23, 78, 79, 80, 81, 654, 655, 656, 15, 657, 33, 34, 31, 266, 267, 268, 36, 269, 48, 114, 118, 323, 276, 277, 278, 116, 274, 279, 178, 179, 30, 180, 105, 673, 674, 675, 676, 117, 50, 322, 582, 330, 331, 332, 215, 216, 217, 218, 219, 220, 221, 222, 223, 224, 225, 333, 334, 335, 336, 44, 772, 773, 774, 775, 776, 777, 788, 789, 790, 791, 801, 802, 803, 804, 805, 806, 807, 808, 809, 810, 796, 797, 798, 799, 800] (by decide +kernel) (by decide +kernel)) (goodIn_sub (fun _ h => List.mem_append_left _ (List.mem_append_left _ (List.mem_append_right _ h))) (by decide +kernel))
set_option maxRecDepth 20000 in
theorem gL_law_L_wouldBeHalf : GoodIn wsL_law (va_wsS RL 145 yL_wouldBeHalf wsL_wouldBeHalf) := goodIn_app (goodIn_of _ (by decide +kernel)) ggL_law_L_wouldBeHalf
set_option maxRecDepth 20000 in
theorem ggL_law_X5_wouldBeHalf : GoodIn wsL_law wsX5_wouldBeHalf := goodIn_r _ [680, 135, 251, 252, 5, 253, 139, 140, 141, 681, 682, 683, 684, 60, 662, 663, 664, 665, 288, 289, 290, 291, 292, 293, 294, 295, 159, 160, 161, 162, 349, 350, 351, 352, 142, 143, 144, 145, 778, 779, 780, 781, 782, 783, 784, 785, 786, 787] (by decide +kernel) (by decide +kernel)
set_option maxRecDepth 20000 in
theorem gL_law_X5_wouldBeHalf : GoodIn wsL_law (wsV RL 147 RX5 yX5_wouldBeHalf wsX5_wouldBeHalf) := goodIn_app (goodIn_of _ (by decide +kernel)) ggL_law_X5_wouldBeHalf
set_option maxRecDepth 20000 in
theorem ggL_law_X4_busy : GoodIn wsL_law wsX4_busy := goodIn_r _ [688, 16, 78, 620, 127, 128, 30, 129, 130, 83, 84, 85, 43, 772, 773, 774, 775, 776, 777, 788, 789, 790, 791, 796, 797, 798, 799, 800] (by decide +kernel) (by decide +kernel)
set_option maxRecDepth 20000 in
theorem gL_law_X4_busy : GoodIn wsL_law (wsV RL 148 RX4 yX4_busy wsX4_busy) := goodIn_app (goodIn_of _ (by decide +kernel)) ggL_law_X4_busy
set_option maxRecDepth 20000 in
theorem ggL_law_X5_busy : GoodIn wsL_law wsX5_busy := goodIn_r _ [692, 135, 693, 694, 695, 5, 696, 60, 159, 160, 161, 162, 778, 779, 780, 781, 782, 783, 784, 785, 786, 787] (by decide +kernel) (by decide +kernel)
set_option maxRecDepth 20000 in
theorem gL_law_X5_busy : GoodIn wsL_law (wsV RL 151 RX5 yX5_busy wsX5_busy) := goodIn_app (goodIn_of _ (by decide +kernel)) ggL_law_X5_busy
set_option maxRecDepth 20000 in
theorem ggL_law_X4_wellShare : GoodIn wsL_law wsX4_wellShare := goodIn_r _ [700, 16, 630, 631, 632, 15, 633, 33, 634, 625, 626, 627, 628, 629, 772, 773, 774, 775, 776, 777, 788, 789, 790, 791, 801, 802, 803, 804, 805, 806, 807, 808, 809, 810] (by decide +kernel) (by decide +kernel)
set_option maxRecDepth 20000 in
theorem gL_law_X4_wellShare : GoodIn wsL_law (wsV RL 152 RX4 yX4_wellShare wsX4_wellShare) := goodIn_app (goodIn_of _ (by decide +kernel)) ggL_law_X4_wellShare
set_option maxRecDepth 20000 in
theorem ggL_law_X5_wellShare : GoodIn wsL_law wsX5_wellShare := goodIn_r _ [704, 135, 705, 706, 707, 5, 708, 643, 644, 645, 646, 288, 289, 290, 291, 60, 292, 293, 294, 295, 778, 779, 780, 781, 782, 783, 784, 785, 786, 787] (by decide +kernel) (by decide +kernel)
set_option maxRecDepth 20000 in
theorem gL_law_X5_wellShare : GoodIn wsL_law (wsV RL 156 RX5 yX5_wellShare wsX5_wellShare) := goodIn_app (goodIn_of _ (by decide +kernel)) ggL_law_X5_wellShare
set_option maxRecDepth 20000 in
theorem ggL_law_X4_digest : GoodIn wsL_law wsX4_digest := goodIn_ca (goodIn_ca (goodIn_r _ [712, 713, 714, 715, 716, 2, 717, 16, 78, 510, 718, 610, 611, 612, 175, 176, 613, 614, 531, 532, 533, 615, 360, 90, 616, 617, 618, 30, 619, 550, 200, 201, 202, 43, 620, 127, 128, 129, 130, 83, 84, 85, 621, 622, 623, 15, 624, 33, 265, 625, 626, 627, 628, 629, 630, 631, 632, 633, 634, 719, 720, 721, 722, 723, 724, 725, 726, 727, 542, 543, 544, 74, 75, 545, 79, 80, 81, 546, 547, 548, 549, 551, 552, 553, 554, 728, 729, 730, 731, 732, 567, 568, 569, 241, 311, 570, 571, 572, 573, 574, 575, 576, 242, 577, 578, 579, 36, 580, 114, 581, 267, 268, 269, 48, 118, 582, 330, 331, 332, 215, 216, 217, 218, 105, 219, 220, 221, 222, 223, 224, 225, 333, 334, 335, 336, 44, 733, 595, 596, 597, 734, 651, 652, 653, 654, 655, 656, 657, 34, 31, 266, 323, 276, 277, 278, 116, 274, 279, 178, 179, 180, 735, 670, 671, 672, 23, 673, 674, 675, 676, 117, 50, 322, 736, 737, 738, 739, 740, 527, 528, 529, 530, 741, 522, 523, 524, 525, 526, 742, 686, 687, 688, 743, 698, 699, 700, 744, 745, 746, 747, 748, 749, 750, 751, 752, 753, 21, 372, 458, 455, 456, 20, 457, 377, 55, 772, 773, 774, 775, 776, 777, 788, 789, 790, 791, 796, 797, 798, 799, 800, 801, 802, 803, 804, 805, 806, 807, 808, 809, 810, 792, 793, 794, 795] (by decide +kernel) (by decide +kernel)) (goodIn_sub (fun _ h => List.mem_append_right _ h) (by decide +kernel))) (goodIn_sub (fun _ h => List.mem_append_left _ (List.mem_append_left _ (List.mem_append_right _ h))) (by decide +kernel))
set_option maxRecDepth 20000 in
theorem gL_law_X4_digest : GoodIn wsL_law (wsV RL 157 RX4 yX4_digest wsX4_digest) := goodIn_app (goodIn_of _ (by decide +kernel)) ggL_law_X4_digest
set_option maxRecDepth 20000 in
theorem ggL_law_X5_digest : GoodIn wsL_law wsX5_digest := goodIn_r _ [757, 135, 758, 759, 60, 390, 62, 639, 640, 641, 5, 642, 154, 643, 644, 645, 646, 288, 289, 290, 291, 292, 293, 294, 295, 559, 560, 561, 562, 146, 147, 148, 149, 587, 588, 589, 590, 345, 346, 347, 348, 349, 350, 351, 352, 139, 140, 141, 602, 603, 604, 605, 662, 663, 664, 665, 159, 160, 161, 162, 681, 682, 683, 684, 693, 694, 695, 696, 705, 706, 707, 708, 760, 761, 762, 763, 764, 765, 766, 767, 768, 769, 770, 771, 778, 779, 780, 781, 782, 783, 784, 785, 786, 787] (by decide +kernel) (by decide +kernel)
set_option maxRecDepth 20000 in
theorem gL_law_X5_digest : GoodIn wsL_law (wsV RL 161 RX5 yX5_digest wsX5_digest) := goodIn_app (goodIn_of _ (by decide +kernel)) ggL_law_X5_digest
