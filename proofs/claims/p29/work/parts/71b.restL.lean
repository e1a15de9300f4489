theorem dL_cell_0 : decode cL_cell 0 = .ok (.iload_n 1, 1) := by decide +kernel
theorem dL_cell_1 : decode cL_cell 1 = .ok (.aload_n 0, 1) := by decide +kernel
theorem dL_cell_2 : decode cL_cell 2 = .ok (.arraylength, 1) := by decide +kernel
theorem dL_cell_3 : decode cL_cell 3 = .ok (.if_icmp .ge 9, 3) := by decide +kernel
theorem dL_cell_6 : decode cL_cell 6 = .ok (.aload_n 0, 1) := by decide +kernel
theorem dL_cell_7 : decode cL_cell 7 = .ok (.iload_n 1, 1) := by decide +kernel
theorem dL_cell_8 : decode cL_cell 8 = .ok (.iaload, 1) := by decide +kernel
theorem dL_cell_9 : decode cL_cell 9 = .ok (.goto 9, 3) := by decide +kernel
theorem dL_cell_12 : decode cL_cell 12 = .ok (.ldc 7, 2) := by decide +kernel
theorem dL_cell_14 : decode cL_cell 14 = .ok (.iload_n 1, 1) := by decide +kernel
theorem dL_cell_15 : decode cL_cell 15 = .ok (.iconst 1, 1) := by decide +kernel
theorem dL_cell_16 : decode cL_cell 16 = .ok (.iadd, 1) := by decide +kernel
theorem dL_cell_17 : decode cL_cell 17 = .ok (.imul, 1) := by decide +kernel
theorem dL_cell_18 : decode cL_cell 18 = .ok (.ireturn, 1) := by decide +kernel
theorem dL_low_0 : decode cL_low 0 = .ok (.iload_n 0, 1) := by decide +kernel
theorem dL_low_1 : decode cL_low 1 = .ok (.ldc 8, 2) := by decide +kernel
theorem dL_low_3 : decode cL_low 3 = .ok (.iand, 1) := by decide +kernel
theorem dL_low_4 : decode cL_low 4 = .ok (.iload_n 1, 1) := by decide +kernel
theorem dL_low_5 : decode cL_low 5 = .ok (.irem, 1) := by decide +kernel
theorem dL_low_6 : decode cL_low 6 = .ok (.ireturn, 1) := by decide +kernel
set_option maxRecDepth 20000 in
theorem ggL_near_L_low : GoodIn wsL_near wsL_low := goodIn_r _ [4, 5] (by decide +kernel) (by decide +kernel)
set_option maxRecDepth 20000 in
theorem gL_near_L_low : GoodIn wsL_near (va_wsS RL 9 yL_low wsL_low) := goodIn_app (goodIn_of _ (by decide +kernel)) ggL_near_L_low
theorem dL_near_0 : decode cL_near 0 = .ok (.iload_n 0, 1) := by decide +kernel
theorem dL_near_1 : decode cL_near 1 = .ok (.bipush 40, 2) := by decide +kernel
theorem dL_near_3 : decode cL_near 3 = .ok (.invokestatic 9, 3) := by decide +kernel
theorem dL_near_6 : decode cL_near 6 = .ok (.istore_n 2, 1) := by decide +kernel
theorem dL_near_7 : decode cL_near 7 = .ok (.iload_n 2, 1) := by decide +kernel
theorem dL_near_8 : decode cL_near 8 = .ok (.ifCond .ne 7, 3) := by decide +kernel
theorem dL_near_11 : decode cL_near 11 = .ok (.iconst (-1), 1) := by decide +kernel
theorem dL_near_12 : decode cL_near 12 = .ok (.goto 29, 3) := by decide +kernel
theorem dL_near_15 : decode cL_near 15 = .ok (.iload_n 2, 1) := by decide +kernel
theorem dL_near_16 : decode cL_near 16 = .ok (.iconst 1, 1) := by decide +kernel
theorem dL_near_17 : decode cL_near 17 = .ok (.if_icmp .ne 7, 3) := by decide +kernel
theorem dL_near_20 : decode cL_near 20 = .ok (.iload_n 1, 1) := by decide +kernel
theorem dL_near_21 : decode cL_near 21 = .ok (.goto 20, 3) := by decide +kernel
theorem dL_near_24 : decode cL_near 24 = .ok (.iload_n 2, 1) := by decide +kernel
theorem dL_near_25 : decode cL_near 25 = .ok (.iconst 2, 1) := by decide +kernel
theorem dL_near_26 : decode cL_near 26 = .ok (.if_icmp .ne 7, 3) := by decide +kernel
theorem dL_near_29 : decode cL_near 29 = .ok (.iload_n 0, 1) := by decide +kernel
theorem dL_near_30 : decode cL_near 30 = .ok (.goto 11, 3) := by decide +kernel
theorem dL_near_33 : decode cL_near 33 = .ok (.iload_n 0, 1) := by decide +kernel
theorem dL_near_34 : decode cL_near 34 = .ok (.bipush 6, 2) := by decide +kernel
theorem dL_near_36 : decode cL_near 36 = .ok (.ishr, 1) := by decide +kernel
theorem dL_near_37 : decode cL_near 37 = .ok (.iload_n 1, 1) := by decide +kernel
theorem dL_near_38 : decode cL_near 38 = .ok (.invokestatic 9, 3) := by decide +kernel
theorem dL_near_41 : decode cL_near 41 = .ok (.ireturn, 1) := by decide +kernel
set_option maxRecDepth 20000 in
theorem ggL_order_X6_order : GoodIn wsL_order wsX6_order := goodIn_ca (goodIn_ca (goodIn_ca (goodIn_r _ [7, 8, 9, 10, 11, 12, 13, 14, 15, 16, 6, 17, 18, 19, 20, 21, 22, 23, 24, 25, 26, 27, 28, 29, 30, 31, 32, 33, 34, 35, 36, 37, 38, 39, 40, 41, 42, 43, 44, 45, 46, 47, 48, 49, 50, 51, 52, 53, 54, 55, 56, 57, 58, 59, 60, 61, 62, 63, 64, 65, 66, 67, 68, 69, 70, 71, 72, 73, 74, 75, 76, 77, 78, 79, 80, 81, 82, 83, 84, 85, 86, 87, 88, 89, 90, 91, 92, 93, 94, 95, 96, 97, 98, 99, 100, 101, 102, 103, 104, 105, 106, 107, 108, 109, 110, 111, 112, 113, 114, 115, 116, 117, 118, 119, 120, 121, 122, 123, 124, 125, 126] (by decide +kernel) (by decide +kernel)) (goodIn_sub (fun _ h => List.mem_cons_of_mem _ (List.mem_append_left _ (List.mem_append_left _ (List.mem_append_right _ h)))) (by decide +kernel))) (goodIn_sub (fun _ h => List.mem_cons_of_mem _ (List.mem_append_left _ (List.mem_append_right _ h))) (by decide +kernel))) (goodIn_sub (fun _ h => List.mem_cons_of_mem _ (List.mem_append_right _ h)) (by decide +kernel))
set_option maxRecDepth 20000 in
theorem gL_order_X6_order : GoodIn wsL_order (wsV RL 15 RX6 yX6_order wsX6_order) := goodIn_app (goodIn_of _ (by decide +kernel)) ggL_order_X6_order
theorem dL_order_0 : decode cL_order 0 = .ok (.aload_n 0, 1) := by decide +kernel
theorem dL_order_1 : decode cL_order 1 = .ok (.iload_n 1, 1) := by decide +kernel
theorem dL_order_2 : decode cL_order 2 = .ok (.iload_n 2, 1) := by decide +kernel
theorem dL_order_3 : decode cL_order 3 = .ok (.iload_n 3, 1) := by decide +kernel
theorem dL_order_4 : decode cL_order 4 = .ok (.iload 4, 2) := by decide +kernel
theorem dL_order_6 : decode cL_order 6 = .ok (.iload 5, 2) := by decide +kernel
theorem dL_order_8 : decode cL_order 8 = .ok (.invokevirtual 15, 3) := by decide +kernel
theorem dL_order_11 : decode cL_order 11 = .ok (.pop, 1) := by decide +kernel
theorem dL_order_12 : decode cL_order 12 = .ok (.goto 11, 3) := by decide +kernel
theorem dL_order_15 : decode cL_order 15 = .ok (.astore 6, 2) := by decide +kernel
theorem dL_order_17 : decode cL_order 17 = .ok (.iconst 1, 1) := by decide +kernel
theorem dL_order_18 : decode cL_order 18 = .ok (.ireturn, 1) := by decide +kernel
theorem dL_order_19 : decode cL_order 19 = .ok (.astore 6, 2) := by decide +kernel
theorem dL_order_21 : decode cL_order 21 = .ok (.iconst 2, 1) := by decide +kernel
theorem dL_order_22 : decode cL_order 22 = .ok (.ireturn, 1) := by decide +kernel
theorem dL_order_23 : decode cL_order 23 = .ok (.iconst 0, 1) := by decide +kernel
theorem dL_order_24 : decode cL_order 24 = .ok (.ireturn, 1) := by decide +kernel
set_option maxRecDepth 20000 in
theorem ggL_cancel_X6_cancel : GoodIn wsL_cancel wsX6_cancel := goodIn_ca (goodIn_ca (goodIn_ca (goodIn_r _ [7, 8, 9, 10, 11, 12, 13, 14, 15, 6, 16, 17, 18, 19, 20, 21, 22, 23, 24, 25, 26, 27, 28, 29, 30, 31, 32, 33, 34, 35, 36, 37, 38, 39, 40, 41, 42, 43, 44, 45, 46, 47, 48, 49, 50, 51, 52, 53, 54, 55, 56, 57, 58, 59, 60, 61, 62, 63, 64, 65, 66, 67, 68, 69, 70, 71, 72, 73, 74, 75, 76, 77, 78, 79, 80, 81, 82, 83, 84, 85, 86, 87, 88, 89, 90, 91, 92, 93, 94, 95, 96, 97, 98, 99, 100, 101, 102, 103, 104, 105, 106, 107, 108, 109, 110] (by decide +kernel) (by decide +kernel)) (goodIn_sub (fun _ h => List.mem_cons_of_mem _ (List.mem_append_left _ (List.mem_append_left _ (List.mem_append_right _ h)))) (by decide +kernel))) (goodIn_sub (fun _ h => List.mem_cons_of_mem _ (List.mem_append_left _ (List.mem_append_right _ h))) (by decide +kernel))) (goodIn_sub (fun _ h => List.mem_cons_of_mem _ (List.mem_append_right _ h)) (by decide +kernel))
set_option maxRecDepth 20000 in
theorem gL_cancel_X6_cancel : GoodIn wsL_cancel (wsV RL 25 RX6 yX6_cancel wsX6_cancel) := goodIn_app (goodIn_of _ (by decide +kernel)) ggL_cancel_X6_cancel
theorem dL_cancel_0 : decode cL_cancel 0 = .ok (.aload_n 0, 1) := by decide +kernel
theorem dL_cancel_1 : decode cL_cancel 1 = .ok (.iload_n 1, 1) := by decide +kernel
theorem dL_cancel_2 : decode cL_cancel 2 = .ok (.iload_n 2, 1) := by decide +kernel
theorem dL_cancel_3 : decode cL_cancel 3 = .ok (.invokevirtual 25, 3) := by decide +kernel
theorem dL_cancel_6 : decode cL_cancel 6 = .ok (.pop, 1) := by decide +kernel
theorem dL_cancel_7 : decode cL_cancel 7 = .ok (.goto 9, 3) := by decide +kernel
theorem dL_cancel_10 : decode cL_cancel 10 = .ok (.astore_n 3, 1) := by decide +kernel
theorem dL_cancel_11 : decode cL_cancel 11 = .ok (.iconst 1, 1) := by decide +kernel
theorem dL_cancel_12 : decode cL_cancel 12 = .ok (.ireturn, 1) := by decide +kernel
theorem dL_cancel_13 : decode cL_cancel 13 = .ok (.astore_n 3, 1) := by decide +kernel
theorem dL_cancel_14 : decode cL_cancel 14 = .ok (.iconst 2, 1) := by decide +kernel
theorem dL_cancel_15 : decode cL_cancel 15 = .ok (.ireturn, 1) := by decide +kernel
theorem dL_cancel_16 : decode cL_cancel 16 = .ok (.iconst 0, 1) := by decide +kernel
theorem dL_cancel_17 : decode cL_cancel 17 = .ok (.ireturn, 1) := by decide +kernel
set_option maxRecDepth 20000 in
theorem ggL_wake_X6_wake : GoodIn wsL_wake wsX6_wake := goodIn_ca (goodIn_ca (goodIn_ca (goodIn_r _ [7, 8, 9, 10, 11, 12, 13, 14, 15, 16, 6, 17, 18, 19, 20, 21, 22, 23, 24, 25, 26, 27, 28, 29, 30, 31, 32, 33, 34, 35, 36, 37, 38, 39, 40, 41, 42, 43, 44, 45, 46, 47, 48, 49, 50, 51, 52, 53, 54, 55, 56, 57, 58, 59, 60, 61, 62, 63, 64, 65, 66, 67, 68, 69, 70, 71, 72, 73, 74, 75, 76, 77, 78, 79, 80, 81, 82, 83, 84, 85, 86, 87, 88, 89, 90, 91, 92, 93, 94, 95, 96, 97, 98, 99, 100, 101, 102, 103, 104, 105, 106, 107, 108, 109, 110, 111, 112, 113, 114, 115, 116, 117, 118, 119] (by decide +kernel) (by decide +kernel)) (goodIn_sub (fun _ h => List.mem_cons_of_mem _ (List.mem_append_left _ (List.mem_append_left _ (List.mem_append_right _ h)))) (by decide +kernel))) (goodIn_sub (fun _ h => List.mem_cons_of_mem _ (List.mem_append_left _ (List.mem_append_right _ h))) (by decide +kernel))) (goodIn_sub (fun _ h => List.mem_cons_of_mem _ (List.mem_append_right _ h)) (by decide +kernel))
set_option maxRecDepth 20000 in
theorem gL_wake_X6_wake : GoodIn wsL_wake (wsV RL 28 RX6 yX6_wake wsX6_wake) := goodIn_app (goodIn_of _ (by decide +kernel)) ggL_wake_X6_wake
theorem dL_wake_0 : decode cL_wake 0 = .ok (.aload_n 0, 1) := by decide +kernel
theorem dL_wake_1 : decode cL_wake 1 = .ok (.iload_n 1, 1) := by decide +kernel
theorem dL_wake_2 : decode cL_wake 2 = .ok (.invokevirtual 28, 3) := by decide +kernel
theorem dL_wake_5 : decode cL_wake 5 = .ok (.pop, 1) := by decide +kernel
theorem dL_wake_6 : decode cL_wake 6 = .ok (.goto 9, 3) := by decide +kernel
theorem dL_wake_9 : decode cL_wake 9 = .ok (.astore_n 2, 1) := by decide +kernel
theorem dL_wake_10 : decode cL_wake 10 = .ok (.iconst 1, 1) := by decide +kernel
theorem dL_wake_11 : decode cL_wake 11 = .ok (.ireturn, 1) := by decide +kernel
theorem dL_wake_12 : decode cL_wake 12 = .ok (.astore_n 2, 1) := by decide +kernel
theorem dL_wake_13 : decode cL_wake 13 = .ok (.iconst 2, 1) := by decide +kernel
theorem dL_wake_14 : decode cL_wake 14 = .ok (.ireturn, 1) := by decide +kernel
theorem dL_wake_15 : decode cL_wake 15 = .ok (.iconst 0, 1) := by decide +kernel
theorem dL_wake_16 : decode cL_wake 16 = .ok (.ireturn, 1) := by decide +kernel
set_option maxRecDepth 20000 in
theorem ggL_sleep_X6_sleep : GoodIn wsL_sleep wsX6_sleep := goodIn_ca (goodIn_ca (goodIn_ca (goodIn_r _ [7, 8, 9, 10, 11, 12, 13, 14, 15, 16, 6, 17, 18, 19, 20, 21, 22, 23, 24, 25, 26, 27, 28, 29, 30, 31, 32, 33, 34, 35, 36, 37, 38, 39, 40, 41, 42, 43, 44, 45, 46, 47, 48, 49, 50, 51, 52, 53, 54, 55, 56, 57, 58, 59, 60, 61, 62, 63, 64, 65, 66, 67, 68, 69, 70, 71, 72, 73, 74, 75, 76, 77, 78, 79, 80, 81, 82, 83, 84, 85, 86, 87, 88, 89, 90, 91, 92, 93, 94, 95, 96, 97, 98, 99, 100, 101, 102, 103, 104, 105, 106, 107, 108, 109, 110, 111, 112, 113, 114, 115, 116, 117, 118, 119] (by decide +kernel) (by decide +kernel)) (goodIn_sub (fun _ h => List.mem_cons_of_mem _ (List.mem_append_left _ (List.mem_append_left _ (List.mem_append_right _ h)))) (by decide +kernel))) (goodIn_sub (fun _ h => List.mem_cons_of_mem _ (List.mem_append_left _ (List.mem_append_right _ h))) (by decide +kernel))) (goodIn_sub (fun _ h => List.mem_cons_of_mem _ (List.mem_append_right _ h)) (by decide +kernel))
set_option maxRecDepth 20000 in
theorem gL_sleep_X6_sleep : GoodIn wsL_sleep (wsV RL 34 RX6 yX6_sleep wsX6_sleep) := goodIn_app (goodIn_of _ (by decide +kernel)) ggL_sleep_X6_sleep
theorem dL_sleep_0 : decode cL_sleep 0 = .ok (.aload_n 0, 1) := by decide +kernel
theorem dL_sleep_1 : decode cL_sleep 1 = .ok (.iload_n 1, 1) := by decide +kernel
theorem dL_sleep_2 : decode cL_sleep 2 = .ok (.invokevirtual 34, 3) := by decide +kernel
theorem dL_sleep_5 : decode cL_sleep 5 = .ok (.pop, 1) := by decide +kernel
theorem dL_sleep_6 : decode cL_sleep 6 = .ok (.goto 9, 3) := by decide +kernel
theorem dL_sleep_9 : decode cL_sleep 9 = .ok (.astore_n 2, 1) := by decide +kernel
theorem dL_sleep_10 : decode cL_sleep 10 = .ok (.iconst 1, 1) := by decide +kernel
theorem dL_sleep_11 : decode cL_sleep 11 = .ok (.ireturn, 1) := by decide +kernel
theorem dL_sleep_12 : decode cL_sleep 12 = .ok (.astore_n 2, 1) := by decide +kernel
theorem dL_sleep_13 : decode cL_sleep 13 = .ok (.iconst 2, 1) := by decide +kernel
theorem dL_sleep_14 : decode cL_sleep 14 = .ok (.ireturn, 1) := by decide +kernel
theorem dL_sleep_15 : decode cL_sleep 15 = .ok (.iconst 0, 1) := by decide +kernel
theorem dL_sleep_16 : decode cL_sleep 16 = .ok (.ireturn, 1) := by decide +kernel
set_option maxRecDepth 20000 in
theorem ggL_setDelay_X6_setDelay : GoodIn wsL_setDelay wsX6_setDelay := goodIn_ca (goodIn_ca (goodIn_ca (goodIn_r _ [7, 8, 9, 10, 11, 12, 13, 14, 15, 6, 16, 17, 18, 19, 20, 21, 22, 23, 24, 25, 26, 27, 28, 29, 30, 31, 32, 33, 34, 35, 36, 37, 38, 39, 40, 41, 42, 43, 44, 45, 46, 47, 48, 49, 50, 51, 52, 53, 54, 55, 56, 57, 58, 59, 60, 61, 62, 63, 64, 65, 66, 67, 68, 69, 70, 71, 72, 73, 74, 75, 76, 77, 78, 79, 80, 81, 82, 83, 84, 85, 86, 87, 88, 89, 90, 91, 92, 93, 94, 95, 96, 97, 98, 99, 100, 101, 102, 103, 104, 105] (by decide +kernel) (by decide +kernel)) (goodIn_sub (fun _ h => List.mem_cons_of_mem _ (List.mem_append_left _ (List.mem_append_left _ (List.mem_append_right _ h)))) (by decide +kernel))) (goodIn_sub (fun _ h => List.mem_cons_of_mem _ (List.mem_append_left _ (List.mem_append_right _ h))) (by decide +kernel))) (goodIn_sub (fun _ h => List.mem_cons_of_mem _ (List.mem_append_right _ h)) (by decide +kernel))
set_option maxRecDepth 20000 in
theorem gL_setDelay_X6_setDelay : GoodIn wsL_setDelay (wsV RL 37 RX6 yX6_setDelay wsX6_setDelay) := goodIn_app (goodIn_of _ (by decide +kernel)) ggL_setDelay_X6_setDelay
theorem dL_setDelay_0 : decode cL_setDelay 0 = .ok (.aload_n 0, 1) := by decide +kernel
theorem dL_setDelay_1 : decode cL_setDelay 1 = .ok (.iload_n 1, 1) := by decide +kernel
theorem dL_setDelay_2 : decode cL_setDelay 2 = .ok (.iload_n 2, 1) := by decide +kernel
theorem dL_setDelay_3 : decode cL_setDelay 3 = .ok (.invokevirtual 37, 3) := by decide +kernel
theorem dL_setDelay_6 : decode cL_setDelay 6 = .ok (.pop, 1) := by decide +kernel
theorem dL_setDelay_7 : decode cL_setDelay 7 = .ok (.goto 9, 3) := by decide +kernel
theorem dL_setDelay_10 : decode cL_setDelay 10 = .ok (.astore_n 3, 1) := by decide +kernel
theorem dL_setDelay_11 : decode cL_setDelay 11 = .ok (.iconst 1, 1) := by decide +kernel
theorem dL_setDelay_12 : decode cL_setDelay 12 = .ok (.ireturn, 1) := by decide +kernel
theorem dL_setDelay_13 : decode cL_setDelay 13 = .ok (.astore_n 3, 1) := by decide +kernel
theorem dL_setDelay_14 : decode cL_setDelay 14 = .ok (.iconst 2, 1) := by decide +kernel
theorem dL_setDelay_15 : decode cL_setDelay 15 = .ok (.ireturn, 1) := by decide +kernel
theorem dL_setDelay_16 : decode cL_setDelay 16 = .ok (.iconst 0, 1) := by decide +kernel
theorem dL_setDelay_17 : decode cL_setDelay 17 = .ok (.ireturn, 1) := by decide +kernel
set_option maxRecDepth 20000 in
theorem ggL_setAlarm_X6_setAlarm : GoodIn wsL_setAlarm wsX6_setAlarm := goodIn_ca (goodIn_ca (goodIn_ca (goodIn_r _ [7, 8, 9, 10, 11, 12, 13, 14, 15, 6, 16, 17, 18, 19, 20, 21, 22, 23, 24, 25, 26, 27, 28, 29, 30, 31, 32, 33, 34, 35, 36, 37, 38, 39, 40, 41, 42, 43, 44, 45, 46, 47, 48, 49, 50, 51, 52, 53, 54, 55, 56, 57, 58, 59, 60, 61, 62, 63, 64, 65, 66, 67, 68, 69, 70, 71, 72, 73, 74, 75, 76, 77, 78, 79, 80, 81, 82, 83, 84, 85, 86, 87, 88, 89, 90, 91, 92, 93, 94, 95, 96, 97, 98, 99, 100, 101, 102, 103, 104, 105] (by decide +kernel) (by decide +kernel)) (goodIn_sub (fun _ h => List.mem_cons_of_mem _ (List.mem_append_left _ (List.mem_append_left _ (List.mem_append_right _ h)))) (by decide +kernel))) (goodIn_sub (fun _ h => List.mem_cons_of_mem _ (List.mem_append_left _ (List.mem_append_right _ h))) (by decide +kernel))) (goodIn_sub (fun _ h => List.mem_cons_of_mem _ (List.mem_append_right _ h)) (by decide +kernel))
set_option maxRecDepth 20000 in
theorem gL_setAlarm_X6_setAlarm : GoodIn wsL_setAlarm (wsV RL 40 RX6 yX6_setAlarm wsX6_setAlarm) := goodIn_app (goodIn_of _ (by decide +kernel)) ggL_setAlarm_X6_setAlarm
theorem dL_setAlarm_0 : decode cL_setAlarm 0 = .ok (.aload_n 0, 1) := by decide +kernel
theorem dL_setAlarm_1 : decode cL_setAlarm 1 = .ok (.iload_n 1, 1) := by decide +kernel
theorem dL_setAlarm_2 : decode cL_setAlarm 2 = .ok (.iload_n 2, 1) := by decide +kernel
theorem dL_setAlarm_3 : decode cL_setAlarm 3 = .ok (.invokevirtual 40, 3) := by decide +kernel
theorem dL_setAlarm_6 : decode cL_setAlarm 6 = .ok (.pop, 1) := by decide +kernel
theorem dL_setAlarm_7 : decode cL_setAlarm 7 = .ok (.goto 9, 3) := by decide +kernel
theorem dL_setAlarm_10 : decode cL_setAlarm 10 = .ok (.astore_n 3, 1) := by decide +kernel
theorem dL_setAlarm_11 : decode cL_setAlarm 11 = .ok (.iconst 1, 1) := by decide +kernel
theorem dL_setAlarm_12 : decode cL_setAlarm 12 = .ok (.ireturn, 1) := by decide +kernel
theorem dL_setAlarm_13 : decode cL_setAlarm 13 = .ok (.astore_n 3, 1) := by decide +kernel
theorem dL_setAlarm_14 : decode cL_setAlarm 14 = .ok (.iconst 2, 1) := by decide +kernel
theorem dL_setAlarm_15 : decode cL_setAlarm 15 = .ok (.ireturn, 1) := by decide +kernel
theorem dL_setAlarm_16 : decode cL_setAlarm 16 = .ok (.iconst 0, 1) := by decide +kernel
theorem dL_setAlarm_17 : decode cL_setAlarm 17 = .ok (.ireturn, 1) := by decide +kernel
set_option maxRecDepth 20000 in
theorem ggL_work_X6_work : GoodIn wsL_work wsX6_work := goodIn_ca (goodIn_ca (goodIn_ca (goodIn_r _ [8, 9, 10, 11, 12, 13, 14, 15, 16, 7, 17, 18, 19, 20, 21, 22, 23, 24, 25, 26, 27, 28, 29, 30, 31, 32, 33, 34, 35, 36, 37, 38, 39, 40, 41, 42, 43, 44, 45, 46, 47, 48, 49, 50, 51, 52, 53, 54, 55, 56, 57, 58, 59, 60, 61, 62, 63, 64, 65, 66, 67, 68, 69, 70, 71, 72, 73, 74, 75, 76, 77, 78, 79, 80, 81, 82, 83, 84, 85, 86, 87, 88, 89, 90, 91, 92, 93, 94, 95, 96, 97, 98, 99, 100, 101, 102, 103, 104, 105, 106, 107, 108, 109, 110, 111, 112, 113, 114, 115, 116, 117, 118, 119, 120, 121, 122, 123, 124, 125, 126, 127, 128, 129, 130, 131, 132, 133, 134, 135, 136, 137, 138, 139, 140, 141, 142, 143, 144, 145, 146, 147, 148, 149, 150, 151, 152, 153, 154, 155, 156, 157, 158, 159, 160, 161, 162, 163, 164, 165, 166, 167, 168, 169, 170, 171, 172, 173, 174, 175, 176, 177, 178, 179, 180, 181] (by decide +kernel) (by decide +kernel)) (goodIn_sub (fun _ h => List.mem_cons_of_mem _ (List.mem_append_left _ (List.mem_append_left _ (List.mem_append_right _ h)))) (by decide +kernel))) (goodIn_sub (fun _ h => List.mem_cons_of_mem _ (List.mem_append_left _ (List.mem_append_right _ h))) (by decide +kernel))) (goodIn_sub (fun _ h => List.mem_cons_of_mem _ (List.mem_append_right _ h)) (by decide +kernel))
set_option maxRecDepth 20000 in
theorem gL_work_X6_work : GoodIn wsL_work (wsV RL 43 RX6 yX6_work wsX6_work) := goodIn_app (goodIn_of _ (by decide +kernel)) ggL_work_X6_work
theorem dL_work_0 : decode cL_work 0 = .ok (.aload_n 0, 1) := by decide +kernel
theorem dL_work_1 : decode cL_work 1 = .ok (.iload_n 1, 1) := by decide +kernel
theorem dL_work_2 : decode cL_work 2 = .ok (.iload_n 2, 1) := by decide +kernel
theorem dL_work_3 : decode cL_work 3 = .ok (.invokevirtual 43, 3) := by decide +kernel
theorem dL_work_6 : decode cL_work 6 = .ok (.pop, 1) := by decide +kernel
theorem dL_work_7 : decode cL_work 7 = .ok (.goto 12, 3) := by decide +kernel
theorem dL_work_10 : decode cL_work 10 = .ok (.astore_n 3, 1) := by decide +kernel
theorem dL_work_11 : decode cL_work 11 = .ok (.iconst 1, 1) := by decide +kernel
theorem dL_work_12 : decode cL_work 12 = .ok (.ireturn, 1) := by decide +kernel
theorem dL_work_13 : decode cL_work 13 = .ok (.astore_n 3, 1) := by decide +kernel
theorem dL_work_14 : decode cL_work 14 = .ok (.iconst 2, 1) := by decide +kernel
theorem dL_work_15 : decode cL_work 15 = .ok (.ireturn, 1) := by decide +kernel
theorem dL_work_16 : decode cL_work 16 = .ok (.astore_n 3, 1) := by decide +kernel
theorem dL_work_17 : decode cL_work 17 = .ok (.iconst 3, 1) := by decide +kernel
theorem dL_work_18 : decode cL_work 18 = .ok (.ireturn, 1) := by decide +kernel
theorem dL_work_19 : decode cL_work 19 = .ok (.iconst 0, 1) := by decide +kernel
theorem dL_work_20 : decode cL_work 20 = .ok (.ireturn, 1) := by decide +kernel
set_option maxRecDepth 20000 in
theorem ggL_pass_X6_pass : GoodIn wsL_pass wsX6_pass := goodIn_ca (goodIn_ca (goodIn_ca (goodIn_r _ [7, 8, 9, 10, 11, 12, 13, 14, 15, 16, 6, 17, 18, 19, 20, 21, 22, 23, 24, 25, 26, 27, 28, 29, 30, 31, 32, 33, 34, 35, 36, 37, 38, 39, 40, 41, 42, 43, 44, 45, 46, 47, 48, 49, 50, 51, 52, 53, 54, 55, 56, 57, 58, 59, 60, 61, 62, 63, 64, 65, 66, 67, 68, 69, 70, 71, 72, 73, 74, 75, 76, 77, 78, 79, 80, 81, 82, 83, 84, 85, 86, 87, 88, 89, 90, 91, 92, 93, 94, 95, 96, 97, 98, 99, 100, 101, 102, 103, 104, 105, 106, 107, 108, 109, 110, 111, 112, 113, 114, 115, 116, 117, 118, 119, 120, 121, 122, 123, 124, 125, 126, 127, 128, 129, 130, 131, 132, 133, 134, 135, 136, 137, 138, 139, 140, 141, 142, 143, 144, 145, 146, 147, 148, 149, 150, 151, 152, 153, 154, 155, 156, 157, 158, 159, 160, 161, 162, 163, 164, 165, 166, 167, 168, 169, 170, 171, 172, 173, 174, 175, 176, 177, 178, 179, 180, 181] (by decide +kernel) (by decide +kernel)) (goodIn_sub (fun _ h => List.mem_cons_of_mem _ (List.mem_append_left _ (List.mem_append_left _ (List.mem_append_right _ h)))) (by decide +kernel))) (goodIn_sub (fun _ h => List.mem_cons_of_mem _ (List.mem_append_left _ (List.mem_append_right _ h))) (by decide +kernel))) (goodIn_sub (fun _ h => List.mem_cons_of_mem _ (List.mem_append_right _ h)) (by decide +kernel))
set_option maxRecDepth 20000 in
theorem gL_pass_X6_pass : GoodIn wsL_pass (wsV RL 46 RX6 yX6_pass wsX6_pass) := goodIn_app (goodIn_of _ (by decide +kernel)) ggL_pass_X6_pass
theorem dL_pass_0 : decode cL_pass 0 = .ok (.aload_n 0, 1) := by decide +kernel
theorem dL_pass_1 : decode cL_pass 1 = .ok (.iload_n 1, 1) := by decide +kernel
theorem dL_pass_2 : decode cL_pass 2 = .ok (.invokevirtual 46, 3) := by decide +kernel
theorem dL_pass_5 : decode cL_pass 5 = .ok (.pop, 1) := by decide +kernel
theorem dL_pass_6 : decode cL_pass 6 = .ok (.goto 9, 3) := by decide +kernel
theorem dL_pass_9 : decode cL_pass 9 = .ok (.astore_n 2, 1) := by decide +kernel
theorem dL_pass_10 : decode cL_pass 10 = .ok (.iconst 1, 1) := by decide +kernel
theorem dL_pass_11 : decode cL_pass 11 = .ok (.ireturn, 1) := by decide +kernel
theorem dL_pass_12 : decode cL_pass 12 = .ok (.astore_n 2, 1) := by decide +kernel
theorem dL_pass_13 : decode cL_pass 13 = .ok (.iconst 2, 1) := by decide +kernel
theorem dL_pass_14 : decode cL_pass 14 = .ok (.ireturn, 1) := by decide +kernel
theorem dL_pass_15 : decode cL_pass 15 = .ok (.iconst 0, 1) := by decide +kernel
theorem dL_pass_16 : decode cL_pass 16 = .ok (.ireturn, 1) := by decide +kernel
set_option maxRecDepth 20000 in
theorem ggL_lose_X6_lose : GoodIn wsL_lose wsX6_lose := goodIn_ca (goodIn_ca (goodIn_ca (goodIn_r _ [6, 7, 8, 9, 10, 5, 11, 12, 13, 14, 15, 16, 17, 18, 19, 20, 21, 22, 23, 24, 25, 26, 27, 28, 29, 30, 31, 32, 33, 34, 35, 36, 37, 38, 39, 40, 41, 42, 43, 44, 45, 46, 47, 48, 49, 50, 51, 52, 53, 54, 55, 56, 57, 58, 59, 60, 61, 62, 63, 64, 65, 66, 67, 68, 69, 70, 71, 72, 73, 74, 75, 76, 77, 78, 79, 80, 81, 82, 83, 84, 85, 86, 87, 88, 89, 90, 91, 92, 93, 94, 95, 96, 97, 98, 99, 100, 101, 102, 103, 104, 105, 106, 107, 108, 109, 110] (by decide +kernel) (by decide +kernel)) (goodIn_sub (fun _ h => List.mem_cons_of_mem _ (List.mem_append_left _ (List.mem_append_left _ (List.mem_append_right _ h)))) (by decide +kernel))) (goodIn_sub (fun _ h => List.mem_cons_of_mem _ (List.mem_append_left _ (List.mem_append_right _ h))) (by decide +kernel))) (goodIn_sub (fun _ h => List.mem_cons_of_mem _ (List.mem_append_right _ h)) (by decide +kernel))
set_option maxRecDepth 20000 in
theorem gL_lose_X6_lose : GoodIn wsL_lose (wsV RL 49 RX6 yX6_lose wsX6_lose) := goodIn_app (goodIn_of _ (by decide +kernel)) ggL_lose_X6_lose
theorem dL_lose_0 : decode cL_lose 0 = .ok (.aload_n 0, 1) := by decide +kernel
theorem dL_lose_1 : decode cL_lose 1 = .ok (.iload_n 1, 1) := by decide +kernel
theorem dL_lose_2 : decode cL_lose 2 = .ok (.invokevirtual 49, 3) := by decide +kernel
theorem dL_lose_5 : decode cL_lose 5 = .ok (.pop, 1) := by decide +kernel
theorem dL_lose_6 : decode cL_lose 6 = .ok (.goto 6, 3) := by decide +kernel
theorem dL_lose_9 : decode cL_lose 9 = .ok (.astore_n 2, 1) := by decide +kernel
theorem dL_lose_10 : decode cL_lose 10 = .ok (.iconst 1, 1) := by decide +kernel
theorem dL_lose_11 : decode cL_lose 11 = .ok (.ireturn, 1) := by decide +kernel
theorem dL_lose_12 : decode cL_lose 12 = .ok (.iconst 0, 1) := by decide +kernel
theorem dL_lose_13 : decode cL_lose 13 = .ok (.ireturn, 1) := by decide +kernel
set_option maxRecDepth 20000 in
theorem ggL_undo_X6_undo : GoodIn wsL_undo wsX6_undo := goodIn_ca (goodIn_ca (goodIn_ca (goodIn_r _ [6, 7, 8, 9, 10, 11, 5, 12, 13, 14, 15, 16, 17, 18, 19, 20, 21, 22, 23, 24, 25, 26, 27, 28, 29, 30, 31, 32, 33, 34, 35, 36, 37, 38, 39, 40, 41, 42, 43, 44, 45, 46, 47, 48, 49, 50, 51, 52, 53, 54, 55, 56, 57, 58, 59, 60, 61, 62, 63, 64, 65, 66, 67, 68, 69, 70, 71, 72, 73, 74, 75, 76, 77, 78, 79, 80, 81, 82, 83, 84, 85] (by decide +kernel) (by decide +kernel)) (goodIn_sub (fun _ h => List.mem_cons_of_mem _ (List.mem_append_left _ (List.mem_append_left _ (List.mem_append_right _ h)))) (by decide +kernel))) (goodIn_sub (fun _ h => List.mem_cons_of_mem _ (List.mem_append_left _ (List.mem_append_right _ h))) (by decide +kernel))) (goodIn_sub (fun _ h => List.mem_cons_of_mem _ (List.mem_append_right _ h)) (by decide +kernel))
set_option maxRecDepth 20000 in
theorem gL_undo_X6_undo : GoodIn wsL_undo (wsV RL 52 RX6 yX6_undo wsX6_undo) := goodIn_app (goodIn_of _ (by decide +kernel)) ggL_undo_X6_undo
theorem dL_undo_0 : decode cL_undo 0 = .ok (.aload_n 0, 1) := by decide +kernel
theorem dL_undo_1 : decode cL_undo 1 = .ok (.invokevirtual 52, 3) := by decide +kernel
theorem dL_undo_4 : decode cL_undo 4 = .ok (.pop, 1) := by decide +kernel
theorem dL_undo_5 : decode cL_undo 5 = .ok (.goto 6, 3) := by decide +kernel
theorem dL_undo_8 : decode cL_undo 8 = .ok (.astore_n 1, 1) := by decide +kernel
theorem dL_undo_9 : decode cL_undo 9 = .ok (.iconst 1, 1) := by decide +kernel
theorem dL_undo_10 : decode cL_undo 10 = .ok (.ireturn, 1) := by decide +kernel
theorem dL_undo_11 : decode cL_undo 11 = .ok (.iconst 0, 1) := by decide +kernel
theorem dL_undo_12 : decode cL_undo 12 = .ok (.ireturn, 1) := by decide +kernel
set_option maxRecDepth 20000 in
theorem ggL_type_X6_type : GoodIn wsL_type wsX6_type := goodIn_ca (goodIn_ca (goodIn_ca (goodIn_r _ [7, 8, 9, 10, 6, 11, 12, 13, 14, 15, 16, 17, 18, 19, 20, 21, 22, 23, 24, 25, 26, 27, 28, 29, 30, 31, 32, 33, 34, 35, 36, 37, 38, 39, 40, 41, 42, 43, 44, 45, 46, 47] (by decide +kernel) (by decide +kernel)) (goodIn_sub (fun _ h => List.mem_cons_of_mem _ (List.mem_append_left _ (List.mem_append_left _ (List.mem_append_right _ h)))) (by decide +kernel))) (goodIn_sub (fun _ h => List.mem_cons_of_mem _ (List.mem_append_left _ (List.mem_append_right _ h))) (by decide +kernel))) (goodIn_sub (fun _ h => List.mem_cons_of_mem _ (List.mem_append_right _ h)) (by decide +kernel))
set_option maxRecDepth 20000 in
theorem gL_type_X6_type : GoodIn wsL_type (wsV RL 56 RX6 yX6_type wsX6_type) := goodIn_app (goodIn_of _ (by decide +kernel)) ggL_type_X6_type
theorem dL_type_0 : decode cL_type 0 = .ok (.aload_n 0, 1) := by decide +kernel
theorem dL_type_1 : decode cL_type 1 = .ok (.iload_n 1, 1) := by decide +kernel
theorem dL_type_2 : decode cL_type 2 = .ok (.invokevirtual 56, 3) := by decide +kernel
theorem dL_type_5 : decode cL_type 5 = .ok (.pop, 1) := by decide +kernel
theorem dL_type_6 : decode cL_type 6 = .ok (.goto 9, 3) := by decide +kernel
theorem dL_type_9 : decode cL_type 9 = .ok (.astore_n 2, 1) := by decide +kernel
theorem dL_type_10 : decode cL_type 10 = .ok (.iconst 1, 1) := by decide +kernel
theorem dL_type_11 : decode cL_type 11 = .ok (.ireturn, 1) := by decide +kernel
theorem dL_type_12 : decode cL_type 12 = .ok (.astore_n 2, 1) := by decide +kernel
theorem dL_type_13 : decode cL_type 13 = .ok (.iconst 2, 1) := by decide +kernel
theorem dL_type_14 : decode cL_type 14 = .ok (.ireturn, 1) := by decide +kernel
theorem dL_type_15 : decode cL_type 15 = .ok (.iconst 0, 1) := by decide +kernel
theorem dL_type_16 : decode cL_type 16 = .ok (.ireturn, 1) := by decide +kernel
set_option maxRecDepth 20000 in
theorem ggL_isOpen_X6_orderOf : GoodIn wsL_isOpen wsX6_orderOf := goodIn_ca (goodIn_ca (goodIn_ca (goodIn_r _ [5, 6, 7, 8, 9, 10, 11, 12, 13, 14, 4, 15, 16, 17, 18, 19, 20, 21, 22, 23, 24, 25, 26, 27, 28, 29, 30, 31, 32, 33, 34, 35, 36, 37, 38, 39, 40, 41, 42, 43, 44, 45, 46] (by decide +kernel) (by decide +kernel)) (goodIn_sub (fun _ h => List.mem_cons_of_mem _ (List.mem_append_left _ (List.mem_append_left _ (List.mem_append_right _ h)))) (by decide +kernel))) (goodIn_sub (fun _ h => List.mem_cons_of_mem _ (List.mem_append_left _ (List.mem_append_right _ h))) (by decide +kernel))) (goodIn_sub (fun _ h => List.mem_cons_of_mem _ (List.mem_append_right _ h)) (by decide +kernel))
set_option maxRecDepth 20000 in
theorem gL_isOpen_X6_orderOf : GoodIn wsL_isOpen (wsV RL 59 RX6 yX6_orderOf wsX6_orderOf) := goodIn_app (goodIn_of _ (by decide +kernel)) ggL_isOpen_X6_orderOf
theorem dL_isOpen_0 : decode cL_isOpen 0 = .ok (.aload_n 0, 1) := by decide +kernel
theorem dL_isOpen_1 : decode cL_isOpen 1 = .ok (.iload_n 1, 1) := by decide +kernel
theorem dL_isOpen_2 : decode cL_isOpen 2 = .ok (.iconst 5, 1) := by decide +kernel
theorem dL_isOpen_3 : decode cL_isOpen 3 = .ok (.invokevirtual 59, 3) := by decide +kernel
theorem dL_isOpen_6 : decode cL_isOpen 6 = .ok (.iconst 2, 1) := by decide +kernel
theorem dL_isOpen_7 : decode cL_isOpen 7 = .ok (.if_icmp .ge 7, 3) := by decide +kernel
theorem dL_isOpen_10 : decode cL_isOpen 10 = .ok (.iconst 1, 1) := by decide +kernel
theorem dL_isOpen_11 : decode cL_isOpen 11 = .ok (.goto 4, 3) := by decide +kernel
theorem dL_isOpen_14 : decode cL_isOpen 14 = .ok (.iconst 0, 1) := by decide +kernel
theorem dL_isOpen_15 : decode cL_isOpen 15 = .ok (.ireturn, 1) := by decide +kernel
set_option maxRecDepth 20000 in
theorem ggL_ordersFit_X6_whole : GoodIn wsL_ordersFit wsX6_whole := goodIn_ca (goodIn_ca (goodIn_ca (goodIn_r _ [5, 6, 7, 4, 8, 9, 10, 11, 12, 13, 14, 15, 16, 17, 18, 19, 20, 21, 22, 23, 24, 25, 26, 27, 28, 29, 30, 31, 32, 33, 34, 35, 36, 37, 38, 39, 40, 41, 42, 43, 44, 45, 46, 47, 48, 49, 50, 51, 52, 53, 54, 55, 56, 172, 173, 174, 175, 176, 177, 178, 179, 180, 181, 182, 183, 184, 185, 186, 187, 188, 189, 190, 191, 192, 193, 194, 195, 196, 197, 198] (by decide +kernel) (by decide +kernel)) (goodIn_sub (fun _ h => List.mem_cons_of_mem _ (List.mem_append_left _ (List.mem_append_left _ (List.mem_append_right _ h)))) (by decide +kernel))) (goodIn_sub (fun _ h => List.mem_cons_of_mem _ (List.mem_append_left _ (List.mem_append_right _ h))) (by decide +kernel))) (goodIn_sub (fun _ h => List.mem_cons_of_mem _ (List.mem_append_right _ h)) (by decide +kernel))
set_option maxRecDepth 20000 in
theorem gL_ordersFit_X6_whole : GoodIn wsL_ordersFit (wsV RL 62 RX6 yX6_whole wsX6_whole) := goodIn_app (goodIn_of _ (by decide +kernel)) ggL_ordersFit_X6_whole
set_option maxRecDepth 20000 in
theorem ggL_ordersFit_X6_orderOf : GoodIn wsL_ordersFit wsX6_orderOf := goodIn_ca (goodIn_ca (goodIn_ca (goodIn_r _ [60, 27, 61, 62, 63, 31, 64, 33, 12, 13, 4, 14, 15, 16, 17, 18, 19, 20, 6, 7, 8, 9, 10, 11, 65, 46, 47, 48, 49, 172, 173, 174, 175, 176, 177, 183, 184, 185, 186, 187, 188, 189, 190] (by decide +kernel) (by decide +kernel)) (goodIn_sub (fun _ h => List.mem_cons_of_mem _ (List.mem_append_left _ (List.mem_append_left _ (List.mem_append_right _ h)))) (by decide +kernel))) (goodIn_sub (fun _ h => List.mem_cons_of_mem _ (List.mem_append_left _ (List.mem_append_right _ h))) (by decide +kernel))) (goodIn_sub (fun _ h => List.mem_cons_of_mem _ (List.mem_append_right _ h)) (by decide +kernel))
set_option maxRecDepth 20000 in
theorem gL_ordersFit_X6_orderOf : GoodIn wsL_ordersFit (wsV RL 59 RX6 yX6_orderOf wsX6_orderOf) := goodIn_app (goodIn_of _ (by decide +kernel)) ggL_ordersFit_X6_orderOf
set_option maxRecDepth 20000 in
theorem ggL_ordersFit_X6_orderWith : GoodIn wsL_ordersFit wsX6_orderWith := goodIn_ca (goodIn_ca (goodIn_ca (goodIn_r _ [69, 27, 70, 71, 4, 72, 9, 10, 11, 12, 13, 14, 15, 16, 17, 18, 19, 20, 73, 74, 75, 31, 76, 33, 45, 46, 47, 48, 49, 172, 173, 174, 175, 176, 177, 183, 184, 185, 186, 187, 188, 189, 190] (by decide +kernel) (by decide +kernel)) (goodIn_sub (fun _ h => List.mem_cons_of_mem _ (List.mem_append_left _ (List.mem_append_left _ (List.mem_append_right _ h)))) (by decide +kernel))) (goodIn_sub (fun _ h => List.mem_cons_of_mem _ (List.mem_append_left _ (List.mem_append_right _ h))) (by decide +kernel))) (goodIn_sub (fun _ h => List.mem_cons_of_mem _ (List.mem_append_right _ h)) (by decide +kernel))
set_option maxRecDepth 20000 in
theorem gL_ordersFit_X6_orderWith : GoodIn wsL_ordersFit (wsV RL 65 RX6 yX6_orderWith wsX6_orderWith) := goodIn_app (goodIn_of _ (by decide +kernel)) ggL_ordersFit_X6_orderWith
set_option maxRecDepth 20000 in
theorem ggL_ordersFit_X6_controller : GoodIn wsL_ordersFit wsX6_controller := goodIn_ca (goodIn_ca (goodIn_ca (goodIn_r _ [80, 27, 81, 82, 4, 83, 9, 10, 11, 12, 13, 14, 15, 16, 17, 18, 19, 20, 6, 7, 8, 84, 85, 86, 31, 87, 88, 89, 90, 91, 33, 92, 93, 94, 95, 34, 96, 97, 98, 99, 37, 39, 100, 101, 102, 103, 104, 105, 45, 46, 47, 48, 49, 106, 107, 108, 109, 110, 111, 112, 113, 114, 115, 116, 117, 118, 119, 120, 121, 122, 123, 124, 125, 126, 127, 172, 173, 174, 175, 176, 177, 183, 184, 185, 186, 187, 188, 189, 190, 191, 192, 193, 194, 195, 196, 197, 198] (by decide +kernel) (by decide +kernel)) (goodIn_sub (fun _ h => List.mem_cons_of_mem _ (List.mem_append_left _ (List.mem_append_left _ (List.mem_append_right _ h)))) (by decide +kernel))) (goodIn_sub (fun _ h => List.mem_cons_of_mem _ (List.mem_append_left _ (List.mem_append_right _ h))) (by decide +kernel))) (goodIn_sub (fun _ h => List.mem_cons_of_mem _ (List.mem_append_right _ h)) (by decide +kernel))
set_option maxRecDepth 20000 in
theorem gL_ordersFit_X6_controller : GoodIn wsL_ordersFit (wsV RL 68 RX6 yX6_controller wsX6_controller) := goodIn_app (goodIn_of _ (by decide +kernel)) ggL_ordersFit_X6_controller
set_option maxRecDepth 20000 in
theorem ggL_ordersFit_L_waitsFit : GoodIn wsL_ordersFit wsL_waitsFit := goodIn_ca (goodIn_ca (goodIn_ca (goodIn_r _ [131, 132, 133, 134, 4, 135, 27, 61, 62, 63, 31, 64, 33, 12, 13, 14, 15, 16, 17, 18, 19, 20, 136, 137, 138, 139, 140, 141, 142, 143, 45, 46, 47, 48, 49, 144, 145, 146, 147, 148, 149, 150, 151, 152, 153, 154, 155, 156, 157, 158, 159, 160, 161, 162, 163, 164, 165, 55, 56, 166, 167, 168, 169, 170, 130, 171, 57, 58, 59, 60, 6, 7, 8, 9, 10, 11, 65, 172, 173, 174, 175, 176, 177, 183, 184, 185, 186, 187, 188, 189, 190] (by decide +kernel) (by decide +kernel)) (goodIn_sub (fun _ h => List.mem_cons_of_mem _ (List.mem_append_left _ (List.mem_append_left _ (List.mem_append_right _ h)))) (by decide +kernel))) (goodIn_sub (fun _ h => List.mem_cons_of_mem _ (List.mem_append_left _ (List.mem_append_right _ h))) (by decide +kernel))) (goodIn_sub (fun _ h => List.mem_cons_of_mem _ (List.mem_append_right _ h)) (by decide +kernel))
set_option maxRecDepth 20000 in
theorem gL_ordersFit_L_waitsFit : GoodIn wsL_ordersFit (va_wsS RL 71 yL_waitsFit wsL_waitsFit) := goodIn_app (goodIn_of _ (by decide +kernel)) ggL_ordersFit_L_waitsFit
theorem dL_ordersFit_0 : decode cL_ordersFit 0 = .ok (.aload_n 0, 1) := by decide +kernel
theorem dL_ordersFit_1 : decode cL_ordersFit 1 = .ok (.iconst 0, 1) := by decide +kernel
theorem dL_ordersFit_2 : decode cL_ordersFit 2 = .ok (.invokevirtual 62, 3) := by decide +kernel
theorem dL_ordersFit_5 : decode cL_ordersFit 5 = .ok (.istore_n 1, 1) := by decide +kernel
theorem dL_ordersFit_6 : decode cL_ordersFit 6 = .ok (.iload_n 1, 1) := by decide +kernel
theorem dL_ordersFit_7 : decode cL_ordersFit 7 = .ok (.ifCond .lt 49, 3) := by decide +kernel
theorem dL_ordersFit_10 : decode cL_ordersFit 10 = .ok (.iload_n 1, 1) := by decide +kernel
theorem dL_ordersFit_11 : decode cL_ordersFit 11 = .ok (.bipush 40, 2) := by decide +kernel
theorem dL_ordersFit_13 : decode cL_ordersFit 13 = .ok (.if_icmp .gt 43, 3) := by decide +kernel
theorem dL_ordersFit_16 : decode cL_ordersFit 16 = .ok (.aload_n 0, 1) := by decide +kernel
theorem dL_ordersFit_17 : decode cL_ordersFit 17 = .ok (.iconst 1, 1) := by decide +kernel
theorem dL_ordersFit_18 : decode cL_ordersFit 18 = .ok (.invokevirtual 62, 3) := by decide +kernel
theorem dL_ordersFit_21 : decode cL_ordersFit 21 = .ok (.aload_n 0, 1) := by decide +kernel
theorem dL_ordersFit_22 : decode cL_ordersFit 22 = .ok (.iconst 2, 1) := by decide +kernel
theorem dL_ordersFit_23 : decode cL_ordersFit 23 = .ok (.invokevirtual 62, 3) := by decide +kernel
theorem dL_ordersFit_26 : decode cL_ordersFit 26 = .ok (.iadd, 1) := by decide +kernel
theorem dL_ordersFit_27 : decode cL_ordersFit 27 = .ok (.aload_n 0, 1) := by decide +kernel
theorem dL_ordersFit_28 : decode cL_ordersFit 28 = .ok (.iconst 3, 1) := by decide +kernel
theorem dL_ordersFit_29 : decode cL_ordersFit 29 = .ok (.invokevirtual 62, 3) := by decide +kernel
theorem dL_ordersFit_32 : decode cL_ordersFit 32 = .ok (.iadd, 1) := by decide +kernel
theorem dL_ordersFit_33 : decode cL_ordersFit 33 = .ok (.aload_n 0, 1) := by decide +kernel
theorem dL_ordersFit_34 : decode cL_ordersFit 34 = .ok (.iconst 4, 1) := by decide +kernel
theorem dL_ordersFit_35 : decode cL_ordersFit 35 = .ok (.invokevirtual 62, 3) := by decide +kernel
theorem dL_ordersFit_38 : decode cL_ordersFit 38 = .ok (.iadd, 1) := by decide +kernel
theorem dL_ordersFit_39 : decode cL_ordersFit 39 = .ok (.iload_n 1, 1) := by decide +kernel
theorem dL_ordersFit_40 : decode cL_ordersFit 40 = .ok (.if_icmp .ne 16, 3) := by decide +kernel
theorem dL_ordersFit_43 : decode cL_ordersFit 43 = .ok (.aload_n 0, 1) := by decide +kernel
theorem dL_ordersFit_44 : decode cL_ordersFit 44 = .ok (.iconst 2, 1) := by decide +kernel
theorem dL_ordersFit_45 : decode cL_ordersFit 45 = .ok (.invokevirtual 62, 3) := by decide +kernel
theorem dL_ordersFit_48 : decode cL_ordersFit 48 = .ok (.iconst 1, 1) := by decide +kernel
theorem dL_ordersFit_49 : decode cL_ordersFit 49 = .ok (.if_icmp .gt 7, 3) := by decide +kernel
theorem dL_ordersFit_52 : decode cL_ordersFit 52 = .ok (.iconst 1, 1) := by decide +kernel
theorem dL_ordersFit_53 : decode cL_ordersFit 53 = .ok (.goto 4, 3) := by decide +kernel
theorem dL_ordersFit_56 : decode cL_ordersFit 56 = .ok (.iconst 0, 1) := by decide +kernel
theorem dL_ordersFit_57 : decode cL_ordersFit 57 = .ok (.istore_n 2, 1) := by decide +kernel
theorem dL_ordersFit_58 : decode cL_ordersFit 58 = .ok (.iconst (-1), 1) := by decide +kernel
theorem dL_ordersFit_59 : decode cL_ordersFit 59 = .ok (.istore_n 3, 1) := by decide +kernel
theorem dL_ordersFit_60 : decode cL_ordersFit 60 = .ok (.iconst 0, 1) := by decide +kernel
theorem dL_ordersFit_61 : decode cL_ordersFit 61 = .ok (.istore 4, 2) := by decide +kernel
theorem dL_ordersFit_63 : decode cL_ordersFit 63 = .ok (.iconst 0, 1) := by decide +kernel
theorem dL_ordersFit_64 : decode cL_ordersFit 64 = .ok (.istore 5, 2) := by decide +kernel
theorem dL_ordersFit_66 : decode cL_ordersFit 66 = .ok (.iconst 0, 1) := by decide +kernel
theorem dL_ordersFit_67 : decode cL_ordersFit 67 = .ok (.istore 6, 2) := by decide +kernel
theorem dL_ordersFit_69 : decode cL_ordersFit 69 = .ok (.iconst 0, 1) := by decide +kernel
theorem dL_ordersFit_70 : decode cL_ordersFit 70 = .ok (.istore 7, 2) := by decide +kernel
theorem dL_ordersFit_72 : decode cL_ordersFit 72 = .ok (.iload 7, 2) := by decide +kernel
theorem dL_ordersFit_74 : decode cL_ordersFit 74 = .ok (.iload_n 1, 1) := by decide +kernel
theorem dL_ordersFit_75 : decode cL_ordersFit 75 = .ok (.if_icmp .ge 277, 3) := by decide +kernel
theorem dL_ordersFit_78 : decode cL_ordersFit 78 = .ok (.iload_n 2, 1) := by decide +kernel
theorem dL_ordersFit_79 : decode cL_ordersFit 79 = .ok (.ifCond .eq 273, 3) := by decide +kernel
theorem dL_ordersFit_82 : decode cL_ordersFit 82 = .ok (.aload_n 0, 1) := by decide +kernel
theorem dL_ordersFit_83 : decode cL_ordersFit 83 = .ok (.iload 7, 2) := by decide +kernel
theorem dL_ordersFit_85 : decode cL_ordersFit 85 = .ok (.iconst 5, 1) := by decide +kernel
theorem dL_ordersFit_86 : decode cL_ordersFit 86 = .ok (.invokevirtual 59, 3) := by decide +kernel
theorem dL_ordersFit_89 : decode cL_ordersFit 89 = .ok (.istore 8, 2) := by decide +kernel
theorem dL_ordersFit_91 : decode cL_ordersFit 91 = .ok (.aload_n 0, 1) := by decide +kernel
theorem dL_ordersFit_92 : decode cL_ordersFit 92 = .ok (.iload 7, 2) := by decide +kernel
theorem dL_ordersFit_94 : decode cL_ordersFit 94 = .ok (.bipush 6, 2) := by decide +kernel
theorem dL_ordersFit_96 : decode cL_ordersFit 96 = .ok (.invokevirtual 59, 3) := by decide +kernel
theorem dL_ordersFit_99 : decode cL_ordersFit 99 = .ok (.istore 9, 2) := by decide +kernel
theorem dL_ordersFit_101 : decode cL_ordersFit 101 = .ok (.aload_n 0, 1) := by decide +kernel
theorem dL_ordersFit_102 : decode cL_ordersFit 102 = .ok (.aload_n 0, 1) := by decide +kernel
theorem dL_ordersFit_103 : decode cL_ordersFit 103 = .ok (.iload 7, 2) := by decide +kernel
theorem dL_ordersFit_105 : decode cL_ordersFit 105 = .ok (.iconst 0, 1) := by decide +kernel
theorem dL_ordersFit_106 : decode cL_ordersFit 106 = .ok (.invokevirtual 59, 3) := by decide +kernel
theorem dL_ordersFit_109 : decode cL_ordersFit 109 = .ok (.aload_n 0, 1) := by decide +kernel
theorem dL_ordersFit_110 : decode cL_ordersFit 110 = .ok (.iload 7, 2) := by decide +kernel
theorem dL_ordersFit_112 : decode cL_ordersFit 112 = .ok (.iconst 1, 1) := by decide +kernel
theorem dL_ordersFit_113 : decode cL_ordersFit 113 = .ok (.invokevirtual 59, 3) := by decide +kernel
theorem dL_ordersFit_116 : decode cL_ordersFit 116 = .ok (.invokevirtual 65, 3) := by decide +kernel
theorem dL_ordersFit_119 : decode cL_ordersFit 119 = .ok (.istore 10, 2) := by decide +kernel
theorem dL_ordersFit_121 : decode cL_ordersFit 121 = .ok (.iload 8, 2) := by decide +kernel
theorem dL_ordersFit_123 : decode cL_ordersFit 123 = .ok (.iconst 1, 1) := by decide +kernel
theorem dL_ordersFit_124 : decode cL_ordersFit 124 = .ok (.if_icmp .ne 8, 3) := by decide +kernel
theorem dL_ordersFit_127 : decode cL_ordersFit 127 = .ok (.iload 7, 2) := by decide +kernel
theorem dL_ordersFit_129 : decode cL_ordersFit 129 = .ok (.goto 4, 3) := by decide +kernel
theorem dL_ordersFit_132 : decode cL_ordersFit 132 = .ok (.iload_n 3, 1) := by decide +kernel
theorem dL_ordersFit_133 : decode cL_ordersFit 133 = .ok (.istore_n 3, 1) := by decide +kernel
theorem dL_ordersFit_134 : decode cL_ordersFit 134 = .ok (.iload 4, 2) := by decide +kernel
theorem dL_ordersFit_136 : decode cL_ordersFit 136 = .ok (.iload 9, 2) := by decide +kernel
theorem dL_ordersFit_138 : decode cL_ordersFit 138 = .ok (.ifCond .ne 7, 3) := by decide +kernel
theorem dL_ordersFit_141 : decode cL_ordersFit 141 = .ok (.iconst 1, 1) := by decide +kernel
theorem dL_ordersFit_142 : decode cL_ordersFit 142 = .ok (.goto 4, 3) := by decide +kernel
theorem dL_ordersFit_145 : decode cL_ordersFit 145 = .ok (.iconst 0, 1) := by decide +kernel
theorem dL_ordersFit_146 : decode cL_ordersFit 146 = .ok (.iadd, 1) := by decide +kernel
theorem dL_ordersFit_147 : decode cL_ordersFit 147 = .ok (.istore 4, 2) := by decide +kernel
theorem dL_ordersFit_149 : decode cL_ordersFit 149 = .ok (.iload 5, 2) := by decide +kernel
theorem dL_ordersFit_151 : decode cL_ordersFit 151 = .ok (.iload 9, 2) := by decide +kernel
theorem dL_ordersFit_153 : decode cL_ordersFit 153 = .ok (.iconst 1, 1) := by decide +kernel
theorem dL_ordersFit_154 : decode cL_ordersFit 154 = .ok (.if_icmp .ne 7, 3) := by decide +kernel
theorem dL_ordersFit_157 : decode cL_ordersFit 157 = .ok (.iconst 1, 1) := by decide +kernel
theorem dL_ordersFit_158 : decode cL_ordersFit 158 = .ok (.goto 4, 3) := by decide +kernel
theorem dL_ordersFit_161 : decode cL_ordersFit 161 = .ok (.iconst 0, 1) := by decide +kernel
theorem dL_ordersFit_162 : decode cL_ordersFit 162 = .ok (.iadd, 1) := by decide +kernel
theorem dL_ordersFit_163 : decode cL_ordersFit 163 = .ok (.istore 5, 2) := by decide +kernel
theorem dL_ordersFit_165 : decode cL_ordersFit 165 = .ok (.iload 6, 2) := by decide +kernel
theorem dL_ordersFit_167 : decode cL_ordersFit 167 = .ok (.aload_n 0, 1) := by decide +kernel
theorem dL_ordersFit_168 : decode cL_ordersFit 168 = .ok (.iload 7, 2) := by decide +kernel
theorem dL_ordersFit_170 : decode cL_ordersFit 170 = .ok (.bipush 9, 2) := by decide +kernel
theorem dL_ordersFit_172 : decode cL_ordersFit 172 = .ok (.invokevirtual 59, 3) := by decide +kernel
theorem dL_ordersFit_175 : decode cL_ordersFit 175 = .ok (.iadd, 1) := by decide +kernel
theorem dL_ordersFit_176 : decode cL_ordersFit 176 = .ok (.istore 6, 2) := by decide +kernel
theorem dL_ordersFit_178 : decode cL_ordersFit 178 = .ok (.iload 8, 2) := by decide +kernel
theorem dL_ordersFit_180 : decode cL_ordersFit 180 = .ok (.ifCond .lt 67, 3) := by decide +kernel
theorem dL_ordersFit_183 : decode cL_ordersFit 183 = .ok (.iload 8, 2) := by decide +kernel
theorem dL_ordersFit_185 : decode cL_ordersFit 185 = .ok (.iconst 3, 1) := by decide +kernel
theorem dL_ordersFit_186 : decode cL_ordersFit 186 = .ok (.if_icmp .gt 61, 3) := by decide +kernel
theorem dL_ordersFit_189 : decode cL_ordersFit 189 = .ok (.iload 8, 2) := by decide +kernel
theorem dL_ordersFit_191 : decode cL_ordersFit 191 = .ok (.iconst 2, 1) := by decide +kernel
theorem dL_ordersFit_192 : decode cL_ordersFit 192 = .ok (.if_icmp .ne 7, 3) := by decide +kernel
theorem dL_ordersFit_195 : decode cL_ordersFit 195 = .ok (.iconst 1, 1) := by decide +kernel
theorem dL_ordersFit_196 : decode cL_ordersFit 196 = .ok (.goto 4, 3) := by decide +kernel
theorem dL_ordersFit_199 : decode cL_ordersFit 199 = .ok (.iconst 0, 1) := by decide +kernel
theorem dL_ordersFit_200 : decode cL_ordersFit 200 = .ok (.iload 9, 2) := by decide +kernel
theorem dL_ordersFit_202 : decode cL_ordersFit 202 = .ok (.ifCond .lt 7, 3) := by decide +kernel
theorem dL_ordersFit_205 : decode cL_ordersFit 205 = .ok (.iconst 1, 1) := by decide +kernel
theorem dL_ordersFit_206 : decode cL_ordersFit 206 = .ok (.goto 4, 3) := by decide +kernel
theorem dL_ordersFit_209 : decode cL_ordersFit 209 = .ok (.iconst 0, 1) := by decide +kernel
theorem dL_ordersFit_210 : decode cL_ordersFit 210 = .ok (.if_icmp .ne 37, 3) := by decide +kernel
theorem dL_ordersFit_213 : decode cL_ordersFit 213 = .ok (.iload 8, 2) := by decide +kernel
theorem dL_ordersFit_215 : decode cL_ordersFit 215 = .ok (.iconst 2, 1) := by decide +kernel
theorem dL_ordersFit_216 : decode cL_ordersFit 216 = .ok (.if_icmp .ne 7, 3) := by decide +kernel
theorem dL_ordersFit_219 : decode cL_ordersFit 219 = .ok (.iconst 1, 1) := by decide +kernel
theorem dL_ordersFit_220 : decode cL_ordersFit 220 = .ok (.goto 4, 3) := by decide +kernel
theorem dL_ordersFit_223 : decode cL_ordersFit 223 = .ok (.iconst 0, 1) := by decide +kernel
theorem dL_ordersFit_224 : decode cL_ordersFit 224 = .ok (.aload_n 0, 1) := by decide +kernel
theorem dL_ordersFit_225 : decode cL_ordersFit 225 = .ok (.iload 7, 2) := by decide +kernel
theorem dL_ordersFit_227 : decode cL_ordersFit 227 = .ok (.bipush 8, 2) := by decide +kernel
theorem dL_ordersFit_229 : decode cL_ordersFit 229 = .ok (.invokevirtual 59, 3) := by decide +kernel
theorem dL_ordersFit_232 : decode cL_ordersFit 232 = .ok (.ifCond .lt 7, 3) := by decide +kernel
theorem dL_ordersFit_235 : decode cL_ordersFit 235 = .ok (.iconst 1, 1) := by decide +kernel
theorem dL_ordersFit_236 : decode cL_ordersFit 236 = .ok (.goto 4, 3) := by decide +kernel
theorem dL_ordersFit_239 : decode cL_ordersFit 239 = .ok (.iconst 0, 1) := by decide +kernel
theorem dL_ordersFit_240 : decode cL_ordersFit 240 = .ok (.if_icmp .ne 7, 3) := by decide +kernel
theorem dL_ordersFit_243 : decode cL_ordersFit 243 = .ok (.iconst 1, 1) := by decide +kernel
theorem dL_ordersFit_244 : decode cL_ordersFit 244 = .ok (.goto 4, 3) := by decide +kernel
theorem dL_ordersFit_247 : decode cL_ordersFit 247 = .ok (.iconst 0, 1) := by decide +kernel
theorem dL_ordersFit_248 : decode cL_ordersFit 248 = .ok (.istore_n 2, 1) := by decide +kernel
theorem dL_ordersFit_249 : decode cL_ordersFit 249 = .ok (.iload_n 2, 1) := by decide +kernel
theorem dL_ordersFit_250 : decode cL_ordersFit 250 = .ok (.ifCond .eq 43, 3) := by decide +kernel
theorem dL_ordersFit_253 : decode cL_ordersFit 253 = .ok (.iload 10, 2) := by decide +kernel
theorem dL_ordersFit_255 : decode cL_ordersFit 255 = .ok (.iload 7, 2) := by decide +kernel
theorem dL_ordersFit_257 : decode cL_ordersFit 257 = .ok (.if_icmp .lt 36, 3) := by decide +kernel
theorem dL_ordersFit_260 : decode cL_ordersFit 260 = .ok (.iload 10, 2) := by decide +kernel
theorem dL_ordersFit_262 : decode cL_ordersFit 262 = .ok (.iload 7, 2) := by decide +kernel
theorem dL_ordersFit_264 : decode cL_ordersFit 264 = .ok (.if_icmp .eq 9, 3) := by decide +kernel
theorem dL_ordersFit_267 : decode cL_ordersFit 267 = .ok (.iload 8, 2) := by decide +kernel
theorem dL_ordersFit_269 : decode cL_ordersFit 269 = .ok (.iconst 2, 1) := by decide +kernel
theorem dL_ordersFit_270 : decode cL_ordersFit 270 = .ok (.if_icmp .lt 23, 3) := by decide +kernel
theorem dL_ordersFit_273 : decode cL_ordersFit 273 = .ok (.aload_n 0, 1) := by decide +kernel
theorem dL_ordersFit_274 : decode cL_ordersFit 274 = .ok (.iload 7, 2) := by decide +kernel
theorem dL_ordersFit_276 : decode cL_ordersFit 276 = .ok (.bipush 7, 2) := by decide +kernel
theorem dL_ordersFit_278 : decode cL_ordersFit 278 = .ok (.invokevirtual 59, 3) := by decide +kernel
theorem dL_ordersFit_281 : decode cL_ordersFit 281 = .ok (.aload_n 0, 1) := by decide +kernel
theorem dL_ordersFit_282 : decode cL_ordersFit 282 = .ok (.iconst 5, 1) := by decide +kernel
theorem dL_ordersFit_283 : decode cL_ordersFit 283 = .ok (.invokevirtual 62, 3) := by decide +kernel
theorem dL_ordersFit_286 : decode cL_ordersFit 286 = .ok (.if_icmp .gt 7, 3) := by decide +kernel
theorem dL_ordersFit_289 : decode cL_ordersFit 289 = .ok (.iconst 1, 1) := by decide +kernel
theorem dL_ordersFit_290 : decode cL_ordersFit 290 = .ok (.goto 4, 3) := by decide +kernel
theorem dL_ordersFit_293 : decode cL_ordersFit 293 = .ok (.iconst 0, 1) := by decide +kernel
theorem dL_ordersFit_294 : decode cL_ordersFit 294 = .ok (.istore_n 2, 1) := by decide +kernel
theorem dL_ordersFit_295 : decode cL_ordersFit 295 = .ok (.iload_n 2, 1) := by decide +kernel
theorem dL_ordersFit_296 : decode cL_ordersFit 296 = .ok (.ifCond .eq 48, 3) := by decide +kernel
theorem dL_ordersFit_299 : decode cL_ordersFit 299 = .ok (.iload 8, 2) := by decide +kernel
theorem dL_ordersFit_301 : decode cL_ordersFit 301 = .ok (.iconst 2, 1) := by decide +kernel
theorem dL_ordersFit_302 : decode cL_ordersFit 302 = .ok (.if_icmp .ne 38, 3) := by decide +kernel
theorem dL_ordersFit_305 : decode cL_ordersFit 305 = .ok (.aload_n 0, 1) := by decide +kernel
theorem dL_ordersFit_306 : decode cL_ordersFit 306 = .ok (.iload 7, 2) := by decide +kernel
theorem dL_ordersFit_308 : decode cL_ordersFit 308 = .ok (.bipush 8, 2) := by decide +kernel
theorem dL_ordersFit_310 : decode cL_ordersFit 310 = .ok (.invokevirtual 59, 3) := by decide +kernel
theorem dL_ordersFit_313 : decode cL_ordersFit 313 = .ok (.aload_n 0, 1) := by decide +kernel
theorem dL_ordersFit_314 : decode cL_ordersFit 314 = .ok (.iload 7, 2) := by decide +kernel
theorem dL_ordersFit_316 : decode cL_ordersFit 316 = .ok (.bipush 7, 2) := by decide +kernel
theorem dL_ordersFit_318 : decode cL_ordersFit 318 = .ok (.invokevirtual 59, 3) := by decide +kernel
theorem dL_ordersFit_321 : decode cL_ordersFit 321 = .ok (.if_icmp .lt 23, 3) := by decide +kernel
theorem dL_ordersFit_324 : decode cL_ordersFit 324 = .ok (.aload_n 0, 1) := by decide +kernel
theorem dL_ordersFit_325 : decode cL_ordersFit 325 = .ok (.iload 7, 2) := by decide +kernel
theorem dL_ordersFit_327 : decode cL_ordersFit 327 = .ok (.bipush 8, 2) := by decide +kernel
theorem dL_ordersFit_329 : decode cL_ordersFit 329 = .ok (.invokevirtual 59, 3) := by decide +kernel
theorem dL_ordersFit_332 : decode cL_ordersFit 332 = .ok (.aload_n 0, 1) := by decide +kernel
theorem dL_ordersFit_333 : decode cL_ordersFit 333 = .ok (.iconst 5, 1) := by decide +kernel
theorem dL_ordersFit_334 : decode cL_ordersFit 334 = .ok (.invokevirtual 62, 3) := by decide +kernel
theorem dL_ordersFit_337 : decode cL_ordersFit 337 = .ok (.if_icmp .gt 7, 3) := by decide +kernel
theorem dL_ordersFit_340 : decode cL_ordersFit 340 = .ok (.iconst 1, 1) := by decide +kernel
theorem dL_ordersFit_341 : decode cL_ordersFit 341 = .ok (.goto 4, 3) := by decide +kernel
theorem dL_ordersFit_344 : decode cL_ordersFit 344 = .ok (.iconst 0, 1) := by decide +kernel
theorem dL_ordersFit_345 : decode cL_ordersFit 345 = .ok (.istore_n 2, 1) := by decide +kernel
theorem dL_ordersFit_346 : decode cL_ordersFit 346 = .ok (.iinc 7 1, 3) := by decide +kernel
theorem dL_ordersFit_349 : decode cL_ordersFit 349 = .ok (.goto (-277), 3) := by decide +kernel
theorem dL_ordersFit_352 : decode cL_ordersFit 352 = .ok (.iload_n 2, 1) := by decide +kernel
theorem dL_ordersFit_353 : decode cL_ordersFit 353 = .ok (.ifCond .eq 43, 3) := by decide +kernel
theorem dL_ordersFit_356 : decode cL_ordersFit 356 = .ok (.iload_n 3, 1) := by decide +kernel
theorem dL_ordersFit_357 : decode cL_ordersFit 357 = .ok (.ifCond .lt 13, 3) := by decide +kernel
theorem dL_ordersFit_360 : decode cL_ordersFit 360 = .ok (.aload_n 0, 1) := by decide +kernel
theorem dL_ordersFit_361 : decode cL_ordersFit 361 = .ok (.bipush 6, 2) := by decide +kernel
theorem dL_ordersFit_363 : decode cL_ordersFit 363 = .ok (.invokevirtual 62, 3) := by decide +kernel
theorem dL_ordersFit_366 : decode cL_ordersFit 366 = .ok (.iload_n 3, 1) := by decide +kernel
theorem dL_ordersFit_367 : decode cL_ordersFit 367 = .ok (.if_icmp .ne 29, 3) := by decide +kernel
theorem dL_ordersFit_370 : decode cL_ordersFit 370 = .ok (.aload_n 0, 1) := by decide +kernel
theorem dL_ordersFit_371 : decode cL_ordersFit 371 = .ok (.iconst 0, 1) := by decide +kernel
theorem dL_ordersFit_372 : decode cL_ordersFit 372 = .ok (.iconst 5, 1) := by decide +kernel
theorem dL_ordersFit_373 : decode cL_ordersFit 373 = .ok (.invokevirtual 68, 3) := by decide +kernel
theorem dL_ordersFit_376 : decode cL_ordersFit 376 = .ok (.iload 4, 2) := by decide +kernel
theorem dL_ordersFit_378 : decode cL_ordersFit 378 = .ok (.if_icmp .ne 18, 3) := by decide +kernel
theorem dL_ordersFit_381 : decode cL_ordersFit 381 = .ok (.aload_n 0, 1) := by decide +kernel
theorem dL_ordersFit_382 : decode cL_ordersFit 382 = .ok (.iconst 1, 1) := by decide +kernel
theorem dL_ordersFit_383 : decode cL_ordersFit 383 = .ok (.iconst 5, 1) := by decide +kernel
theorem dL_ordersFit_384 : decode cL_ordersFit 384 = .ok (.invokevirtual 68, 3) := by decide +kernel
theorem dL_ordersFit_387 : decode cL_ordersFit 387 = .ok (.iload 5, 2) := by decide +kernel
theorem dL_ordersFit_389 : decode cL_ordersFit 389 = .ok (.if_icmp .ne 7, 3) := by decide +kernel
theorem dL_ordersFit_392 : decode cL_ordersFit 392 = .ok (.iconst 1, 1) := by decide +kernel
theorem dL_ordersFit_393 : decode cL_ordersFit 393 = .ok (.goto 4, 3) := by decide +kernel
theorem dL_ordersFit_396 : decode cL_ordersFit 396 = .ok (.iconst 0, 1) := by decide +kernel
theorem dL_ordersFit_397 : decode cL_ordersFit 397 = .ok (.istore_n 2, 1) := by decide +kernel
theorem dL_ordersFit_398 : decode cL_ordersFit 398 = .ok (.iload_n 2, 1) := by decide +kernel
theorem dL_ordersFit_399 : decode cL_ordersFit 399 = .ok (.ifCond .eq 35, 3) := by decide +kernel
theorem dL_ordersFit_402 : decode cL_ordersFit 402 = .ok (.iload 6, 2) := by decide +kernel
theorem dL_ordersFit_404 : decode cL_ordersFit 404 = .ok (.aload_n 0, 1) := by decide +kernel
theorem dL_ordersFit_405 : decode cL_ordersFit 405 = .ok (.iconst 0, 1) := by decide +kernel
theorem dL_ordersFit_406 : decode cL_ordersFit 406 = .ok (.bipush 6, 2) := by decide +kernel
theorem dL_ordersFit_408 : decode cL_ordersFit 408 = .ok (.invokevirtual 68, 3) := by decide +kernel
theorem dL_ordersFit_411 : decode cL_ordersFit 411 = .ok (.aload_n 0, 1) := by decide +kernel
theorem dL_ordersFit_412 : decode cL_ordersFit 412 = .ok (.iconst 1, 1) := by decide +kernel
theorem dL_ordersFit_413 : decode cL_ordersFit 413 = .ok (.bipush 6, 2) := by decide +kernel
theorem dL_ordersFit_415 : decode cL_ordersFit 415 = .ok (.invokevirtual 68, 3) := by decide +kernel
theorem dL_ordersFit_418 : decode cL_ordersFit 418 = .ok (.iadd, 1) := by decide +kernel
theorem dL_ordersFit_419 : decode cL_ordersFit 419 = .ok (.if_icmp .ne 15, 3) := by decide +kernel
theorem dL_ordersFit_422 : decode cL_ordersFit 422 = .ok (.aload_n 0, 1) := by decide +kernel
theorem dL_ordersFit_423 : decode cL_ordersFit 423 = .ok (.iload_n 1, 1) := by decide +kernel
theorem dL_ordersFit_424 : decode cL_ordersFit 424 = .ok (.invokestatic 71, 3) := by decide +kernel
theorem dL_ordersFit_427 : decode cL_ordersFit 427 = .ok (.ifCond .eq 7, 3) := by decide +kernel
theorem dL_ordersFit_430 : decode cL_ordersFit 430 = .ok (.iconst 1, 1) := by decide +kernel
theorem dL_ordersFit_431 : decode cL_ordersFit 431 = .ok (.goto 4, 3) := by decide +kernel
theorem dL_ordersFit_434 : decode cL_ordersFit 434 = .ok (.iconst 0, 1) := by decide +kernel
theorem dL_ordersFit_435 : decode cL_ordersFit 435 = .ok (.ireturn, 1) := by decide +kernel
set_option maxRecDepth 20000 in
theorem ggL_waitsFit_X6_waitsFor : GoodIn wsL_waitsFit wsX6_waitsFor := goodIn_ca (goodIn_ca (goodIn_ca (goodIn_r _ [5, 6, 7, 8, 9, 10, 11, 12, 13, 14, 4, 15, 16, 17, 18, 19, 20, 21, 22, 23, 24, 25, 26, 27, 28, 29, 30, 31, 32, 33, 34, 35, 36, 37, 38, 39, 40, 41, 42, 43, 77, 78, 79, 80, 81, 82, 83, 84, 85, 86, 87, 88, 89, 90] (by decide +kernel) (by decide +kernel)) (goodIn_sub (fun _ h => List.mem_cons_of_mem _ (List.mem_append_left _ (List.mem_append_left _ (List.mem_append_right _ h)))) (by decide +kernel))) (goodIn_sub (fun _ h => List.mem_cons_of_mem _ (List.mem_append_left _ (List.mem_append_right _ h))) (by decide +kernel))) (goodIn_sub (fun _ h => List.mem_cons_of_mem _ (List.mem_append_right _ h)) (by decide +kernel))
set_option maxRecDepth 20000 in
theorem gL_waitsFit_X6_waitsFor : GoodIn wsL_waitsFit (wsV RL 75 RX6 yX6_waitsFor wsX6_waitsFor) := goodIn_app (goodIn_of _ (by decide +kernel)) ggL_waitsFit_X6_waitsFor
set_option maxRecDepth 20000 in
theorem ggL_waitsFit_X6_depth : GoodIn wsL_waitsFit wsX6_depth := goodIn_ca (goodIn_ca (goodIn_ca (goodIn_r _ [47, 6, 48, 7, 8, 9, 10, 11, 12, 13, 14, 4, 15, 16, 17, 18, 19, 20, 21, 49, 50, 51, 52, 53, 54, 55, 56, 26, 27, 28, 29, 30, 31, 32, 33, 34, 35, 36, 37, 38, 39, 40, 41, 42, 43, 57, 58, 59, 60, 61, 77, 78, 79, 80, 81, 82, 83, 84, 85, 86, 87, 88, 89, 90] (by decide +kernel) (by decide +kernel)) (goodIn_sub (fun _ h => List.mem_cons_of_mem _ (List.mem_append_left _ (List.mem_append_left _ (List.mem_append_right _ h)))) (by decide +kernel))) (goodIn_sub (fun _ h => List.mem_cons_of_mem _ (List.mem_append_left _ (List.mem_append_right _ h))) (by decide +kernel))) (goodIn_sub (fun _ h => List.mem_cons_of_mem _ (List.mem_append_right _ h)) (by decide +kernel))
set_option maxRecDepth 20000 in
theorem gL_waitsFit_X6_depth : GoodIn wsL_waitsFit (wsV RL 78 RX6 yX6_depth wsX6_depth) := goodIn_app (goodIn_of _ (by decide +kernel)) ggL_waitsFit_X6_depth
set_option maxRecDepth 20000 in
theorem ggL_waitsFit_L_isOpen : GoodIn wsL_waitsFit wsL_isOpen := goodIn_ca (goodIn_ca (goodIn_ca (goodIn_r _ [65, 66, 67, 68, 4, 69, 6, 7, 8, 9, 10, 11, 12, 13, 14, 15, 16, 17, 18, 19, 20, 21, 70, 71, 72, 73, 74, 75, 76, 31, 32, 33, 34, 77, 78, 79, 80, 81, 82, 83, 84, 85, 86, 87, 88, 89, 90] (by decide +kernel) (by decide +kernel)) (goodIn_sub (fun _ h => List.mem_cons_of_mem _ (List.mem_append_left _ (List.mem_append_left _ (List.mem_append_right _ h)))) (by decide +kernel))) (goodIn_sub (fun _ h => List.mem_cons_of_mem _ (List.mem_append_left _ (List.mem_append_right _ h))) (by decide +kernel))) (goodIn_sub (fun _ h => List.mem_cons_of_mem _ (List.mem_append_right _ h)) (by decide +kernel))
set_option maxRecDepth 20000 in
theorem gL_waitsFit_L_isOpen : GoodIn wsL_waitsFit (va_wsS RL 81 yL_isOpen wsL_isOpen) := goodIn_app (goodIn_of _ (by decide +kernel)) ggL_waitsFit_L_isOpen
theorem dL_waitsFit_0 : decode cL_waitsFit 0 = .ok (.iconst 1, 1) := by decide +kernel
theorem dL_waitsFit_1 : decode cL_waitsFit 1 = .ok (.istore_n 2, 1) := by decide +kernel
theorem dL_waitsFit_2 : decode cL_waitsFit 2 = .ok (.iconst 0, 1) := by decide +kernel
theorem dL_waitsFit_3 : decode cL_waitsFit 3 = .ok (.istore_n 3, 1) := by decide +kernel
theorem dL_waitsFit_4 : decode cL_waitsFit 4 = .ok (.iload_n 3, 1) := by decide +kernel
theorem dL_waitsFit_5 : decode cL_waitsFit 5 = .ok (.iload_n 1, 1) := by decide +kernel
theorem dL_waitsFit_6 : decode cL_waitsFit 6 = .ok (.if_icmp .ge 129, 3) := by decide +kernel
theorem dL_waitsFit_9 : decode cL_waitsFit 9 = .ok (.iload_n 2, 1) := by decide +kernel
theorem dL_waitsFit_10 : decode cL_waitsFit 10 = .ok (.ifCond .eq 125, 3) := by decide +kernel
theorem dL_waitsFit_13 : decode cL_waitsFit 13 = .ok (.aload_n 0, 1) := by decide +kernel
theorem dL_waitsFit_14 : decode cL_waitsFit 14 = .ok (.iload_n 3, 1) := by decide +kernel
theorem dL_waitsFit_15 : decode cL_waitsFit 15 = .ok (.invokevirtual 75, 3) := by decide +kernel
theorem dL_waitsFit_18 : decode cL_waitsFit 18 = .ok (.istore 4, 2) := by decide +kernel
theorem dL_waitsFit_20 : decode cL_waitsFit 20 = .ok (.aload_n 0, 1) := by decide +kernel
theorem dL_waitsFit_21 : decode cL_waitsFit 21 = .ok (.iload_n 3, 1) := by decide +kernel
theorem dL_waitsFit_22 : decode cL_waitsFit 22 = .ok (.invokevirtual 78, 3) := by decide +kernel
theorem dL_waitsFit_25 : decode cL_waitsFit 25 = .ok (.istore 5, 2) := by decide +kernel
theorem dL_waitsFit_27 : decode cL_waitsFit 27 = .ok (.aload_n 0, 1) := by decide +kernel
theorem dL_waitsFit_28 : decode cL_waitsFit 28 = .ok (.iload_n 3, 1) := by decide +kernel
theorem dL_waitsFit_29 : decode cL_waitsFit 29 = .ok (.invokestatic 81, 3) := by decide +kernel
theorem dL_waitsFit_32 : decode cL_waitsFit 32 = .ok (.istore 6, 2) := by decide +kernel
theorem dL_waitsFit_34 : decode cL_waitsFit 34 = .ok (.iload 6, 2) := by decide +kernel
theorem dL_waitsFit_36 : decode cL_waitsFit 36 = .ok (.ifCond .eq 34, 3) := by decide +kernel
theorem dL_waitsFit_39 : decode cL_waitsFit 39 = .ok (.iload 4, 2) := by decide +kernel
theorem dL_waitsFit_41 : decode cL_waitsFit 41 = .ok (.ifCond .ge 7, 3) := by decide +kernel
theorem dL_waitsFit_44 : decode cL_waitsFit 44 = .ok (.iconst 1, 1) := by decide +kernel
theorem dL_waitsFit_45 : decode cL_waitsFit 45 = .ok (.goto 4, 3) := by decide +kernel
theorem dL_waitsFit_48 : decode cL_waitsFit 48 = .ok (.iconst 0, 1) := by decide +kernel
theorem dL_waitsFit_49 : decode cL_waitsFit 49 = .ok (.iload 5, 2) := by decide +kernel
theorem dL_waitsFit_51 : decode cL_waitsFit 51 = .ok (.ifCond .ne 7, 3) := by decide +kernel
theorem dL_waitsFit_54 : decode cL_waitsFit 54 = .ok (.iconst 1, 1) := by decide +kernel
theorem dL_waitsFit_55 : decode cL_waitsFit 55 = .ok (.goto 4, 3) := by decide +kernel
theorem dL_waitsFit_58 : decode cL_waitsFit 58 = .ok (.iconst 0, 1) := by decide +kernel
theorem dL_waitsFit_59 : decode cL_waitsFit 59 = .ok (.if_icmp .ne 7, 3) := by decide +kernel
theorem dL_waitsFit_62 : decode cL_waitsFit 62 = .ok (.iconst 1, 1) := by decide +kernel
theorem dL_waitsFit_63 : decode cL_waitsFit 63 = .ok (.goto 24, 3) := by decide +kernel
theorem dL_waitsFit_66 : decode cL_waitsFit 66 = .ok (.iconst 0, 1) := by decide +kernel
theorem dL_waitsFit_67 : decode cL_waitsFit 67 = .ok (.goto 20, 3) := by decide +kernel
theorem dL_waitsFit_70 : decode cL_waitsFit 70 = .ok (.iload 4, 2) := by decide +kernel
theorem dL_waitsFit_72 : decode cL_waitsFit 72 = .ok (.iconst (-1), 1) := by decide +kernel
theorem dL_waitsFit_73 : decode cL_waitsFit 73 = .ok (.if_icmp .ne 13, 3) := by decide +kernel
theorem dL_waitsFit_76 : decode cL_waitsFit 76 = .ok (.iload 5, 2) := by decide +kernel
theorem dL_waitsFit_78 : decode cL_waitsFit 78 = .ok (.iconst (-1), 1) := by decide +kernel
theorem dL_waitsFit_79 : decode cL_waitsFit 79 = .ok (.if_icmp .ne 7, 3) := by decide +kernel
theorem dL_waitsFit_82 : decode cL_waitsFit 82 = .ok (.iconst 1, 1) := by decide +kernel
theorem dL_waitsFit_83 : decode cL_waitsFit 83 = .ok (.goto 4, 3) := by decide +kernel
theorem dL_waitsFit_86 : decode cL_waitsFit 86 = .ok (.iconst 0, 1) := by decide +kernel
theorem dL_waitsFit_87 : decode cL_waitsFit 87 = .ok (.istore_n 2, 1) := by decide +kernel
theorem dL_waitsFit_88 : decode cL_waitsFit 88 = .ok (.iload_n 2, 1) := by decide +kernel
theorem dL_waitsFit_89 : decode cL_waitsFit 89 = .ok (.ifCond .eq 38, 3) := by decide +kernel
theorem dL_waitsFit_92 : decode cL_waitsFit 92 = .ok (.iload 4, 2) := by decide +kernel
theorem dL_waitsFit_94 : decode cL_waitsFit 94 = .ok (.ifCond .lt 29, 3) := by decide +kernel
theorem dL_waitsFit_97 : decode cL_waitsFit 97 = .ok (.iload 4, 2) := by decide +kernel
theorem dL_waitsFit_99 : decode cL_waitsFit 99 = .ok (.iload_n 3, 1) := by decide +kernel
theorem dL_waitsFit_100 : decode cL_waitsFit 100 = .ok (.if_icmp .ge 27, 3) := by decide +kernel
theorem dL_waitsFit_103 : decode cL_waitsFit 103 = .ok (.aload_n 0, 1) := by decide +kernel
theorem dL_waitsFit_104 : decode cL_waitsFit 104 = .ok (.iload 4, 2) := by decide +kernel
theorem dL_waitsFit_106 : decode cL_waitsFit 106 = .ok (.invokestatic 81, 3) := by decide +kernel
theorem dL_waitsFit_109 : decode cL_waitsFit 109 = .ok (.ifCond .eq 18, 3) := by decide +kernel
theorem dL_waitsFit_112 : decode cL_waitsFit 112 = .ok (.iload 5, 2) := by decide +kernel
theorem dL_waitsFit_114 : decode cL_waitsFit 114 = .ok (.aload_n 0, 1) := by decide +kernel
theorem dL_waitsFit_115 : decode cL_waitsFit 115 = .ok (.iload 4, 2) := by decide +kernel
theorem dL_waitsFit_117 : decode cL_waitsFit 117 = .ok (.invokevirtual 78, 3) := by decide +kernel
theorem dL_waitsFit_120 : decode cL_waitsFit 120 = .ok (.if_icmp .le 7, 3) := by decide +kernel
theorem dL_waitsFit_123 : decode cL_waitsFit 123 = .ok (.iconst 1, 1) := by decide +kernel
theorem dL_waitsFit_124 : decode cL_waitsFit 124 = .ok (.goto 4, 3) := by decide +kernel
theorem dL_waitsFit_127 : decode cL_waitsFit 127 = .ok (.iconst 0, 1) := by decide +kernel
theorem dL_waitsFit_128 : decode cL_waitsFit 128 = .ok (.istore_n 2, 1) := by decide +kernel
theorem dL_waitsFit_129 : decode cL_waitsFit 129 = .ok (.iinc 3 1, 3) := by decide +kernel
theorem dL_waitsFit_132 : decode cL_waitsFit 132 = .ok (.goto (-128), 3) := by decide +kernel
theorem dL_waitsFit_135 : decode cL_waitsFit 135 = .ok (.iload_n 2, 1) := by decide +kernel
theorem dL_waitsFit_136 : decode cL_waitsFit 136 = .ok (.ireturn, 1) := by decide +kernel
set_option maxRecDepth 20000 in
theorem ggL_mailFits_X6_controller : GoodIn wsL_mailFits wsX6_controller := goodIn_ca (goodIn_ca (goodIn_ca (goodIn_r _ [5, 6, 7, 8, 4, 9, 10, 11, 12, 13, 14, 15, 16, 17, 18, 19, 20, 21, 22, 23, 24, 25, 26, 27, 28, 29, 30, 31, 32, 33, 34, 35, 36, 37, 38, 39, 40, 41, 42, 43, 44, 45, 46, 47, 48, 49, 50, 51, 52, 53, 54, 55, 56, 57, 58, 59, 60, 61, 62, 63, 64, 65, 66, 67, 68, 69, 70, 71, 72, 73, 74, 75, 76, 77, 78, 176, 177, 178, 179, 180, 181, 182, 183, 184, 185, 186, 187, 188, 189, 190, 191, 192, 193, 194, 195, 196, 197] (by decide +kernel) (by decide +kernel)) (goodIn_sub (fun _ h => List.mem_cons_of_mem _ (List.mem_append_left _ (List.mem_append_left _ (List.mem_append_right _ h)))) (by decide +kernel))) (goodIn_sub (fun _ h => List.mem_cons_of_mem _ (List.mem_append_left _ (List.mem_append_right _ h))) (by decide +kernel))) (goodIn_sub (fun _ h => List.mem_cons_of_mem _ (List.mem_append_right _ h)) (by decide +kernel))
set_option maxRecDepth 20000 in
theorem gL_mailFits_X6_controller : GoodIn wsL_mailFits (wsV RL 68 RX6 yX6_controller wsX6_controller) := goodIn_app (goodIn_of _ (by decide +kernel)) ggL_mailFits_X6_controller
set_option maxRecDepth 20000 in
theorem ggL_mailFits_X6_whole : GoodIn wsL_mailFits wsX6_whole := goodIn_ca (goodIn_ca (goodIn_ca (goodIn_r _ [82, 22, 23, 4, 24, 10, 11, 12, 13, 14, 15, 16, 17, 18, 19, 20, 21, 83, 84, 85, 86, 87, 88, 6, 89, 90, 91, 28, 92, 34, 39, 93, 94, 44, 95, 45, 96, 97, 98, 99, 100, 52, 53, 54, 55, 56, 101, 102, 103, 104, 105, 106, 107, 176, 177, 178, 179, 180, 181, 198, 199, 200, 201, 202, 182, 183, 184, 185, 186, 187, 188, 189, 190, 191, 192, 193, 194, 195, 196, 197] (by decide +kernel) (by decide +kernel)) (goodIn_sub (fun _ h => List.mem_cons_of_mem _ (List.mem_append_left _ (List.mem_append_left _ (List.mem_append_right _ h)))) (by decide +kernel))) (goodIn_sub (fun _ h => List.mem_cons_of_mem _ (List.mem_append_left _ (List.mem_append_right _ h))) (by decide +kernel))) (goodIn_sub (fun _ h => List.mem_cons_of_mem _ (List.mem_append_right _ h)) (by decide +kernel))
set_option maxRecDepth 20000 in
theorem gL_mailFits_X6_whole : GoodIn wsL_mailFits (wsV RL 62 RX6 yX6_whole wsX6_whole) := goodIn_app (goodIn_of _ (by decide +kernel)) ggL_mailFits_X6_whole
set_option maxRecDepth 20000 in
theorem ggL_mailFits_X6_mail : GoodIn wsL_mailFits wsX6_mail := goodIn_ca (goodIn_ca (goodIn_ca (goodIn_r _ [111, 6, 7, 8, 4, 9, 10, 11, 12, 13, 14, 15, 16, 17, 18, 19, 20, 21, 112, 113, 114, 28, 115, 34, 40, 41, 42, 43, 44, 45, 46, 47, 48, 49, 50, 51, 176, 177, 178, 179, 180, 181, 182, 183, 184, 185, 186, 187, 188, 189, 190, 191, 192, 193, 194, 195, 196, 197] (by decide +kernel) (by decide +kernel)) (goodIn_sub (fun _ h => List.mem_cons_of_mem _ (List.mem_append_left _ (List.mem_append_left _ (List.mem_append_right _ h)))) (by decide +kernel))) (goodIn_sub (fun _ h => List.mem_cons_of_mem _ (List.mem_append_left _ (List.mem_append_right _ h))) (by decide +kernel))) (goodIn_sub (fun _ h => List.mem_cons_of_mem _ (List.mem_append_right _ h)) (by decide +kernel))
set_option maxRecDepth 20000 in
theorem gL_mailFits_X6_mail : GoodIn wsL_mailFits (wsV RL 84 RX6 yX6_mail wsX6_mail) := goodIn_app (goodIn_of _ (by decide +kernel)) ggL_mailFits_X6_mail
set_option maxRecDepth 20000 in
theorem ggL_mailFits_X6_nextFor : GoodIn wsL_mailFits wsX6_nextFor := goodIn_ca (goodIn_ca (goodIn_ca (goodIn_r _ [119, 6, 7, 8, 4, 9, 10, 11, 12, 13, 14, 15, 16, 17, 18, 19, 20, 21, 120, 121, 122, 28, 123, 93, 124, 125, 126, 127, 52, 53, 54, 55, 56, 128, 129, 130, 131, 34, 132, 133, 134, 135, 136, 137, 138, 139, 140, 35, 36, 37, 38, 39, 40, 41, 42, 43, 44, 45, 46, 47, 48, 49, 50, 51, 176, 177, 178, 179, 180, 181, 182, 183, 184, 185, 186, 187, 188, 189, 190, 191, 192, 193, 194, 195, 196, 197] (by decide +kernel) (by decide +kernel)) (goodIn_sub (fun _ h => List.mem_cons_of_mem _ (List.mem_append_left _ (List.mem_append_left _ (List.mem_append_right _ h)))) (by decide +kernel))) (goodIn_sub (fun _ h => List.mem_cons_of_mem _ (List.mem_append_left _ (List.mem_append_right _ h))) (by decide +kernel))) (goodIn_sub (fun _ h => List.mem_cons_of_mem _ (List.mem_append_right _ h)) (by decide +kernel))
set_option maxRecDepth 20000 in
theorem gL_mailFits_X6_nextFor : GoodIn wsL_mailFits (wsV RL 87 RX6 yX6_nextFor wsX6_nextFor) := goodIn_app (goodIn_of _ (by decide +kernel)) ggL_mailFits_X6_nextFor
set_option maxRecDepth 20000 in
theorem ggL_mailFits_X6_reason : GoodIn wsL_mailFits wsX6_reason := goodIn_ca (goodIn_ca (goodIn_ca (goodIn_r _ [144, 6, 7, 8, 4, 9, 10, 11, 12, 13, 14, 15, 16, 17, 18, 19, 20, 21, 145, 146, 147, 28, 148, 34, 149, 150, 151, 152, 153, 121, 122, 123, 93, 124, 125, 126, 127, 52, 53, 54, 55, 56, 128, 129, 130, 131, 132, 133, 134, 135, 136, 137, 138, 139, 140, 35, 36, 37, 38, 39, 40, 41, 42, 43, 44, 45, 46, 47, 48, 49, 50, 51, 154, 155, 156, 157, 158, 159, 160, 161, 176, 177, 178, 179, 180, 181, 182, 183, 184, 185, 186, 187, 188, 189, 190, 191, 192, 193, 194, 195, 196, 197] (by decide +kernel) (by decide +kernel)) (goodIn_sub (fun _ h => List.mem_cons_of_mem _ (List.mem_append_left _ (List.mem_append_left _ (List.mem_append_right _ h)))) (by decide +kernel))) (goodIn_sub (fun _ h => List.mem_cons_of_mem _ (List.mem_append_left _ (List.mem_append_right _ h))) (by decide +kernel))) (goodIn_sub (fun _ h => List.mem_cons_of_mem _ (List.mem_append_right _ h)) (by decide +kernel))
set_option maxRecDepth 20000 in
theorem gL_mailFits_X6_reason : GoodIn wsL_mailFits (wsV RL 90 RX6 yX6_reason wsX6_reason) := goodIn_app (goodIn_of _ (by decide +kernel)) ggL_mailFits_X6_reason
set_option maxRecDepth 20000 in
theorem ggL_mailFits_L_isOpen : GoodIn wsL_mailFits wsL_isOpen := goodIn_ca (goodIn_ca (goodIn_ca (goodIn_r _ [165, 166, 167, 168, 4, 169, 6, 145, 146, 147, 28, 148, 34, 13, 14, 15, 16, 17, 18, 19, 20, 21, 22, 23, 24, 10, 11, 12, 170, 53, 54, 55, 56, 176, 177, 178, 179, 180, 181, 182, 183, 184, 185, 186, 187, 188, 189] (by decide +kernel) (by decide +kernel)) (goodIn_sub (fun _ h => List.mem_cons_of_mem _ (List.mem_append_left _ (List.mem_append_left _ (List.mem_append_right _ h)))) (by decide +kernel))) (goodIn_sub (fun _ h => List.mem_cons_of_mem _ (List.mem_append_left _ (List.mem_append_right _ h))) (by decide +kernel))) (goodIn_sub (fun _ h => List.mem_cons_of_mem _ (List.mem_append_right _ h)) (by decide +kernel))
set_option maxRecDepth 20000 in
theorem gL_mailFits_L_isOpen : GoodIn wsL_mailFits (va_wsS RL 81 yL_isOpen wsL_isOpen) := goodIn_app (goodIn_of _ (by decide +kernel)) ggL_mailFits_L_isOpen
set_option maxRecDepth 20000 in
theorem ggL_mailFits_X6_waitsFor : GoodIn wsL_mailFits wsX6_waitsFor := goodIn_ca (goodIn_ca (goodIn_ca (goodIn_r _ [174, 6, 145, 146, 147, 28, 148, 34, 13, 14, 4, 15, 16, 17, 18, 19, 20, 21, 175, 155, 156, 157, 132, 133, 134, 135, 52, 53, 54, 55, 56, 158, 159, 160, 161, 136, 137, 138, 139, 140, 176, 177, 178, 179, 180, 181, 182, 183, 184, 185, 186, 187, 188, 189] (by decide +kernel) (by decide +kernel)) (goodIn_sub (fun _ h => List.mem_cons_of_mem _ (List.mem_append_left _ (List.mem_append_left _ (List.mem_append_right _ h)))) (by decide +kernel))) (goodIn_sub (fun _ h => List.mem_cons_of_mem _ (List.mem_append_left _ (List.mem_append_right _ h))) (by decide +kernel))) (goodIn_sub (fun _ h => List.mem_cons_of_mem _ (List.mem_append_right _ h)) (by decide +kernel))
set_option maxRecDepth 20000 in
theorem gL_mailFits_X6_waitsFor : GoodIn wsL_mailFits (wsV RL 75 RX6 yX6_waitsFor wsX6_waitsFor) := goodIn_app (goodIn_of _ (by decide +kernel)) ggL_mailFits_X6_waitsFor
theorem dL_mailFits_0 : decode cL_mailFits 0 = .ok (.aload_n 0, 1) := by decide +kernel
theorem dL_mailFits_1 : decode cL_mailFits 1 = .ok (.iload_n 1, 1) := by decide +kernel
theorem dL_mailFits_2 : decode cL_mailFits 2 = .ok (.iconst 3, 1) := by decide +kernel
theorem dL_mailFits_3 : decode cL_mailFits 3 = .ok (.invokevirtual 68, 3) := by decide +kernel
theorem dL_mailFits_6 : decode cL_mailFits 6 = .ok (.istore_n 2, 1) := by decide +kernel
theorem dL_mailFits_7 : decode cL_mailFits 7 = .ok (.aload_n 0, 1) := by decide +kernel
theorem dL_mailFits_8 : decode cL_mailFits 8 = .ok (.iload_n 1, 1) := by decide +kernel
theorem dL_mailFits_9 : decode cL_mailFits 9 = .ok (.iconst 4, 1) := by decide +kernel
theorem dL_mailFits_10 : decode cL_mailFits 10 = .ok (.invokevirtual 68, 3) := by decide +kernel
theorem dL_mailFits_13 : decode cL_mailFits 13 = .ok (.istore_n 3, 1) := by decide +kernel
theorem dL_mailFits_14 : decode cL_mailFits 14 = .ok (.iload_n 2, 1) := by decide +kernel
theorem dL_mailFits_15 : decode cL_mailFits 15 = .ok (.ifCond .lt 35, 3) := by decide +kernel
theorem dL_mailFits_18 : decode cL_mailFits 18 = .ok (.iload_n 2, 1) := by decide +kernel
theorem dL_mailFits_19 : decode cL_mailFits 19 = .ok (.aload_n 0, 1) := by decide +kernel
theorem dL_mailFits_20 : decode cL_mailFits 20 = .ok (.iconst 0, 1) := by decide +kernel
theorem dL_mailFits_21 : decode cL_mailFits 21 = .ok (.invokevirtual 62, 3) := by decide +kernel
theorem dL_mailFits_24 : decode cL_mailFits 24 = .ok (.if_icmp .gt 26, 3) := by decide +kernel
theorem dL_mailFits_27 : decode cL_mailFits 27 = .ok (.iload_n 3, 1) := by decide +kernel
theorem dL_mailFits_28 : decode cL_mailFits 28 = .ok (.ifCond .lt 22, 3) := by decide +kernel
theorem dL_mailFits_31 : decode cL_mailFits 31 = .ok (.iload_n 3, 1) := by decide +kernel
theorem dL_mailFits_32 : decode cL_mailFits 32 = .ok (.iload_n 2, 1) := by decide +kernel
theorem dL_mailFits_33 : decode cL_mailFits 33 = .ok (.if_icmp .gt 17, 3) := by decide +kernel
theorem dL_mailFits_36 : decode cL_mailFits 36 = .ok (.aload_n 0, 1) := by decide +kernel
theorem dL_mailFits_37 : decode cL_mailFits 37 = .ok (.iload_n 1, 1) := by decide +kernel
theorem dL_mailFits_38 : decode cL_mailFits 38 = .ok (.iload_n 2, 1) := by decide +kernel
theorem dL_mailFits_39 : decode cL_mailFits 39 = .ok (.invokevirtual 84, 3) := by decide +kernel
theorem dL_mailFits_42 : decode cL_mailFits 42 = .ok (.iconst (-1), 1) := by decide +kernel
theorem dL_mailFits_43 : decode cL_mailFits 43 = .ok (.if_icmp .ne 7, 3) := by decide +kernel
theorem dL_mailFits_46 : decode cL_mailFits 46 = .ok (.iconst 1, 1) := by decide +kernel
theorem dL_mailFits_47 : decode cL_mailFits 47 = .ok (.goto 4, 3) := by decide +kernel
theorem dL_mailFits_50 : decode cL_mailFits 50 = .ok (.iconst 0, 1) := by decide +kernel
theorem dL_mailFits_51 : decode cL_mailFits 51 = .ok (.istore 4, 2) := by decide +kernel
theorem dL_mailFits_53 : decode cL_mailFits 53 = .ok (.iconst 0, 1) := by decide +kernel
theorem dL_mailFits_54 : decode cL_mailFits 54 = .ok (.istore 5, 2) := by decide +kernel
theorem dL_mailFits_56 : decode cL_mailFits 56 = .ok (.iload 5, 2) := by decide +kernel
theorem dL_mailFits_58 : decode cL_mailFits 58 = .ok (.iload_n 2, 1) := by decide +kernel
theorem dL_mailFits_59 : decode cL_mailFits 59 = .ok (.if_icmp .ge 64, 3) := by decide +kernel
theorem dL_mailFits_62 : decode cL_mailFits 62 = .ok (.iload 4, 2) := by decide +kernel
theorem dL_mailFits_64 : decode cL_mailFits 64 = .ok (.ifCond .eq 59, 3) := by decide +kernel
theorem dL_mailFits_67 : decode cL_mailFits 67 = .ok (.aload_n 0, 1) := by decide +kernel
theorem dL_mailFits_68 : decode cL_mailFits 68 = .ok (.iload_n 1, 1) := by decide +kernel
theorem dL_mailFits_69 : decode cL_mailFits 69 = .ok (.iload 5, 2) := by decide +kernel
theorem dL_mailFits_71 : decode cL_mailFits 71 = .ok (.invokevirtual 84, 3) := by decide +kernel
theorem dL_mailFits_74 : decode cL_mailFits 74 = .ok (.istore 6, 2) := by decide +kernel
theorem dL_mailFits_76 : decode cL_mailFits 76 = .ok (.iload 6, 2) := by decide +kernel
theorem dL_mailFits_78 : decode cL_mailFits 78 = .ok (.ifCond .lt 36, 3) := by decide +kernel
theorem dL_mailFits_81 : decode cL_mailFits 81 = .ok (.iload 6, 2) := by decide +kernel
theorem dL_mailFits_83 : decode cL_mailFits 83 = .ok (.aload_n 0, 1) := by decide +kernel
theorem dL_mailFits_84 : decode cL_mailFits 84 = .ok (.iconst 0, 1) := by decide +kernel
theorem dL_mailFits_85 : decode cL_mailFits 85 = .ok (.invokevirtual 62, 3) := by decide +kernel
theorem dL_mailFits_88 : decode cL_mailFits 88 = .ok (.if_icmp .ge 26, 3) := by decide +kernel
theorem dL_mailFits_91 : decode cL_mailFits 91 = .ok (.iload 5, 2) := by decide +kernel
theorem dL_mailFits_93 : decode cL_mailFits 93 = .ok (.ifCond .eq 17, 3) := by decide +kernel
theorem dL_mailFits_96 : decode cL_mailFits 96 = .ok (.aload_n 0, 1) := by decide +kernel
theorem dL_mailFits_97 : decode cL_mailFits 97 = .ok (.iload_n 1, 1) := by decide +kernel
theorem dL_mailFits_98 : decode cL_mailFits 98 = .ok (.iload 5, 2) := by decide +kernel
theorem dL_mailFits_100 : decode cL_mailFits 100 = .ok (.iconst 1, 1) := by decide +kernel
theorem dL_mailFits_101 : decode cL_mailFits 101 = .ok (.isub, 1) := by decide +kernel
theorem dL_mailFits_102 : decode cL_mailFits 102 = .ok (.invokevirtual 84, 3) := by decide +kernel
theorem dL_mailFits_105 : decode cL_mailFits 105 = .ok (.iload 6, 2) := by decide +kernel
theorem dL_mailFits_107 : decode cL_mailFits 107 = .ok (.if_icmp .ge 7, 3) := by decide +kernel
theorem dL_mailFits_110 : decode cL_mailFits 110 = .ok (.iconst 1, 1) := by decide +kernel
theorem dL_mailFits_111 : decode cL_mailFits 111 = .ok (.goto 4, 3) := by decide +kernel
theorem dL_mailFits_114 : decode cL_mailFits 114 = .ok (.iconst 0, 1) := by decide +kernel
theorem dL_mailFits_115 : decode cL_mailFits 115 = .ok (.istore 4, 2) := by decide +kernel
theorem dL_mailFits_117 : decode cL_mailFits 117 = .ok (.iinc 5 1, 3) := by decide +kernel
theorem dL_mailFits_120 : decode cL_mailFits 120 = .ok (.goto (-64), 3) := by decide +kernel
theorem dL_mailFits_123 : decode cL_mailFits 123 = .ok (.aload_n 0, 1) := by decide +kernel
theorem dL_mailFits_124 : decode cL_mailFits 124 = .ok (.iload_n 1, 1) := by decide +kernel
theorem dL_mailFits_125 : decode cL_mailFits 125 = .ok (.invokevirtual 87, 3) := by decide +kernel
theorem dL_mailFits_128 : decode cL_mailFits 128 = .ok (.istore 5, 2) := by decide +kernel
theorem dL_mailFits_130 : decode cL_mailFits 130 = .ok (.iconst 0, 1) := by decide +kernel
theorem dL_mailFits_131 : decode cL_mailFits 131 = .ok (.istore 6, 2) := by decide +kernel
theorem dL_mailFits_133 : decode cL_mailFits 133 = .ok (.iconst 0, 1) := by decide +kernel
theorem dL_mailFits_134 : decode cL_mailFits 134 = .ok (.istore 7, 2) := by decide +kernel
theorem dL_mailFits_136 : decode cL_mailFits 136 = .ok (.iload 7, 2) := by decide +kernel
theorem dL_mailFits_138 : decode cL_mailFits 138 = .ok (.aload_n 0, 1) := by decide +kernel
theorem dL_mailFits_139 : decode cL_mailFits 139 = .ok (.iconst 0, 1) := by decide +kernel
theorem dL_mailFits_140 : decode cL_mailFits 140 = .ok (.invokevirtual 62, 3) := by decide +kernel
theorem dL_mailFits_143 : decode cL_mailFits 143 = .ok (.if_icmp .ge 140, 3) := by decide +kernel
theorem dL_mailFits_146 : decode cL_mailFits 146 = .ok (.iload 4, 2) := by decide +kernel
theorem dL_mailFits_148 : decode cL_mailFits 148 = .ok (.ifCond .eq 135, 3) := by decide +kernel
theorem dL_mailFits_151 : decode cL_mailFits 151 = .ok (.aload_n 0, 1) := by decide +kernel
theorem dL_mailFits_152 : decode cL_mailFits 152 = .ok (.iload_n 1, 1) := by decide +kernel
theorem dL_mailFits_153 : decode cL_mailFits 153 = .ok (.iload 7, 2) := by decide +kernel
theorem dL_mailFits_155 : decode cL_mailFits 155 = .ok (.invokevirtual 90, 3) := by decide +kernel
theorem dL_mailFits_158 : decode cL_mailFits 158 = .ok (.istore 8, 2) := by decide +kernel
theorem dL_mailFits_160 : decode cL_mailFits 160 = .ok (.iload 6, 2) := by decide +kernel
theorem dL_mailFits_162 : decode cL_mailFits 162 = .ok (.iload 8, 2) := by decide +kernel
theorem dL_mailFits_164 : decode cL_mailFits 164 = .ok (.ifCond .ne 7, 3) := by decide +kernel
theorem dL_mailFits_167 : decode cL_mailFits 167 = .ok (.iconst 1, 1) := by decide +kernel
theorem dL_mailFits_168 : decode cL_mailFits 168 = .ok (.goto 4, 3) := by decide +kernel
theorem dL_mailFits_171 : decode cL_mailFits 171 = .ok (.iconst 0, 1) := by decide +kernel
theorem dL_mailFits_172 : decode cL_mailFits 172 = .ok (.iadd, 1) := by decide +kernel
theorem dL_mailFits_173 : decode cL_mailFits 173 = .ok (.istore 6, 2) := by decide +kernel
theorem dL_mailFits_175 : decode cL_mailFits 175 = .ok (.iload 8, 2) := by decide +kernel
theorem dL_mailFits_177 : decode cL_mailFits 177 = .ok (.ifCond .lt 97, 3) := by decide +kernel
theorem dL_mailFits_180 : decode cL_mailFits 180 = .ok (.iload 8, 2) := by decide +kernel
theorem dL_mailFits_182 : decode cL_mailFits 182 = .ok (.bipush 6, 2) := by decide +kernel
theorem dL_mailFits_184 : decode cL_mailFits 184 = .ok (.if_icmp .gt 90, 3) := by decide +kernel
theorem dL_mailFits_187 : decode cL_mailFits 187 = .ok (.iload 8, 2) := by decide +kernel
theorem dL_mailFits_189 : decode cL_mailFits 189 = .ok (.ifCond .ne 7, 3) := by decide +kernel
theorem dL_mailFits_192 : decode cL_mailFits 192 = .ok (.iconst 1, 1) := by decide +kernel
theorem dL_mailFits_193 : decode cL_mailFits 193 = .ok (.goto 4, 3) := by decide +kernel
theorem dL_mailFits_196 : decode cL_mailFits 196 = .ok (.iconst 0, 1) := by decide +kernel
theorem dL_mailFits_197 : decode cL_mailFits 197 = .ok (.iload 5, 2) := by decide +kernel
theorem dL_mailFits_199 : decode cL_mailFits 199 = .ok (.iload 7, 2) := by decide +kernel
theorem dL_mailFits_201 : decode cL_mailFits 201 = .ok (.if_icmp .ne 7, 3) := by decide +kernel
theorem dL_mailFits_204 : decode cL_mailFits 204 = .ok (.iconst 1, 1) := by decide +kernel
theorem dL_mailFits_205 : decode cL_mailFits 205 = .ok (.goto 4, 3) := by decide +kernel
theorem dL_mailFits_208 : decode cL_mailFits 208 = .ok (.iconst 0, 1) := by decide +kernel
theorem dL_mailFits_209 : decode cL_mailFits 209 = .ok (.if_icmp .ne 65, 3) := by decide +kernel
theorem dL_mailFits_212 : decode cL_mailFits 212 = .ok (.iload 8, 2) := by decide +kernel
theorem dL_mailFits_214 : decode cL_mailFits 214 = .ok (.iconst 1, 1) := by decide +kernel
theorem dL_mailFits_215 : decode cL_mailFits 215 = .ok (.if_icmp .ne 7, 3) := by decide +kernel
theorem dL_mailFits_218 : decode cL_mailFits 218 = .ok (.iconst 1, 1) := by decide +kernel
theorem dL_mailFits_219 : decode cL_mailFits 219 = .ok (.goto 4, 3) := by decide +kernel
theorem dL_mailFits_222 : decode cL_mailFits 222 = .ok (.iconst 0, 1) := by decide +kernel
theorem dL_mailFits_223 : decode cL_mailFits 223 = .ok (.aload_n 0, 1) := by decide +kernel
theorem dL_mailFits_224 : decode cL_mailFits 224 = .ok (.iload 7, 2) := by decide +kernel
theorem dL_mailFits_226 : decode cL_mailFits 226 = .ok (.invokestatic 81, 3) := by decide +kernel
theorem dL_mailFits_229 : decode cL_mailFits 229 = .ok (.ifCond .ne 7, 3) := by decide +kernel
theorem dL_mailFits_232 : decode cL_mailFits 232 = .ok (.iconst 1, 1) := by decide +kernel
theorem dL_mailFits_233 : decode cL_mailFits 233 = .ok (.goto 4, 3) := by decide +kernel
theorem dL_mailFits_236 : decode cL_mailFits 236 = .ok (.iconst 0, 1) := by decide +kernel
theorem dL_mailFits_237 : decode cL_mailFits 237 = .ok (.if_icmp .ne 37, 3) := by decide +kernel
theorem dL_mailFits_240 : decode cL_mailFits 240 = .ok (.iload 8, 2) := by decide +kernel
theorem dL_mailFits_242 : decode cL_mailFits 242 = .ok (.iconst 5, 1) := by decide +kernel
theorem dL_mailFits_243 : decode cL_mailFits 243 = .ok (.if_icmp .ne 12, 3) := by decide +kernel
theorem dL_mailFits_246 : decode cL_mailFits 246 = .ok (.aload_n 0, 1) := by decide +kernel
theorem dL_mailFits_247 : decode cL_mailFits 247 = .ok (.iload 7, 2) := by decide +kernel
theorem dL_mailFits_249 : decode cL_mailFits 249 = .ok (.invokevirtual 75, 3) := by decide +kernel
theorem dL_mailFits_252 : decode cL_mailFits 252 = .ok (.ifCond .lt 22, 3) := by decide +kernel
theorem dL_mailFits_255 : decode cL_mailFits 255 = .ok (.iload 8, 2) := by decide +kernel
theorem dL_mailFits_257 : decode cL_mailFits 257 = .ok (.iconst 2, 1) := by decide +kernel
theorem dL_mailFits_258 : decode cL_mailFits 258 = .ok (.if_icmp .ne 12, 3) := by decide +kernel
theorem dL_mailFits_261 : decode cL_mailFits 261 = .ok (.aload_n 0, 1) := by decide +kernel
theorem dL_mailFits_262 : decode cL_mailFits 262 = .ok (.iconst 2, 1) := by decide +kernel
theorem dL_mailFits_263 : decode cL_mailFits 263 = .ok (.invokevirtual 62, 3) := by decide +kernel
theorem dL_mailFits_266 : decode cL_mailFits 266 = .ok (.iconst 1, 1) := by decide +kernel
theorem dL_mailFits_267 : decode cL_mailFits 267 = .ok (.if_icmp .ne 7, 3) := by decide +kernel
theorem dL_mailFits_270 : decode cL_mailFits 270 = .ok (.iconst 1, 1) := by decide +kernel
theorem dL_mailFits_271 : decode cL_mailFits 271 = .ok (.goto 4, 3) := by decide +kernel
theorem dL_mailFits_274 : decode cL_mailFits 274 = .ok (.iconst 0, 1) := by decide +kernel
theorem dL_mailFits_275 : decode cL_mailFits 275 = .ok (.istore 4, 2) := by decide +kernel
theorem dL_mailFits_277 : decode cL_mailFits 277 = .ok (.iinc 7 1, 3) := by decide +kernel
theorem dL_mailFits_280 : decode cL_mailFits 280 = .ok (.goto (-144), 3) := by decide +kernel
theorem dL_mailFits_283 : decode cL_mailFits 283 = .ok (.iload 4, 2) := by decide +kernel
theorem dL_mailFits_285 : decode cL_mailFits 285 = .ok (.ifCond .eq 38, 3) := by decide +kernel
theorem dL_mailFits_288 : decode cL_mailFits 288 = .ok (.iload 6, 2) := by decide +kernel
theorem dL_mailFits_290 : decode cL_mailFits 290 = .ok (.iload 5, 2) := by decide +kernel
theorem dL_mailFits_292 : decode cL_mailFits 292 = .ok (.ifCond .ge 7, 3) := by decide +kernel
theorem dL_mailFits_295 : decode cL_mailFits 295 = .ok (.iconst 0, 1) := by decide +kernel
theorem dL_mailFits_296 : decode cL_mailFits 296 = .ok (.goto 4, 3) := by decide +kernel
theorem dL_mailFits_299 : decode cL_mailFits 299 = .ok (.iconst 1, 1) := by decide +kernel
theorem dL_mailFits_300 : decode cL_mailFits 300 = .ok (.if_icmp .ne 23, 3) := by decide +kernel
theorem dL_mailFits_303 : decode cL_mailFits 303 = .ok (.aload_n 0, 1) := by decide +kernel
theorem dL_mailFits_304 : decode cL_mailFits 304 = .ok (.iload_n 1, 1) := by decide +kernel
theorem dL_mailFits_305 : decode cL_mailFits 305 = .ok (.bipush 6, 2) := by decide +kernel
theorem dL_mailFits_307 : decode cL_mailFits 307 = .ok (.invokevirtual 68, 3) := by decide +kernel
theorem dL_mailFits_310 : decode cL_mailFits 310 = .ok (.aload_n 0, 1) := by decide +kernel
theorem dL_mailFits_311 : decode cL_mailFits 311 = .ok (.iload_n 1, 1) := by decide +kernel
theorem dL_mailFits_312 : decode cL_mailFits 312 = .ok (.iconst 5, 1) := by decide +kernel
theorem dL_mailFits_313 : decode cL_mailFits 313 = .ok (.invokevirtual 68, 3) := by decide +kernel
theorem dL_mailFits_316 : decode cL_mailFits 316 = .ok (.if_icmp .gt 7, 3) := by decide +kernel
theorem dL_mailFits_319 : decode cL_mailFits 319 = .ok (.iconst 1, 1) := by decide +kernel
theorem dL_mailFits_320 : decode cL_mailFits 320 = .ok (.goto 4, 3) := by decide +kernel
theorem dL_mailFits_323 : decode cL_mailFits 323 = .ok (.iconst 0, 1) := by decide +kernel
theorem dL_mailFits_324 : decode cL_mailFits 324 = .ok (.ireturn, 1) := by decide +kernel
set_option maxRecDepth 20000 in
theorem ggL_blocksFit_X6_whole : GoodIn wsL_blocksFit wsX6_whole := goodIn_ca (goodIn_ca (goodIn_ca (goodIn_r _ [5, 6, 7, 4, 8, 9, 10, 11, 12, 13, 14, 15, 16, 17, 18, 19, 20, 21, 22, 23, 24, 25, 26, 27, 28, 29, 30, 31, 32, 33, 34, 35, 36, 37, 38, 39, 40, 41, 42, 43, 44, 45, 46, 47, 48, 49, 50, 51, 52, 53, 54, 55, 56, 217, 218, 219, 220, 221, 222, 223, 224, 225, 226, 227, 228, 229, 230, 231, 232, 233, 234, 235, 236, 237, 238, 239, 240, 241, 242, 243] (by decide +kernel) (by decide +kernel)) (goodIn_sub (fun _ h => List.mem_cons_of_mem _ (List.mem_append_left _ (List.mem_append_left _ (List.mem_append_right _ h)))) (by decide +kernel))) (goodIn_sub (fun _ h => List.mem_cons_of_mem _ (List.mem_append_left _ (List.mem_append_right _ h))) (by decide +kernel))) (goodIn_sub (fun _ h => List.mem_cons_of_mem _ (List.mem_append_right _ h)) (by decide +kernel))
set_option maxRecDepth 20000 in
theorem gL_blocksFit_X6_whole : GoodIn wsL_blocksFit (wsV RL 62 RX6 yX6_whole wsX6_whole) := goodIn_app (goodIn_of _ (by decide +kernel)) ggL_blocksFit_X6_whole
set_option maxRecDepth 20000 in
theorem ggL_blocksFit_X6_block : GoodIn wsL_blocksFit wsX6_block := goodIn_ca (goodIn_ca (goodIn_ca (goodIn_r _ [60, 27, 61, 62, 63, 4, 64, 9, 10, 11, 12, 13, 14, 15, 16, 17, 18, 19, 20, 65, 55, 56, 217, 218, 219, 220, 221, 222, 228, 229, 230, 231, 232, 233, 234, 235] (by decide +kernel) (by decide +kernel)) (goodIn_sub (fun _ h => List.mem_cons_of_mem _ (List.mem_append_left _ (List.mem_append_left _ (List.mem_append_right _ h)))) (by decide +kernel))) (goodIn_sub (fun _ h => List.mem_cons_of_mem _ (List.mem_append_left _ (List.mem_append_right _ h))) (by decide +kernel))) (goodIn_sub (fun _ h => List.mem_cons_of_mem _ (List.mem_append_right _ h)) (by decide +kernel))
set_option maxRecDepth 20000 in
theorem gL_blocksFit_X6_block : GoodIn wsL_blocksFit (wsV RL 93 RX6 yX6_block wsX6_block) := goodIn_app (goodIn_of _ (by decide +kernel)) ggL_blocksFit_X6_block
set_option maxRecDepth 20000 in
theorem ggL_blocksFit_X6_finalValue : GoodIn wsL_blocksFit wsX6_finalValue := goodIn_ca (goodIn_ca (goodIn_ca (goodIn_r _ [69, 27, 70, 62, 63, 4, 64, 9, 10, 11, 12, 13, 14, 15, 16, 17, 18, 19, 20, 71, 72, 73, 31, 74, 54, 33, 55, 56, 75, 76, 77, 78, 79, 80, 45, 46, 47, 48, 49, 81, 82, 83, 84, 36, 65, 217, 218, 219, 220, 221, 222, 228, 229, 230, 231, 232, 233, 234, 235] (by decide +kernel) (by decide +kernel)) (goodIn_sub (fun _ h => List.mem_cons_of_mem _ (List.mem_append_left _ (List.mem_append_left _ (List.mem_append_right _ h)))) (by decide +kernel))) (goodIn_sub (fun _ h => List.mem_cons_of_mem _ (List.mem_append_left _ (List.mem_append_right _ h))) (by decide +kernel))) (goodIn_sub (fun _ h => List.mem_cons_of_mem _ (List.mem_append_right _ h)) (by decide +kernel))
set_option maxRecDepth 20000 in
theorem gL_blocksFit_X6_finalValue : GoodIn wsL_blocksFit (wsV RL 96 RX6 yX6_finalValue wsX6_finalValue) := goodIn_app (goodIn_of _ (by decide +kernel)) ggL_blocksFit_X6_finalValue
set_option maxRecDepth 20000 in
theorem ggL_blocksFit_X6_doneIn : GoodIn wsL_blocksFit wsX6_doneIn := goodIn_r _ [88, 89, 27, 90, 91, 92, 31, 93, 54, 94, 95, 96, 97, 49, 37, 39, 33, 34, 35, 36, 98, 99, 100, 101, 102, 103, 104, 105, 106, 107, 108, 109, 110, 111, 112, 113, 114, 41, 42, 43, 44, 45, 46, 47, 48, 115, 116, 117, 118, 40, 119, 120, 121, 122, 123, 124, 125, 126, 127, 128, 129, 130, 131, 132, 133, 134, 135, 136, 137, 138, 139, 81, 82, 83, 84, 55, 4, 56, 75, 76, 140, 141, 142, 143, 144, 145, 146, 147, 148, 149, 150, 151, 152, 77, 78, 79, 80, 153, 154, 155, 156, 157, 158, 159, 160, 161, 162, 163, 164, 165, 166, 167, 168, 169, 38, 170, 171, 172, 173, 174, 175, 176, 177, 178, 179, 180, 181, 182, 183, 184, 185, 186, 217, 218, 219, 220, 221, 222, 228, 229, 230, 231, 232, 233, 234, 235, 236, 237, 238, 239, 240, 241, 242, 243] (by decide +kernel) (by decide +kernel)
set_option maxRecDepth 20000 in
theorem gL_blocksFit_X6_doneIn : GoodIn wsL_blocksFit (wsV RL 99 RX6 yX6_doneIn wsX6_doneIn) := goodIn_app (goodIn_of _ (by decide +kernel)) ggL_blocksFit_X6_doneIn
set_option maxRecDepth 20000 in
theorem ggL_blocksFit_X6_controller : GoodIn wsL_blocksFit wsX6_controller := goodIn_ca (goodIn_ca (goodIn_ca (goodIn_r _ [190, 27, 191, 192, 4, 193, 9, 10, 11, 12, 13, 14, 15, 16, 17, 18, 19, 20, 6, 7, 8, 194, 195, 196, 31, 197, 198, 199, 200, 201, 33, 158, 159, 160, 161, 34, 123, 124, 125, 126, 37, 39, 162, 163, 164, 101, 165, 106, 45, 46, 47, 48, 49, 202, 203, 204, 205, 103, 104, 105, 107, 108, 109, 110, 206, 207, 208, 209, 210, 211, 212, 213, 214, 215, 216, 217, 218, 219, 220, 221, 222, 228, 229, 230, 231, 232, 233, 234, 235, 236, 237, 238, 239, 240, 241, 242, 243] (by decide +kernel) (by decide +kernel)) (goodIn_sub (fun _ h => List.mem_cons_of_mem _ (List.mem_append_left _ (List.mem_append_left _ (List.mem_append_right _ h)))) (by decide +kernel))) (goodIn_sub (fun _ h => List.mem_cons_of_mem _ (List.mem_append_left _ (List.mem_append_right _ h))) (by decide +kernel))) (goodIn_sub (fun _ h => List.mem_cons_of_mem _ (List.mem_append_right _ h)) (by decide +kernel))
set_option maxRecDepth 20000 in
theorem gL_blocksFit_X6_controller : GoodIn wsL_blocksFit (wsV RL 68 RX6 yX6_controller wsX6_controller) := goodIn_app (goodIn_of _ (by decide +kernel)) ggL_blocksFit_X6_controller
theorem dL_blocksFit_0 : decode cL_blocksFit 0 = .ok (.iconst 0, 1) := by decide +kernel
theorem dL_blocksFit_1 : decode cL_blocksFit 1 = .ok (.istore_n 1, 1) := by decide +kernel
theorem dL_blocksFit_2 : decode cL_blocksFit 2 = .ok (.aload_n 0, 1) := by decide +kernel
theorem dL_blocksFit_3 : decode cL_blocksFit 3 = .ok (.iconst 1, 1) := by decide +kernel
theorem dL_blocksFit_4 : decode cL_blocksFit 4 = .ok (.invokevirtual 62, 3) := by decide +kernel
theorem dL_blocksFit_7 : decode cL_blocksFit 7 = .ok (.aload_n 0, 1) := by decide +kernel
theorem dL_blocksFit_8 : decode cL_blocksFit 8 = .ok (.iconst 2, 1) := by decide +kernel
theorem dL_blocksFit_9 : decode cL_blocksFit 9 = .ok (.invokevirtual 62, 3) := by decide +kernel
theorem dL_blocksFit_12 : decode cL_blocksFit 12 = .ok (.iadd, 1) := by decide +kernel
theorem dL_blocksFit_13 : decode cL_blocksFit 13 = .ok (.ifCond .le 7, 3) := by decide +kernel
theorem dL_blocksFit_16 : decode cL_blocksFit 16 = .ok (.iconst 1, 1) := by decide +kernel
theorem dL_blocksFit_17 : decode cL_blocksFit 17 = .ok (.goto 4, 3) := by decide +kernel
theorem dL_blocksFit_20 : decode cL_blocksFit 20 = .ok (.iconst 0, 1) := by decide +kernel
theorem dL_blocksFit_21 : decode cL_blocksFit 21 = .ok (.istore_n 2, 1) := by decide +kernel
theorem dL_blocksFit_22 : decode cL_blocksFit 22 = .ok (.iconst 1, 1) := by decide +kernel
theorem dL_blocksFit_23 : decode cL_blocksFit 23 = .ok (.istore_n 3, 1) := by decide +kernel
theorem dL_blocksFit_24 : decode cL_blocksFit 24 = .ok (.iconst 0, 1) := by decide +kernel
theorem dL_blocksFit_25 : decode cL_blocksFit 25 = .ok (.istore 4, 2) := by decide +kernel
theorem dL_blocksFit_27 : decode cL_blocksFit 27 = .ok (.iload 4, 2) := by decide +kernel
theorem dL_blocksFit_29 : decode cL_blocksFit 29 = .ok (.bipush 16, 2) := by decide +kernel
theorem dL_blocksFit_31 : decode cL_blocksFit 31 = .ok (.if_icmp .ge 47, 3) := by decide +kernel
theorem dL_blocksFit_34 : decode cL_blocksFit 34 = .ok (.iload_n 3, 1) := by decide +kernel
theorem dL_blocksFit_35 : decode cL_blocksFit 35 = .ok (.ifCond .eq 43, 3) := by decide +kernel
theorem dL_blocksFit_38 : decode cL_blocksFit 38 = .ok (.iload_n 1, 1) := by decide +kernel
theorem dL_blocksFit_39 : decode cL_blocksFit 39 = .ok (.aload_n 0, 1) := by decide +kernel
theorem dL_blocksFit_40 : decode cL_blocksFit 40 = .ok (.iload 4, 2) := by decide +kernel
theorem dL_blocksFit_42 : decode cL_blocksFit 42 = .ok (.invokevirtual 93, 3) := by decide +kernel
theorem dL_blocksFit_45 : decode cL_blocksFit 45 = .ok (.iadd, 1) := by decide +kernel
theorem dL_blocksFit_46 : decode cL_blocksFit 46 = .ok (.istore_n 1, 1) := by decide +kernel
theorem dL_blocksFit_47 : decode cL_blocksFit 47 = .ok (.iload_n 2, 1) := by decide +kernel
theorem dL_blocksFit_48 : decode cL_blocksFit 48 = .ok (.ifCond .ne 18, 3) := by decide +kernel
theorem dL_blocksFit_51 : decode cL_blocksFit 51 = .ok (.aload_n 0, 1) := by decide +kernel
theorem dL_blocksFit_52 : decode cL_blocksFit 52 = .ok (.iload 4, 2) := by decide +kernel
theorem dL_blocksFit_54 : decode cL_blocksFit 54 = .ok (.invokevirtual 96, 3) := by decide +kernel
theorem dL_blocksFit_57 : decode cL_blocksFit 57 = .ok (.aload_n 0, 1) := by decide +kernel
theorem dL_blocksFit_58 : decode cL_blocksFit 58 = .ok (.iload 4, 2) := by decide +kernel
theorem dL_blocksFit_60 : decode cL_blocksFit 60 = .ok (.invokevirtual 93, 3) := by decide +kernel
theorem dL_blocksFit_63 : decode cL_blocksFit 63 = .ok (.if_icmp .ne 7, 3) := by decide +kernel
theorem dL_blocksFit_66 : decode cL_blocksFit 66 = .ok (.iconst 1, 1) := by decide +kernel
theorem dL_blocksFit_67 : decode cL_blocksFit 67 = .ok (.goto 4, 3) := by decide +kernel
theorem dL_blocksFit_70 : decode cL_blocksFit 70 = .ok (.iconst 0, 1) := by decide +kernel
theorem dL_blocksFit_71 : decode cL_blocksFit 71 = .ok (.istore_n 3, 1) := by decide +kernel
theorem dL_blocksFit_72 : decode cL_blocksFit 72 = .ok (.iinc 4 1, 3) := by decide +kernel
theorem dL_blocksFit_75 : decode cL_blocksFit 75 = .ok (.goto (-48), 3) := by decide +kernel
theorem dL_blocksFit_78 : decode cL_blocksFit 78 = .ok (.aload_n 0, 1) := by decide +kernel
theorem dL_blocksFit_79 : decode cL_blocksFit 79 = .ok (.invokevirtual 99, 3) := by decide +kernel
theorem dL_blocksFit_82 : decode cL_blocksFit 82 = .ok (.istore 4, 2) := by decide +kernel
theorem dL_blocksFit_84 : decode cL_blocksFit 84 = .ok (.iload_n 3, 1) := by decide +kernel
theorem dL_blocksFit_85 : decode cL_blocksFit 85 = .ok (.ifCond .eq 93, 3) := by decide +kernel
theorem dL_blocksFit_88 : decode cL_blocksFit 88 = .ok (.iload_n 1, 1) := by decide +kernel
theorem dL_blocksFit_89 : decode cL_blocksFit 89 = .ok (.aload_n 0, 1) := by decide +kernel
theorem dL_blocksFit_90 : decode cL_blocksFit 90 = .ok (.bipush 10, 2) := by decide +kernel
theorem dL_blocksFit_92 : decode cL_blocksFit 92 = .ok (.invokevirtual 62, 3) := by decide +kernel
theorem dL_blocksFit_95 : decode cL_blocksFit 95 = .ok (.if_icmp .ne 83, 3) := by decide +kernel
theorem dL_blocksFit_98 : decode cL_blocksFit 98 = .ok (.iload 4, 2) := by decide +kernel
theorem dL_blocksFit_100 : decode cL_blocksFit 100 = .ok (.ifCond .ne 7, 3) := by decide +kernel
theorem dL_blocksFit_103 : decode cL_blocksFit 103 = .ok (.iconst 1, 1) := by decide +kernel
theorem dL_blocksFit_104 : decode cL_blocksFit 104 = .ok (.goto 4, 3) := by decide +kernel
theorem dL_blocksFit_107 : decode cL_blocksFit 107 = .ok (.iconst 0, 1) := by decide +kernel
theorem dL_blocksFit_108 : decode cL_blocksFit 108 = .ok (.iload_n 2, 1) := by decide +kernel
theorem dL_blocksFit_109 : decode cL_blocksFit 109 = .ok (.ifCond .ne 7, 3) := by decide +kernel
theorem dL_blocksFit_112 : decode cL_blocksFit 112 = .ok (.iconst 1, 1) := by decide +kernel
theorem dL_blocksFit_113 : decode cL_blocksFit 113 = .ok (.goto 4, 3) := by decide +kernel
theorem dL_blocksFit_116 : decode cL_blocksFit 116 = .ok (.iconst 0, 1) := by decide +kernel
theorem dL_blocksFit_117 : decode cL_blocksFit 117 = .ok (.if_icmp .ne 61, 3) := by decide +kernel
theorem dL_blocksFit_120 : decode cL_blocksFit 120 = .ok (.iload 4, 2) := by decide +kernel
theorem dL_blocksFit_122 : decode cL_blocksFit 122 = .ok (.sipush 200, 3) := by decide +kernel
theorem dL_blocksFit_125 : decode cL_blocksFit 125 = .ok (.if_icmp .gt 53, 3) := by decide +kernel
theorem dL_blocksFit_128 : decode cL_blocksFit 128 = .ok (.aload_n 0, 1) := by decide +kernel
theorem dL_blocksFit_129 : decode cL_blocksFit 129 = .ok (.bipush 8, 2) := by decide +kernel
theorem dL_blocksFit_131 : decode cL_blocksFit 131 = .ok (.invokevirtual 62, 3) := by decide +kernel
theorem dL_blocksFit_134 : decode cL_blocksFit 134 = .ok (.aload_n 0, 1) := by decide +kernel
theorem dL_blocksFit_135 : decode cL_blocksFit 135 = .ok (.iconst 0, 1) := by decide +kernel
theorem dL_blocksFit_136 : decode cL_blocksFit 136 = .ok (.bipush 7, 2) := by decide +kernel
theorem dL_blocksFit_138 : decode cL_blocksFit 138 = .ok (.invokevirtual 68, 3) := by decide +kernel
theorem dL_blocksFit_141 : decode cL_blocksFit 141 = .ok (.aload_n 0, 1) := by decide +kernel
theorem dL_blocksFit_142 : decode cL_blocksFit 142 = .ok (.iconst 1, 1) := by decide +kernel
theorem dL_blocksFit_143 : decode cL_blocksFit 143 = .ok (.bipush 7, 2) := by decide +kernel
theorem dL_blocksFit_145 : decode cL_blocksFit 145 = .ok (.invokevirtual 68, 3) := by decide +kernel
theorem dL_blocksFit_148 : decode cL_blocksFit 148 = .ok (.iadd, 1) := by decide +kernel
theorem dL_blocksFit_149 : decode cL_blocksFit 149 = .ok (.if_icmp .ne 29, 3) := by decide +kernel
theorem dL_blocksFit_152 : decode cL_blocksFit 152 = .ok (.aload_n 0, 1) := by decide +kernel
theorem dL_blocksFit_153 : decode cL_blocksFit 153 = .ok (.bipush 9, 2) := by decide +kernel
theorem dL_blocksFit_155 : decode cL_blocksFit 155 = .ok (.invokevirtual 62, 3) := by decide +kernel
theorem dL_blocksFit_158 : decode cL_blocksFit 158 = .ok (.aload_n 0, 1) := by decide +kernel
theorem dL_blocksFit_159 : decode cL_blocksFit 159 = .ok (.iconst 0, 1) := by decide +kernel
theorem dL_blocksFit_160 : decode cL_blocksFit 160 = .ok (.iconst 0, 1) := by decide +kernel
theorem dL_blocksFit_161 : decode cL_blocksFit 161 = .ok (.invokevirtual 68, 3) := by decide +kernel
theorem dL_blocksFit_164 : decode cL_blocksFit 164 = .ok (.aload_n 0, 1) := by decide +kernel
theorem dL_blocksFit_165 : decode cL_blocksFit 165 = .ok (.iconst 1, 1) := by decide +kernel
theorem dL_blocksFit_166 : decode cL_blocksFit 166 = .ok (.iconst 0, 1) := by decide +kernel
theorem dL_blocksFit_167 : decode cL_blocksFit 167 = .ok (.invokevirtual 68, 3) := by decide +kernel
theorem dL_blocksFit_170 : decode cL_blocksFit 170 = .ok (.iadd, 1) := by decide +kernel
theorem dL_blocksFit_171 : decode cL_blocksFit 171 = .ok (.if_icmp .ne 7, 3) := by decide +kernel
theorem dL_blocksFit_174 : decode cL_blocksFit 174 = .ok (.iconst 1, 1) := by decide +kernel
theorem dL_blocksFit_175 : decode cL_blocksFit 175 = .ok (.goto 4, 3) := by decide +kernel
theorem dL_blocksFit_178 : decode cL_blocksFit 178 = .ok (.iconst 0, 1) := by decide +kernel
theorem dL_blocksFit_179 : decode cL_blocksFit 179 = .ok (.ireturn, 1) := by decide +kernel
set_option maxRecDepth 20000 in
theorem ggL_fits_X6_digest : GoodIn wsL_fits wsX6_digest := goodIn_r _ [5, 6, 7, 8, 9, 10, 4, 11, 12, 13, 14, 15, 16, 17, 18, 19, 20, 21, 22, 23, 24, 25, 26, 27, 28, 29, 30, 31, 32, 33, 34, 35, 36, 37, 38, 39, 40, 41, 42, 43, 44, 45, 46, 47, 48, 49, 50, 51, 52, 53, 54, 55, 56, 57, 58, 59, 60, 61, 62, 63, 64, 65, 66, 67, 68, 69, 70, 71, 72, 73, 74, 75, 76, 77, 78, 79, 80, 81, 82, 83, 84, 85, 86, 87, 88, 89, 90, 91, 92, 93, 94, 95, 96, 97, 98, 99, 100, 101, 102, 103, 104, 105, 106, 107, 108, 109, 110, 111, 112, 113, 114, 115, 116, 117, 118, 119, 120, 121, 122, 123, 124, 125, 126, 127, 128, 129, 130, 131, 132, 133, 134, 135, 136, 137, 138, 139, 140, 141, 142, 143, 144, 145, 146, 147, 148, 149, 150, 151, 152, 153, 154, 155, 156, 157, 158, 159, 330, 331, 332, 333, 334, 335, 336, 337, 338, 339, 340, 341, 342, 343, 344, 345, 346, 347, 348, 349, 350, 351, 352, 353, 354, 355, 356, 357, 358, 359] (by decide +kernel) (by decide +kernel)
set_option maxRecDepth 20000 in
theorem gL_fits_X6_digest : GoodIn wsL_fits (wsV RL 102 RX6 yX6_digest wsX6_digest) := goodIn_app (goodIn_of _ (by decide +kernel)) ggL_fits_X6_digest
set_option maxRecDepth 20000 in
theorem ggL_fits_L_ordersFit : GoodIn wsL_fits wsL_ordersFit := goodIn_ca (goodIn_ca (goodIn_ca (goodIn_r _ [163, 164, 165, 166, 4, 167, 168, 169, 170, 171, 172, 173, 174, 175, 176, 177, 178, 179, 180, 181, 182, 13, 14, 15, 16, 17, 18, 19, 20, 21, 22, 23, 24, 25, 26, 27, 28, 29, 30, 31, 32, 33, 34, 35, 36, 37, 38, 39, 40, 41, 42, 43, 44, 45, 46, 47, 48, 183, 184, 185, 186, 187, 188, 189, 190, 93, 191, 192, 193, 194, 195, 196, 197, 198, 199, 200, 201, 202, 203, 204, 205, 206, 207, 208, 102, 103, 104, 105, 106, 107, 108, 109, 110, 111, 112, 113, 114, 115, 116, 117, 118, 119, 120, 121, 122, 123, 124, 125, 126, 127, 128, 129, 130, 131, 132, 133, 134, 135, 136, 137, 138, 139, 140, 141, 142, 143, 144, 145, 209, 210, 162, 211, 212, 213, 214, 215, 94, 95, 96, 97, 61, 62, 63, 64, 84, 85, 86, 87, 88, 89, 90, 91, 92, 216, 217, 218, 219, 74, 76, 77, 78, 79, 80, 81, 82, 83, 59, 60, 69, 220, 221, 222, 330, 331, 332, 333, 334, 335, 339, 340, 341, 342, 343, 344, 345, 346, 347, 348, 349, 350, 351, 352, 353, 354, 355, 356, 357, 358, 359] (by decide +kernel) (by decide +kernel)) (goodIn_sub (fun _ h => List.mem_cons_of_mem _ (List.mem_append_left _ (List.mem_append_left _ (List.mem_append_right _ h)))) (by decide +kernel))) (goodIn_sub (fun _ h => List.mem_cons_of_mem _ (List.mem_append_left _ (List.mem_append_right _ h))) (by decide +kernel))) (goodIn_sub (fun _ h => List.mem_cons_of_mem _ (List.mem_append_right _ h)) (by decide +kernel))
set_option maxRecDepth 20000 in
theorem gL_fits_L_ordersFit : GoodIn wsL_fits (va_wsS RL 106 yL_ordersFit wsL_ordersFit) := goodIn_app (goodIn_of _ (by decide +kernel)) ggL_fits_L_ordersFit
set_option maxRecDepth 20000 in
theorem ggL_fits_L_mailFits : GoodIn wsL_fits wsL_mailFits := goodIn_ca (goodIn_ca (goodIn_ca (goodIn_r _ [225, 202, 203, 204, 4, 205, 19, 206, 207, 208, 171, 172, 173, 174, 175, 176, 177, 178, 179, 180, 181, 182, 168, 169, 170, 102, 103, 104, 23, 105, 106, 107, 108, 109, 25, 110, 111, 112, 113, 26, 114, 115, 116, 117, 29, 31, 118, 119, 120, 121, 122, 123, 37, 38, 39, 40, 41, 124, 125, 126, 127, 128, 129, 130, 131, 132, 133, 134, 135, 136, 137, 138, 139, 140, 141, 142, 143, 144, 145, 164, 165, 166, 167, 13, 14, 15, 16, 17, 18, 20, 21, 22, 24, 27, 28, 30, 32, 33, 34, 35, 36, 42, 43, 44, 45, 46, 47, 48, 226, 227, 228, 229, 230, 231, 232, 233, 234, 235, 236, 237, 148, 149, 150, 151, 152, 153, 154, 155, 156, 157, 158, 159, 61, 62, 63, 64, 88, 89, 90, 91, 92, 238, 239, 240, 241, 187, 188, 189, 190, 242, 243, 244, 245, 246, 247, 95, 96, 97, 84, 85, 86, 87, 220, 221, 162, 222, 183, 184, 185, 186, 93, 212, 213, 214, 215, 94, 330, 331, 332, 333, 334, 335, 344, 345, 346, 347, 348, 349, 350, 351, 352, 353, 354, 355, 356, 357, 358, 359, 339, 340, 341, 342, 343] (by decide +kernel) (by decide +kernel)) (goodIn_sub (fun _ h => List.mem_cons_of_mem _ (List.mem_append_left _ (List.mem_append_left _ (List.mem_append_right _ h)))) (by decide +kernel))) (goodIn_sub (fun _ h => List.mem_cons_of_mem _ (List.mem_append_left _ (List.mem_append_right _ h))) (by decide +kernel))) (goodIn_sub (fun _ h => List.mem_cons_of_mem _ (List.mem_append_right _ h)) (by decide +kernel))
set_option maxRecDepth 20000 in
theorem gL_fits_L_mailFits : GoodIn wsL_fits (va_wsS RL 110 yL_mailFits wsL_mailFits) := goodIn_app (goodIn_of _ (by decide +kernel)) ggL_fits_L_mailFits
set_option maxRecDepth 20000 in
theorem ggL_fits_L_blocksFit : GoodIn wsL_fits wsL_blocksFit := goodIn_ca (goodIn_ca (goodIn_ca (goodIn_r _ [250, 164, 165, 166, 4, 167, 168, 169, 170, 171, 172, 173, 174, 175, 176, 177, 178, 179, 180, 181, 182, 13, 14, 15, 16, 17, 18, 19, 20, 21, 22, 23, 24, 25, 26, 27, 28, 29, 30, 31, 32, 33, 34, 35, 36, 37, 38, 39, 40, 41, 42, 43, 44, 45, 46, 47, 48, 251, 252, 253, 254, 54, 255, 256, 257, 69, 258, 259, 260, 261, 53, 55, 56, 57, 58, 59, 60, 61, 62, 63, 64, 65, 66, 67, 68, 262, 263, 264, 265, 266, 267, 268, 269, 270, 271, 272, 273, 274, 275, 276, 277, 121, 278, 128, 129, 130, 123, 131, 132, 133, 134, 279, 280, 281, 282, 283, 284, 285, 286, 287, 288, 289, 290, 114, 115, 116, 117, 291, 292, 293, 294, 152, 153, 154, 155, 295, 296, 297, 298, 299, 300, 301, 302, 303, 304, 305, 306, 307, 308, 156, 157, 158, 159, 88, 89, 90, 91, 92, 110, 111, 112, 113, 118, 119, 120, 122, 309, 310, 311, 312, 313, 314, 315, 316, 317, 318, 319, 320, 321, 322, 323, 324, 325, 326, 327, 328, 329, 202, 203, 204, 205, 206, 207, 208, 102, 103, 104, 105, 106, 107, 108, 109, 124, 125, 126, 127, 135, 136, 137, 138, 139, 140, 141, 142, 143, 144, 145, 330, 331, 332, 333, 334, 335, 339, 340, 341, 342, 343, 344, 345, 346, 347, 348, 349, 350, 351, 352, 353, 354, 355, 356, 357, 358, 359] (by decide +kernel) (by decide +kernel)) (goodIn_sub (fun _ h => List.mem_cons_of_mem _ (List.mem_append_left _ (List.mem_append_left _ (List.mem_append_right _ h)))) (by decide +kernel))) (goodIn_sub (fun _ h => List.mem_cons_of_mem _ (List.mem_append_left _ (List.mem_append_right _ h))) (by decide +kernel))) (goodIn_sub (fun _ h => List.mem_cons_of_mem _ (List.mem_append_right _ h)) (by decide +kernel))
set_option maxRecDepth 20000 in
theorem gL_fits_L_blocksFit : GoodIn wsL_fits (va_wsS RL 113 yL_blocksFit wsL_blocksFit) := goodIn_app (goodIn_of _ (by decide +kernel)) ggL_fits_L_blocksFit
theorem dL_fits_0 : decode cL_fits 0 = .ok (.aload_n 0, 1) := by decide +kernel
theorem dL_fits_1 : decode cL_fits 1 = .ok (.invokevirtual 102, 3) := by decide +kernel
theorem dL_fits_4 : decode cL_fits 4 = .ok (.lstore_n 1, 1) := by decide +kernel
theorem dL_fits_5 : decode cL_fits 5 = .ok (.aload_n 0, 1) := by decide +kernel
theorem dL_fits_6 : decode cL_fits 6 = .ok (.invokestatic 106, 3) := by decide +kernel
theorem dL_fits_9 : decode cL_fits 9 = .ok (.ifCond .eq 39, 3) := by decide +kernel
theorem dL_fits_12 : decode cL_fits 12 = .ok (.aload_n 0, 1) := by decide +kernel
theorem dL_fits_13 : decode cL_fits 13 = .ok (.iconst 0, 1) := by decide +kernel
theorem dL_fits_14 : decode cL_fits 14 = .ok (.invokestatic 110, 3) := by decide +kernel
theorem dL_fits_17 : decode cL_fits 17 = .ok (.ifCond .eq 31, 3) := by decide +kernel
theorem dL_fits_20 : decode cL_fits 20 = .ok (.aload_n 0, 1) := by decide +kernel
theorem dL_fits_21 : decode cL_fits 21 = .ok (.iconst 1, 1) := by decide +kernel
theorem dL_fits_22 : decode cL_fits 22 = .ok (.invokestatic 110, 3) := by decide +kernel
theorem dL_fits_25 : decode cL_fits 25 = .ok (.ifCond .eq 23, 3) := by decide +kernel
theorem dL_fits_28 : decode cL_fits 28 = .ok (.aload_n 0, 1) := by decide +kernel
theorem dL_fits_29 : decode cL_fits 29 = .ok (.invokestatic 113, 3) := by decide +kernel
theorem dL_fits_32 : decode cL_fits 32 = .ok (.ifCond .eq 16, 3) := by decide +kernel
theorem dL_fits_35 : decode cL_fits 35 = .ok (.aload_n 0, 1) := by decide +kernel
theorem dL_fits_36 : decode cL_fits 36 = .ok (.invokevirtual 102, 3) := by decide +kernel
theorem dL_fits_39 : decode cL_fits 39 = .ok (.lload_n 1, 1) := by decide +kernel
theorem dL_fits_40 : decode cL_fits 40 = .ok (.lcmp, 1) := by decide +kernel
theorem dL_fits_41 : decode cL_fits 41 = .ok (.ifCond .ne 7, 3) := by decide +kernel
theorem dL_fits_44 : decode cL_fits 44 = .ok (.iconst 1, 1) := by decide +kernel
theorem dL_fits_45 : decode cL_fits 45 = .ok (.goto 4, 3) := by decide +kernel
theorem dL_fits_48 : decode cL_fits 48 = .ok (.iconst 0, 1) := by decide +kernel
theorem dL_fits_49 : decode cL_fits 49 = .ok (.ireturn, 1) := by decide +kernel
set_option maxRecDepth 20000 in
theorem ggL_goes_L_low : GoodIn wsL_goes wsL_low := goodIn_r _ [4, 5] (by decide +kernel) (by decide +kernel)
set_option maxRecDepth 20000 in
theorem gL_goes_L_low : GoodIn wsL_goes (va_wsS RL 9 yL_low wsL_low) := goodIn_app (goodIn_of _ (by decide +kernel)) ggL_goes_L_low
set_option maxRecDepth 20000 in
theorem ggL_goes_L_near : GoodIn wsL_goes wsL_near := goodIn_r _ [8, 1, 2, 3, 4, 5] (by decide +kernel) (by decide +kernel)
set_option maxRecDepth 20000 in
theorem gL_goes_L_near : GoodIn wsL_goes (va_wsS RL 116 yL_near wsL_near) := goodIn_app (goodIn_of _ (by decide +kernel)) ggL_goes_L_near
set_option maxRecDepth 20000 in
theorem ggL_goes_L_order : GoodIn wsL_goes wsL_order := goodIn_ca (goodIn_ca (goodIn_ca (goodIn_r _ [11, 12, 13, 14, 15, 16, 17, 18, 19, 20, 21, 22, 23, 24, 25, 26, 27, 28, 29, 30, 31, 32, 33, 34, 35, 36, 37, 38, 39, 40, 41, 42, 43, 44, 45, 46, 47, 48, 49, 50, 51, 52, 53, 54, 55, 56, 57, 58, 59, 60, 61, 62, 63, 64, 65, 66, 67, 68, 69, 70, 71, 72, 73, 74, 75, 76, 77, 78, 79, 80, 81, 82, 83, 84, 85, 86, 87, 88, 89, 90, 91, 92, 93, 94, 95, 96, 97, 98, 99, 100, 101, 102, 103, 104, 105, 106, 107, 108, 109, 110, 111, 112, 352, 353, 354, 355, 356, 357, 358, 359, 360, 361, 362, 363, 364, 365, 366, 367, 368, 369, 370, 371, 372, 373, 374, 375, 376] (by decide +kernel) (by decide +kernel)) (goodIn_sub (fun _ h => List.mem_cons_of_mem _ (List.mem_append_left _ (List.mem_append_left _ (List.mem_append_right _ h)))) (by decide +kernel))) (goodIn_sub (fun _ h => List.mem_cons_of_mem _ (List.mem_append_left _ (List.mem_append_right _ h))) (by decide +kernel))) (goodIn_sub (fun _ h => List.mem_cons_of_mem _ (List.mem_append_right _ h)) (by decide +kernel))
set_option maxRecDepth 20000 in
theorem gL_goes_L_order : GoodIn wsL_goes (va_wsS RL 119 yL_order wsL_order) := goodIn_app (goodIn_of _ (by decide +kernel)) ggL_goes_L_order
set_option maxRecDepth 20000 in
theorem ggL_goes_L_cancel : GoodIn wsL_goes wsL_cancel := goodIn_ca (goodIn_ca (goodIn_ca (goodIn_r _ [115, 12, 13, 116, 117, 118, 17, 119, 19, 20, 120, 121, 122, 24, 123, 27, 28, 29, 30, 31, 35, 36, 37, 38, 26, 39, 40, 41, 42, 43, 48, 49, 50, 51, 52, 53, 54, 55, 56, 57, 58, 59, 60, 61, 62, 63, 64, 65, 66, 67, 68, 69, 70, 71, 72, 73, 74, 75, 76, 77, 78, 79, 80, 81, 82, 83, 84, 85, 86, 87, 88, 89, 90, 91, 92, 93, 94, 95, 124, 125, 126, 127, 101, 102, 103, 104, 352, 353, 354, 355, 356, 357, 358, 359, 360, 361, 362, 363, 364, 365, 366, 367, 368, 369, 370, 371, 372, 373, 374, 375, 376] (by decide +kernel) (by decide +kernel)) (goodIn_sub (fun _ h => List.mem_cons_of_mem _ (List.mem_append_left _ (List.mem_append_left _ (List.mem_append_right _ h)))) (by decide +kernel))) (goodIn_sub (fun _ h => List.mem_cons_of_mem _ (List.mem_append_left _ (List.mem_append_right _ h))) (by decide +kernel))) (goodIn_sub (fun _ h => List.mem_cons_of_mem _ (List.mem_append_right _ h)) (by decide +kernel))
set_option maxRecDepth 20000 in
theorem gL_goes_L_cancel : GoodIn wsL_goes (va_wsS RL 122 yL_cancel wsL_cancel) := goodIn_app (goodIn_of _ (by decide +kernel)) ggL_goes_L_cancel
set_option maxRecDepth 20000 in
theorem ggL_goes_L_wake : GoodIn wsL_goes wsL_wake := goodIn_ca (goodIn_ca (goodIn_ca (goodIn_r _ [130, 131, 13, 132, 133, 134, 17, 135, 19, 20, 136, 137, 138, 24, 139, 140, 141, 142, 29, 30, 31, 105, 106, 107, 108, 78, 79, 48, 49, 50, 51, 52, 53, 54, 55, 56, 57, 58, 59, 60, 61, 62, 63, 64, 65, 66, 67, 68, 69, 70, 71, 72, 73, 74, 75, 76, 77, 43, 26, 80, 81, 82, 83, 84, 85, 86, 87, 88, 89, 90, 91, 92, 93, 94, 95, 143, 144, 145, 146, 147, 148, 149, 150, 151, 152, 153, 154, 155, 156, 157, 158, 39, 40, 41, 42, 352, 353, 354, 355, 356, 357, 369, 370, 371, 372, 373, 374, 375, 376, 358, 359, 360, 361, 362, 363, 364, 365, 366, 367, 368] (by decide +kernel) (by decide +kernel)) (goodIn_sub (fun _ h => List.mem_cons_of_mem _ (List.mem_append_left _ (List.mem_append_left _ (List.mem_append_right _ h)))) (by decide +kernel))) (goodIn_sub (fun _ h => List.mem_cons_of_mem _ (List.mem_append_left _ (List.mem_append_right _ h))) (by decide +kernel))) (goodIn_sub (fun _ h => List.mem_cons_of_mem _ (List.mem_append_right _ h)) (by decide +kernel))
set_option maxRecDepth 20000 in
theorem gL_goes_L_wake : GoodIn wsL_goes (va_wsS RL 125 yL_wake wsL_wake) := goodIn_app (goodIn_of _ (by decide +kernel)) ggL_goes_L_wake
set_option maxRecDepth 20000 in
theorem ggL_goes_L_sleep : GoodIn wsL_goes wsL_sleep := goodIn_ca (goodIn_ca (goodIn_ca (goodIn_r _ [161, 131, 13, 162, 163, 164, 17, 165, 19, 20, 166, 167, 168, 24, 169, 140, 141, 142, 29, 30, 31, 105, 106, 107, 108, 78, 79, 48, 49, 50, 51, 52, 53, 54, 55, 56, 57, 58, 59, 60, 61, 62, 63, 64, 65, 66, 67, 68, 69, 70, 71, 72, 73, 74, 75, 76, 77, 43, 26, 80, 81, 82, 83, 84, 85, 86, 87, 88, 89, 90, 91, 92, 93, 94, 95, 170, 171, 172, 173, 147, 148, 149, 150, 151, 152, 153, 154, 155, 156, 157, 158, 39, 40, 41, 42, 352, 353, 354, 355, 356, 357, 369, 370, 371, 372, 373, 374, 375, 376, 358, 359, 360, 361, 362, 363, 364, 365, 366, 367, 368] (by decide +kernel) (by decide +kernel)) (goodIn_sub (fun _ h => List.mem_cons_of_mem _ (List.mem_append_left _ (List.mem_append_left _ (List.mem_append_right _ h)))) (by decide +kernel))) (goodIn_sub (fun _ h => List.mem_cons_of_mem _ (List.mem_append_left _ (List.mem_append_right _ h))) (by decide +kernel))) (goodIn_sub (fun _ h => List.mem_cons_of_mem _ (List.mem_append_right _ h)) (by decide +kernel))
set_option maxRecDepth 20000 in
theorem gL_goes_L_sleep : GoodIn wsL_goes (va_wsS RL 128 yL_sleep wsL_sleep) := goodIn_app (goodIn_of _ (by decide +kernel)) ggL_goes_L_sleep
set_option maxRecDepth 20000 in
theorem ggL_goes_L_setDelay : GoodIn wsL_goes wsL_setDelay := goodIn_ca (goodIn_ca (goodIn_ca (goodIn_r _ [176, 131, 12, 177, 178, 179, 17, 180, 19, 20, 181, 182, 183, 24, 184, 141, 142, 29, 30, 31, 185, 186, 48, 49, 50, 51, 52, 53, 54, 55, 56, 57, 58, 59, 60, 61, 62, 63, 64, 65, 66, 67, 68, 69, 70, 71, 72, 73, 74, 75, 76, 77, 43, 78, 79, 26, 80, 81, 82, 83, 84, 85, 86, 87, 88, 89, 90, 91, 92, 93, 94, 95, 187, 188, 189, 190, 100, 105, 106, 107, 108, 352, 353, 354, 355, 356, 357, 366, 367, 368, 358, 359, 360, 361, 362, 363, 364, 365, 369, 370, 371, 372, 373, 374, 375, 376] (by decide +kernel) (by decide +kernel)) (goodIn_sub (fun _ h => List.mem_cons_of_mem _ (List.mem_append_left _ (List.mem_append_left _ (List.mem_append_right _ h)))) (by decide +kernel))) (goodIn_sub (fun _ h => List.mem_cons_of_mem _ (List.mem_append_left _ (List.mem_append_right _ h))) (by decide +kernel))) (goodIn_sub (fun _ h => List.mem_cons_of_mem _ (List.mem_append_right _ h)) (by decide +kernel))
set_option maxRecDepth 20000 in
theorem gL_goes_L_setDelay : GoodIn wsL_goes (va_wsS RL 130 yL_setDelay wsL_setDelay) := goodIn_app (goodIn_of _ (by decide +kernel)) ggL_goes_L_setDelay
set_option maxRecDepth 20000 in
theorem ggL_goes_L_setAlarm : GoodIn wsL_goes wsL_setAlarm := goodIn_ca (goodIn_ca (goodIn_ca (goodIn_r _ [193, 131, 12, 194, 195, 196, 17, 197, 19, 20, 198, 199, 200, 24, 201, 141, 142, 29, 30, 31, 185, 186, 48, 49, 50, 51, 52, 53, 54, 55, 56, 57, 58, 59, 60, 61, 62, 63, 64, 65, 66, 67, 68, 69, 70, 71, 72, 73, 74, 75, 76, 77, 43, 78, 79, 26, 80, 81, 82, 83, 84, 85, 86, 87, 88, 89, 90, 91, 92, 93, 94, 95, 202, 203, 204, 205, 206, 105, 106, 107, 108, 352, 353, 354, 355, 356, 357, 366, 367, 368, 358, 359, 360, 361, 362, 363, 364, 365, 369, 370, 371, 372, 373, 374, 375, 376] (by decide +kernel) (by decide +kernel)) (goodIn_sub (fun _ h => List.mem_cons_of_mem _ (List.mem_append_left _ (List.mem_append_left _ (List.mem_append_right _ h)))) (by decide +kernel))) (goodIn_sub (fun _ h => List.mem_cons_of_mem _ (List.mem_append_left _ (List.mem_append_right _ h))) (by decide +kernel))) (goodIn_sub (fun _ h => List.mem_cons_of_mem _ (List.mem_append_right _ h)) (by decide +kernel))
set_option maxRecDepth 20000 in
theorem gL_goes_L_setAlarm : GoodIn wsL_goes (va_wsS RL 132 yL_setAlarm wsL_setAlarm) := goodIn_app (goodIn_of _ (by decide +kernel)) ggL_goes_L_setAlarm
set_option maxRecDepth 20000 in
theorem ggL_goes_L_work : GoodIn wsL_goes wsL_work := goodIn_ca (goodIn_ca (goodIn_ca (goodIn_r _ [209, 131, 12, 13, 210, 211, 212, 17, 213, 19, 20, 214, 215, 216, 24, 217, 141, 142, 29, 30, 31, 218, 167, 168, 169, 140, 105, 106, 107, 108, 78, 79, 48, 49, 50, 51, 52, 53, 54, 55, 56, 57, 58, 59, 60, 61, 62, 63, 64, 65, 66, 67, 68, 69, 70, 71, 72, 73, 74, 75, 76, 77, 43, 26, 80, 81, 82, 83, 84, 85, 86, 87, 88, 89, 90, 91, 92, 93, 94, 95, 219, 220, 221, 222, 223, 224, 225, 226, 39, 40, 41, 42, 227, 228, 229, 230, 231, 232, 233, 234, 235, 236, 237, 238, 239, 240, 241, 242, 243, 244, 101, 102, 103, 104, 245, 246, 247, 248, 44, 45, 46, 47, 249, 250, 251, 252, 253, 151, 152, 153, 154, 155, 156, 157, 158, 254, 255, 256, 257, 258, 259, 260, 261, 262, 263, 264, 265, 266, 267, 268, 269, 270, 271, 272, 273, 274, 275, 352, 353, 354, 355, 356, 357, 369, 370, 371, 372, 373, 374, 375, 376, 358, 359, 360, 361, 362, 363, 364, 365, 366, 367, 368] (by decide +kernel) (by decide +kernel)) (goodIn_sub (fun _ h => List.mem_cons_of_mem _ (List.mem_append_left _ (List.mem_append_left _ (List.mem_append_right _ h)))) (by decide +kernel))) (goodIn_sub (fun _ h => List.mem_cons_of_mem _ (List.mem_append_left _ (List.mem_append_right _ h))) (by decide +kernel))) (goodIn_sub (fun _ h => List.mem_cons_of_mem _ (List.mem_append_right _ h)) (by decide +kernel))
set_option maxRecDepth 20000 in
theorem gL_goes_L_work : GoodIn wsL_goes (va_wsS RL 134 yL_work wsL_work) := goodIn_app (goodIn_of _ (by decide +kernel)) ggL_goes_L_work
set_option maxRecDepth 20000 in
theorem ggL_goes_L_pass : GoodIn wsL_goes wsL_pass := goodIn_ca (goodIn_ca (goodIn_ca (goodIn_r _ [278, 12, 13, 279, 280, 281, 17, 282, 19, 20, 283, 284, 285, 24, 286, 80, 30, 31, 48, 49, 50, 51, 52, 53, 54, 55, 56, 57, 58, 59, 60, 61, 62, 63, 64, 65, 66, 67, 68, 69, 70, 71, 72, 73, 74, 75, 76, 77, 43, 78, 79, 26, 81, 82, 83, 84, 85, 86, 87, 88, 89, 90, 91, 92, 93, 94, 95, 287, 288, 289, 290, 140, 291, 292, 293, 294, 105, 106, 107, 108, 295, 220, 221, 222, 223, 224, 225, 226, 39, 40, 41, 42, 227, 228, 229, 230, 231, 232, 233, 234, 235, 236, 237, 238, 239, 240, 241, 242, 243, 244, 101, 102, 103, 104, 245, 246, 247, 248, 44, 45, 46, 47, 249, 250, 251, 252, 253, 151, 152, 153, 154, 155, 156, 157, 158, 254, 255, 256, 257, 258, 259, 260, 261, 262, 263, 264, 265, 266, 267, 268, 269, 270, 271, 272, 273, 274, 275, 352, 353, 354, 355, 356, 357, 358, 359, 360, 361, 362, 363, 364, 365, 366, 367, 368, 369, 370, 371, 372, 373, 374, 375, 376] (by decide +kernel) (by decide +kernel)) (goodIn_sub (fun _ h => List.mem_cons_of_mem _ (List.mem_append_left _ (List.mem_append_left _ (List.mem_append_right _ h)))) (by decide +kernel))) (goodIn_sub (fun _ h => List.mem_cons_of_mem _ (List.mem_append_left _ (List.mem_append_right _ h))) (by decide +kernel))) (goodIn_sub (fun _ h => List.mem_cons_of_mem _ (List.mem_append_right _ h)) (by decide +kernel))
set_option maxRecDepth 20000 in
theorem gL_goes_L_pass : GoodIn wsL_goes (va_wsS RL 136 yL_pass wsL_pass) := goodIn_app (goodIn_of _ (by decide +kernel)) ggL_goes_L_pass
set_option maxRecDepth 20000 in
theorem ggL_goes_L_lose : GoodIn wsL_goes wsL_lose := goodIn_ca (goodIn_ca (goodIn_ca (goodIn_r _ [298, 131, 299, 300, 301, 17, 302, 20, 19, 303, 141, 142, 29, 30, 31, 48, 49, 50, 51, 52, 53, 54, 55, 56, 57, 58, 59, 60, 61, 62, 63, 64, 65, 66, 67, 68, 69, 70, 71, 24, 72, 73, 74, 75, 76, 77, 43, 78, 79, 26, 80, 81, 82, 83, 84, 85, 86, 87, 88, 89, 90, 91, 92, 93, 94, 95, 304, 305, 306, 307, 308, 105, 106, 107, 108, 309, 310, 311, 312, 313, 314, 315, 316, 317, 318, 319, 352, 353, 354, 355, 356, 357, 366, 367, 368, 358, 359, 360, 361, 362, 363, 364, 365, 369, 370, 371, 372, 373, 374, 375, 376] (by decide +kernel) (by decide +kernel)) (goodIn_sub (fun _ h => List.mem_cons_of_mem _ (List.mem_append_left _ (List.mem_append_left _ (List.mem_append_right _ h)))) (by decide +kernel))) (goodIn_sub (fun _ h => List.mem_cons_of_mem _ (List.mem_append_left _ (List.mem_append_right _ h))) (by decide +kernel))) (goodIn_sub (fun _ h => List.mem_cons_of_mem _ (List.mem_append_right _ h)) (by decide +kernel))
set_option maxRecDepth 20000 in
theorem gL_goes_L_lose : GoodIn wsL_goes (va_wsS RL 138 yL_lose wsL_lose) := goodIn_app (goodIn_of _ (by decide +kernel)) ggL_goes_L_lose
set_option maxRecDepth 20000 in
theorem ggL_goes_L_undo : GoodIn wsL_goes wsL_undo := goodIn_ca (goodIn_ca (goodIn_ca (goodIn_r _ [322, 13, 323, 324, 325, 17, 326, 20, 327, 19, 48, 49, 50, 51, 52, 53, 54, 55, 56, 328, 329, 330, 60, 331, 62, 63, 64, 65, 66, 67, 68, 69, 70, 71, 24, 72, 73, 74, 75, 76, 77, 43, 78, 79, 26, 80, 81, 82, 83, 84, 85, 86, 87, 88, 89, 90, 91, 92, 93, 94, 95, 352, 353, 354, 355, 356, 357, 366, 367, 368, 358, 359, 360, 361, 362, 363, 364, 365, 369, 370, 371, 372, 373, 374, 375, 376] (by decide +kernel) (by decide +kernel)) (goodIn_sub (fun _ h => List.mem_cons_of_mem _ (List.mem_append_left _ (List.mem_append_left _ (List.mem_append_right _ h)))) (by decide +kernel))) (goodIn_sub (fun _ h => List.mem_cons_of_mem _ (List.mem_append_left _ (List.mem_append_right _ h))) (by decide +kernel))) (goodIn_sub (fun _ h => List.mem_cons_of_mem _ (List.mem_append_right _ h)) (by decide +kernel))
set_option maxRecDepth 20000 in
theorem gL_goes_L_undo : GoodIn wsL_goes (va_wsS RL 140 yL_undo wsL_undo) := goodIn_app (goodIn_of _ (by decide +kernel)) ggL_goes_L_undo
set_option maxRecDepth 20000 in
theorem ggL_goes_L_type : GoodIn wsL_goes wsL_type := goodIn_ca (goodIn_ca (goodIn_ca (goodIn_r _ [334, 12, 13, 335, 336, 337, 17, 338, 339, 340, 185, 186, 29, 30, 31, 48, 49, 50, 51, 52, 53, 54, 55, 56, 341, 342, 343, 344, 345, 346, 347, 348, 349, 350, 351, 238, 239, 352, 353, 354, 355, 356, 357, 377, 378, 379, 380, 381] (by decide +kernel) (by decide +kernel)) (goodIn_sub (fun _ h => List.mem_cons_of_mem _ (List.mem_append_left _ (List.mem_append_left _ (List.mem_append_right _ h)))) (by decide +kernel))) (goodIn_sub (fun _ h => List.mem_cons_of_mem _ (List.mem_append_left _ (List.mem_append_right _ h))) (by decide +kernel))) (goodIn_sub (fun _ h => List.mem_cons_of_mem _ (List.mem_append_right _ h)) (by decide +kernel))
set_option maxRecDepth 20000 in
theorem gL_goes_L_type : GoodIn wsL_goes (va_wsS RL 143 yL_type wsL_type) := goodIn_app (goodIn_of _ (by decide +kernel)) ggL_goes_L_type
theorem dL_goes_0 : decode cL_goes 0 = .ok (.iload_n 1, 1) := by decide +kernel
theorem dL_goes_1 : decode cL_goes 1 = .ok (.bipush 16, 2) := by decide +kernel
theorem dL_goes_3 : decode cL_goes 3 = .ok (.invokestatic 9, 3) := by decide +kernel
theorem dL_goes_6 : decode cL_goes 6 = .ok (.tableswitch 380 0 14 #[74, 74, 74, 74, 194, 212, 222, 232, 308, 308, 308, 308, 325, 325, 354], 74) := by decide +kernel
theorem dL_goes_80 : decode cL_goes 80 = .ok (.iload_n 2, 1) := by decide +kernel
theorem dL_goes_81 : decode cL_goes 81 = .ok (.iconst 4, 1) := by decide +kernel
theorem dL_goes_82 : decode cL_goes 82 = .ok (.invokestatic 116, 3) := by decide +kernel
theorem dL_goes_85 : decode cL_goes 85 = .ok (.istore 4, 2) := by decide +kernel
theorem dL_goes_87 : decode cL_goes 87 = .ok (.iload 4, 2) := by decide +kernel
theorem dL_goes_89 : decode cL_goes 89 = .ok (.iconst 3, 1) := by decide +kernel
theorem dL_goes_90 : decode cL_goes 90 = .ok (.if_icmp .ne 16, 3) := by decide +kernel
theorem dL_goes_93 : decode cL_goes 93 = .ok (.iload_n 3, 1) := by decide +kernel
theorem dL_goes_94 : decode cL_goes 94 = .ok (.bipush 9, 2) := by decide +kernel
theorem dL_goes_96 : decode cL_goes 96 = .ok (.invokestatic 9, 3) := by decide +kernel
theorem dL_goes_99 : decode cL_goes 99 = .ok (.ifCond .le 7, 3) := by decide +kernel
theorem dL_goes_102 : decode cL_goes 102 = .ok (.iconst 0, 1) := by decide +kernel
theorem dL_goes_103 : decode cL_goes 103 = .ok (.goto 10, 3) := by decide +kernel
theorem dL_goes_106 : decode cL_goes 106 = .ok (.iload_n 2, 1) := by decide +kernel
theorem dL_goes_107 : decode cL_goes 107 = .ok (.iconst 5, 1) := by decide +kernel
theorem dL_goes_108 : decode cL_goes 108 = .ok (.ishr, 1) := by decide +kernel
theorem dL_goes_109 : decode cL_goes 109 = .ok (.iconst 5, 1) := by decide +kernel
theorem dL_goes_110 : decode cL_goes 110 = .ok (.invokestatic 116, 3) := by decide +kernel
theorem dL_goes_113 : decode cL_goes 113 = .ok (.istore 5, 2) := by decide +kernel
theorem dL_goes_115 : decode cL_goes 115 = .ok (.iload 4, 2) := by decide +kernel
theorem dL_goes_117 : decode cL_goes 117 = .ok (.iconst 3, 1) := by decide +kernel
theorem dL_goes_118 : decode cL_goes 118 = .ok (.if_icmp .ne 16, 3) := by decide +kernel
theorem dL_goes_121 : decode cL_goes 121 = .ok (.iload_n 3, 1) := by decide +kernel
theorem dL_goes_122 : decode cL_goes 122 = .ok (.bipush 9, 2) := by decide +kernel
theorem dL_goes_124 : decode cL_goes 124 = .ok (.invokestatic 9, 3) := by decide +kernel
theorem dL_goes_127 : decode cL_goes 127 = .ok (.ifCond .le 7, 3) := by decide +kernel
theorem dL_goes_130 : decode cL_goes 130 = .ok (.iconst 0, 1) := by decide +kernel
theorem dL_goes_131 : decode cL_goes 131 = .ok (.goto 41, 3) := by decide +kernel
theorem dL_goes_134 : decode cL_goes 134 = .ok (.iload 4, 2) := by decide +kernel
theorem dL_goes_136 : decode cL_goes 136 = .ok (.iconst 2, 1) := by decide +kernel
theorem dL_goes_137 : decode cL_goes 137 = .ok (.if_icmp .ne 11, 3) := by decide +kernel
theorem dL_goes_140 : decode cL_goes 140 = .ok (.iload_n 3, 1) := by decide +kernel
theorem dL_goes_141 : decode cL_goes 141 = .ok (.iconst 5, 1) := by decide +kernel
theorem dL_goes_142 : decode cL_goes 142 = .ok (.invokestatic 116, 3) := by decide +kernel
theorem dL_goes_145 : decode cL_goes 145 = .ok (.goto 27, 3) := by decide +kernel
theorem dL_goes_148 : decode cL_goes 148 = .ok (.iload_n 3, 1) := by decide +kernel
theorem dL_goes_149 : decode cL_goes 149 = .ok (.bipush 30, 2) := by decide +kernel
theorem dL_goes_151 : decode cL_goes 151 = .ok (.invokestatic 9, 3) := by decide +kernel
theorem dL_goes_154 : decode cL_goes 154 = .ok (.ifCond .ne 7, 3) := by decide +kernel
theorem dL_goes_157 : decode cL_goes 157 = .ok (.iload_n 3, 1) := by decide +kernel
theorem dL_goes_158 : decode cL_goes 158 = .ok (.goto 14, 3) := by decide +kernel
theorem dL_goes_161 : decode cL_goes 161 = .ok (.iload_n 3, 1) := by decide +kernel
theorem dL_goes_162 : decode cL_goes 162 = .ok (.sipush 1999, 3) := by decide +kernel
theorem dL_goes_165 : decode cL_goes 165 = .ok (.invokestatic 9, 3) := by decide +kernel
theorem dL_goes_168 : decode cL_goes 168 = .ok (.sipush 999, 3) := by decide +kernel
theorem dL_goes_171 : decode cL_goes 171 = .ok (.isub, 1) := by decide +kernel
theorem dL_goes_172 : decode cL_goes 172 = .ok (.istore 6, 2) := by decide +kernel
theorem dL_goes_174 : decode cL_goes 174 = .ok (.aload_n 0, 1) := by decide +kernel
theorem dL_goes_175 : decode cL_goes 175 = .ok (.iload_n 3, 1) := by decide +kernel
theorem dL_goes_176 : decode cL_goes 176 = .ok (.iconst 3, 1) := by decide +kernel
theorem dL_goes_177 : decode cL_goes 177 = .ok (.ishr, 1) := by decide +kernel
theorem dL_goes_178 : decode cL_goes 178 = .ok (.iconst 2, 1) := by decide +kernel
theorem dL_goes_179 : decode cL_goes 179 = .ok (.invokestatic 116, 3) := by decide +kernel
theorem dL_goes_182 : decode cL_goes 182 = .ok (.iload_n 1, 1) := by decide +kernel
theorem dL_goes_183 : decode cL_goes 183 = .ok (.iconst 5, 1) := by decide +kernel
theorem dL_goes_184 : decode cL_goes 184 = .ok (.ishr, 1) := by decide +kernel
theorem dL_goes_185 : decode cL_goes 185 = .ok (.bipush 6, 2) := by decide +kernel
theorem dL_goes_187 : decode cL_goes 187 = .ok (.invokestatic 116, 3) := by decide +kernel
theorem dL_goes_190 : decode cL_goes 190 = .ok (.iload 4, 2) := by decide +kernel
theorem dL_goes_192 : decode cL_goes 192 = .ok (.iload 5, 2) := by decide +kernel
theorem dL_goes_194 : decode cL_goes 194 = .ok (.iload 6, 2) := by decide +kernel
theorem dL_goes_196 : decode cL_goes 196 = .ok (.invokestatic 119, 3) := by decide +kernel
theorem dL_goes_199 : decode cL_goes 199 = .ok (.ireturn, 1) := by decide +kernel
theorem dL_goes_200 : decode cL_goes 200 = .ok (.aload_n 0, 1) := by decide +kernel
theorem dL_goes_201 : decode cL_goes 201 = .ok (.iload_n 3, 1) := by decide +kernel
theorem dL_goes_202 : decode cL_goes 202 = .ok (.iconst 3, 1) := by decide +kernel
theorem dL_goes_203 : decode cL_goes 203 = .ok (.ishr, 1) := by decide +kernel
theorem dL_goes_204 : decode cL_goes 204 = .ok (.iconst 2, 1) := by decide +kernel
theorem dL_goes_205 : decode cL_goes 205 = .ok (.invokestatic 116, 3) := by decide +kernel
theorem dL_goes_208 : decode cL_goes 208 = .ok (.iload_n 2, 1) := by decide +kernel
theorem dL_goes_209 : decode cL_goes 209 = .ok (.bipush 6, 2) := by decide +kernel
theorem dL_goes_211 : decode cL_goes 211 = .ok (.invokestatic 116, 3) := by decide +kernel
theorem dL_goes_214 : decode cL_goes 214 = .ok (.invokestatic 122, 3) := by decide +kernel
theorem dL_goes_217 : decode cL_goes 217 = .ok (.ireturn, 1) := by decide +kernel
theorem dL_goes_218 : decode cL_goes 218 = .ok (.aload_n 0, 1) := by decide +kernel
theorem dL_goes_219 : decode cL_goes 219 = .ok (.iload_n 2, 1) := by decide +kernel
theorem dL_goes_220 : decode cL_goes 220 = .ok (.iconst 2, 1) := by decide +kernel
theorem dL_goes_221 : decode cL_goes 221 = .ok (.invokestatic 116, 3) := by decide +kernel
theorem dL_goes_224 : decode cL_goes 224 = .ok (.invokestatic 125, 3) := by decide +kernel
theorem dL_goes_227 : decode cL_goes 227 = .ok (.ireturn, 1) := by decide +kernel
theorem dL_goes_228 : decode cL_goes 228 = .ok (.aload_n 0, 1) := by decide +kernel
theorem dL_goes_229 : decode cL_goes 229 = .ok (.iload_n 2, 1) := by decide +kernel
theorem dL_goes_230 : decode cL_goes 230 = .ok (.iconst 2, 1) := by decide +kernel
theorem dL_goes_231 : decode cL_goes 231 = .ok (.invokestatic 116, 3) := by decide +kernel
theorem dL_goes_234 : decode cL_goes 234 = .ok (.invokestatic 128, 3) := by decide +kernel
theorem dL_goes_237 : decode cL_goes 237 = .ok (.ireturn, 1) := by decide +kernel
theorem dL_goes_238 : decode cL_goes 238 = .ok (.iload_n 3, 1) := by decide +kernel
theorem dL_goes_239 : decode cL_goes 239 = .ok (.iconst 2, 1) := by decide +kernel
theorem dL_goes_240 : decode cL_goes 240 = .ok (.invokestatic 9, 3) := by decide +kernel
theorem dL_goes_243 : decode cL_goes 243 = .ok (.ifCond .ne 38, 3) := by decide +kernel
theorem dL_goes_246 : decode cL_goes 246 = .ok (.aload_n 0, 1) := by decide +kernel
theorem dL_goes_247 : decode cL_goes 247 = .ok (.iload_n 2, 1) := by decide +kernel
theorem dL_goes_248 : decode cL_goes 248 = .ok (.iconst 2, 1) := by decide +kernel
theorem dL_goes_249 : decode cL_goes 249 = .ok (.invokestatic 116, 3) := by decide +kernel
theorem dL_goes_252 : decode cL_goes 252 = .ok (.iload_n 3, 1) := by decide +kernel
theorem dL_goes_253 : decode cL_goes 253 = .ok (.iconst 2, 1) := by decide +kernel
theorem dL_goes_254 : decode cL_goes 254 = .ok (.ishr, 1) := by decide +kernel
theorem dL_goes_255 : decode cL_goes 255 = .ok (.iload_n 3, 1) := by decide +kernel
theorem dL_goes_256 : decode cL_goes 256 = .ok (.bipush 7, 2) := by decide +kernel
theorem dL_goes_258 : decode cL_goes 258 = .ok (.ishr, 1) := by decide +kernel
theorem dL_goes_259 : decode cL_goes 259 = .ok (.iconst 3, 1) := by decide +kernel
theorem dL_goes_260 : decode cL_goes 260 = .ok (.invokestatic 9, 3) := by decide +kernel
theorem dL_goes_263 : decode cL_goes 263 = .ok (.ifCond .ne 8, 3) := by decide +kernel
theorem dL_goes_266 : decode cL_goes 266 = .ok (.bipush 21, 2) := by decide +kernel
theorem dL_goes_268 : decode cL_goes 268 = .ok (.goto 4, 3) := by decide +kernel
theorem dL_goes_271 : decode cL_goes 271 = .ok (.iconst 3, 1) := by decide +kernel
theorem dL_goes_272 : decode cL_goes 272 = .ok (.invokestatic 116, 3) := by decide +kernel
theorem dL_goes_275 : decode cL_goes 275 = .ok (.invokestatic 130, 3) := by decide +kernel
theorem dL_goes_278 : decode cL_goes 278 = .ok (.goto 35, 3) := by decide +kernel
theorem dL_goes_281 : decode cL_goes 281 = .ok (.aload_n 0, 1) := by decide +kernel
theorem dL_goes_282 : decode cL_goes 282 = .ok (.iload_n 2, 1) := by decide +kernel
theorem dL_goes_283 : decode cL_goes 283 = .ok (.iconst 2, 1) := by decide +kernel
theorem dL_goes_284 : decode cL_goes 284 = .ok (.invokestatic 116, 3) := by decide +kernel
theorem dL_goes_287 : decode cL_goes 287 = .ok (.iload_n 3, 1) := by decide +kernel
theorem dL_goes_288 : decode cL_goes 288 = .ok (.iconst 2, 1) := by decide +kernel
theorem dL_goes_289 : decode cL_goes 289 = .ok (.ishr, 1) := by decide +kernel
theorem dL_goes_290 : decode cL_goes 290 = .ok (.iload_n 3, 1) := by decide +kernel
theorem dL_goes_291 : decode cL_goes 291 = .ok (.bipush 7, 2) := by decide +kernel
theorem dL_goes_293 : decode cL_goes 293 = .ok (.ishr, 1) := by decide +kernel
theorem dL_goes_294 : decode cL_goes 294 = .ok (.iconst 3, 1) := by decide +kernel
theorem dL_goes_295 : decode cL_goes 295 = .ok (.invokestatic 9, 3) := by decide +kernel
theorem dL_goes_298 : decode cL_goes 298 = .ok (.ifCond .ne 8, 3) := by decide +kernel
theorem dL_goes_301 : decode cL_goes 301 = .ok (.bipush 21, 2) := by decide +kernel
theorem dL_goes_303 : decode cL_goes 303 = .ok (.goto 4, 3) := by decide +kernel
theorem dL_goes_306 : decode cL_goes 306 = .ok (.iconst 4, 1) := by decide +kernel
theorem dL_goes_307 : decode cL_goes 307 = .ok (.invokestatic 116, 3) := by decide +kernel
theorem dL_goes_310 : decode cL_goes 310 = .ok (.invokestatic 132, 3) := by decide +kernel
theorem dL_goes_313 : decode cL_goes 313 = .ok (.ireturn, 1) := by decide +kernel
theorem dL_goes_314 : decode cL_goes 314 = .ok (.aload_n 0, 1) := by decide +kernel
theorem dL_goes_315 : decode cL_goes 315 = .ok (.iload_n 2, 1) := by decide +kernel
theorem dL_goes_316 : decode cL_goes 316 = .ok (.iconst 2, 1) := by decide +kernel
theorem dL_goes_317 : decode cL_goes 317 = .ok (.invokestatic 116, 3) := by decide +kernel
theorem dL_goes_320 : decode cL_goes 320 = .ok (.iconst 1, 1) := by decide +kernel
theorem dL_goes_321 : decode cL_goes 321 = .ok (.iload_n 3, 1) := by decide +kernel
theorem dL_goes_322 : decode cL_goes 322 = .ok (.iconst 3, 1) := by decide +kernel
theorem dL_goes_323 : decode cL_goes 323 = .ok (.invokestatic 116, 3) := by decide +kernel
theorem dL_goes_326 : decode cL_goes 326 = .ok (.iadd, 1) := by decide +kernel
theorem dL_goes_327 : decode cL_goes 327 = .ok (.invokestatic 134, 3) := by decide +kernel
theorem dL_goes_330 : decode cL_goes 330 = .ok (.ireturn, 1) := by decide +kernel
theorem dL_goes_331 : decode cL_goes 331 = .ok (.aload_n 0, 1) := by decide +kernel
theorem dL_goes_332 : decode cL_goes 332 = .ok (.iload_n 3, 1) := by decide +kernel
theorem dL_goes_333 : decode cL_goes 333 = .ok (.iconst 4, 1) := by decide +kernel
theorem dL_goes_334 : decode cL_goes 334 = .ok (.invokestatic 9, 3) := by decide +kernel
theorem dL_goes_337 : decode cL_goes 337 = .ok (.ifCond .ne 12, 3) := by decide +kernel
theorem dL_goes_340 : decode cL_goes 340 = .ok (.iload_n 2, 1) := by decide +kernel
theorem dL_goes_341 : decode cL_goes 341 = .ok (.bipush 51, 2) := by decide +kernel
theorem dL_goes_343 : decode cL_goes 343 = .ok (.invokestatic 116, 3) := by decide +kernel
theorem dL_goes_346 : decode cL_goes 346 = .ok (.goto 10, 3) := by decide +kernel
theorem dL_goes_349 : decode cL_goes 349 = .ok (.iconst 1, 1) := by decide +kernel
theorem dL_goes_350 : decode cL_goes 350 = .ok (.iload_n 2, 1) := by decide +kernel
theorem dL_goes_351 : decode cL_goes 351 = .ok (.iconst 3, 1) := by decide +kernel
theorem dL_goes_352 : decode cL_goes 352 = .ok (.invokestatic 9, 3) := by decide +kernel
theorem dL_goes_355 : decode cL_goes 355 = .ok (.iadd, 1) := by decide +kernel
theorem dL_goes_356 : decode cL_goes 356 = .ok (.invokestatic 136, 3) := by decide +kernel
theorem dL_goes_359 : decode cL_goes 359 = .ok (.ireturn, 1) := by decide +kernel
theorem dL_goes_360 : decode cL_goes 360 = .ok (.iload_n 3, 1) := by decide +kernel
theorem dL_goes_361 : decode cL_goes 361 = .ok (.bipush 6, 2) := by decide +kernel
theorem dL_goes_363 : decode cL_goes 363 = .ok (.invokestatic 9, 3) := by decide +kernel
theorem dL_goes_366 : decode cL_goes 366 = .ok (.ifCond .ne 15, 3) := by decide +kernel
theorem dL_goes_369 : decode cL_goes 369 = .ok (.aload_n 0, 1) := by decide +kernel
theorem dL_goes_370 : decode cL_goes 370 = .ok (.iload_n 2, 1) := by decide +kernel
theorem dL_goes_371 : decode cL_goes 371 = .ok (.iconst 2, 1) := by decide +kernel
theorem dL_goes_372 : decode cL_goes 372 = .ok (.invokestatic 116, 3) := by decide +kernel
theorem dL_goes_375 : decode cL_goes 375 = .ok (.invokestatic 138, 3) := by decide +kernel
theorem dL_goes_378 : decode cL_goes 378 = .ok (.goto 7, 3) := by decide +kernel
theorem dL_goes_381 : decode cL_goes 381 = .ok (.aload_n 0, 1) := by decide +kernel
theorem dL_goes_382 : decode cL_goes 382 = .ok (.invokestatic 140, 3) := by decide +kernel
theorem dL_goes_385 : decode cL_goes 385 = .ok (.ireturn, 1) := by decide +kernel
theorem dL_goes_386 : decode cL_goes 386 = .ok (.aload_n 0, 1) := by decide +kernel
theorem dL_goes_387 : decode cL_goes 387 = .ok (.iload_n 2, 1) := by decide +kernel
theorem dL_goes_388 : decode cL_goes 388 = .ok (.sipush 128, 3) := by decide +kernel
theorem dL_goes_391 : decode cL_goes 391 = .ok (.invokestatic 116, 3) := by decide +kernel
theorem dL_goes_394 : decode cL_goes 394 = .ok (.invokestatic 143, 3) := by decide +kernel
theorem dL_goes_397 : decode cL_goes 397 = .ok (.ireturn, 1) := by decide +kernel
