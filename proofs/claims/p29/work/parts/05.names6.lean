set_option maxRecDepth 20000 in
theorem ggX6_init_X3_init : GoodIn wsX6_init wsX3_init := goodIn_r _ [21, 22, 2, 3, 17, 23, 24, 25, 26, 27, 28, 29, 30, 31, 32, 33, 34, 35, 36, 37, 38, 39, 40, 41, 42, 43, 44, 61, 62, 63, 64, 65, 66, 67, 68, 83, 84, 85, 86, 87, 88, 89, 90] (by decide +kernel) (by decide +kernel)
set_option maxRecDepth 20000 in
theorem gX6_init_X3_init_n9 : GoodIn wsX6_init (wsX3_init) := ggX6_init_X3_init
set_option maxRecDepth 20000 in
theorem ggX6_init_X4_init : GoodIn wsX6_init wsX4_init := goodIn_r _ [47, 48, 2, 3, 49, 50, 51, 52, 5, 6, 20, 21, 22, 17, 23, 24, 25, 26, 27, 28, 29, 30, 31, 32, 33, 34, 35, 36, 37, 38, 39, 40, 41, 42, 43, 44, 75, 76, 77, 61, 62, 63, 64, 65, 66, 67, 68, 83, 84, 85, 86, 87, 88, 89, 90] (by decide +kernel) (by decide +kernel)
set_option maxRecDepth 20000 in
theorem gX6_init_X4_init : GoodIn wsX6_init (wsX4_init) := ggX6_init_X4_init
set_option maxRecDepth 20000 in
theorem ggX6_init_X1_init : GoodIn wsX6_init wsX1_init := goodIn_r _ [54, 55, 2, 3, 17, 56, 57, 58, 59, 60, 78, 79, 80, 81, 82] (by decide +kernel) (by decide +kernel)
set_option maxRecDepth 20000 in
theorem gX6_init_X1_init_n28 : GoodIn wsX6_init (wsX1_init) := ggX6_init_X1_init
theorem dX6_init_0 : decode cX6_init 0 = .ok (.aload_n 0, 1) := by decide +kernel
theorem dX6_init_1 : decode cX6_init 1 = .ok (.invokespecial 1, 3) := by decide +kernel
theorem dX6_init_4 : decode cX6_init 4 = .ok (.aload_n 0, 1) := by decide +kernel
theorem dX6_init_5 : decode cX6_init 5 = .ok (.new 7, 3) := by decide +kernel
theorem dX6_init_8 : decode cX6_init 8 = .ok (.dup, 1) := by decide +kernel
theorem dX6_init_9 : decode cX6_init 9 = .ok (.invokespecial 9, 3) := by decide +kernel
theorem dX6_init_12 : decode cX6_init 12 = .ok (.putfield 10, 3) := by decide +kernel
theorem dX6_init_15 : decode cX6_init 15 = .ok (.aload_n 0, 1) := by decide +kernel
theorem dX6_init_16 : decode cX6_init 16 = .ok (.new 7, 3) := by decide +kernel
theorem dX6_init_19 : decode cX6_init 19 = .ok (.dup, 1) := by decide +kernel
theorem dX6_init_20 : decode cX6_init 20 = .ok (.invokespecial 9, 3) := by decide +kernel
theorem dX6_init_23 : decode cX6_init 23 = .ok (.putfield 16, 3) := by decide +kernel
theorem dX6_init_26 : decode cX6_init 26 = .ok (.aload_n 0, 1) := by decide +kernel
theorem dX6_init_27 : decode cX6_init 27 = .ok (.new 19, 3) := by decide +kernel
theorem dX6_init_30 : decode cX6_init 30 = .ok (.dup, 1) := by decide +kernel
theorem dX6_init_31 : decode cX6_init 31 = .ok (.invokespecial 21, 3) := by decide +kernel
theorem dX6_init_34 : decode cX6_init 34 = .ok (.putfield 22, 3) := by decide +kernel
theorem dX6_init_37 : decode cX6_init 37 = .ok (.aload_n 0, 1) := by decide +kernel
theorem dX6_init_38 : decode cX6_init 38 = .ok (.new 26, 3) := by decide +kernel
theorem dX6_init_41 : decode cX6_init 41 = .ok (.dup, 1) := by decide +kernel
theorem dX6_init_42 : decode cX6_init 42 = .ok (.invokespecial 28, 3) := by decide +kernel
theorem dX6_init_45 : decode cX6_init 45 = .ok (.putfield 29, 3) := by decide +kernel
theorem dX6_init_48 : decode cX6_init 48 = .ok (.aload_n 0, 1) := by decide +kernel
theorem dX6_init_49 : decode cX6_init 49 = .ok (.bipush 16, 2) := by decide +kernel
theorem dX6_init_51 : decode cX6_init 51 = .ok (.newarray .int, 2) := by decide +kernel
theorem dX6_init_53 : decode cX6_init 53 = .ok (.putfield 33, 3) := by decide +kernel
theorem dX6_init_56 : decode cX6_init 56 = .ok (.aload_n 0, 1) := by decide +kernel
theorem dX6_init_57 : decode cX6_init 57 = .ok (.bipush 40, 2) := by decide +kernel
theorem dX6_init_59 : decode cX6_init 59 = .ok (.newarray .int, 2) := by decide +kernel
theorem dX6_init_61 : decode cX6_init 61 = .ok (.putfield 37, 3) := by decide +kernel
theorem dX6_init_64 : decode cX6_init 64 = .ok (.return_, 1) := by decide +kernel
set_option maxRecDepth 20000 in
theorem ggX6_order_X3_faultOfTelling : GoodIn wsX6_order wsX3_faultOfTelling := goodIn_r _ [7, 8, 9, 10, 11, 12, 13, 14, 15, 16, 6, 17, 18, 19, 20, 21, 22, 23, 24, 25, 26, 27, 28, 29, 30, 102, 103, 104, 105, 106, 107, 108, 109] (by decide +kernel) (by decide +kernel)
set_option maxRecDepth 20000 in
theorem gX6_order_X3_faultOfTelling : GoodIn wsX6_order (wsV RX6 40 RX3 yX3_faultOfTelling wsX3_faultOfTelling) := goodIn_app (goodIn_of _ (by decide +kernel)) ggX6_order_X3_faultOfTelling
set_option maxRecDepth 20000 in
theorem ggX6_order_X6_refuse : GoodIn wsX6_order wsX6_refuse := goodIn_ca (goodIn_ca (goodIn_ca (goodIn_r _ [33, 34, 35, 36, 37, 38, 39] (by decide +kernel) (by decide +kernel)) (goodIn_sub (fun _ h => List.mem_cons_of_mem _ (List.mem_append_left _ (List.mem_append_left _ (List.mem_append_right _ h)))) (by decide +kernel))) (goodIn_sub (fun _ h => List.mem_cons_of_mem _ (List.mem_append_left _ (List.mem_append_right _ h))) (by decide +kernel))) (goodIn_sub (fun _ h => List.mem_cons_of_mem _ (List.mem_append_right _ h)) (by decide +kernel))
set_option maxRecDepth 20000 in
theorem gX6_order_X6_refuse : GoodIn wsX6_order (va_wsS RX6 44 yX6_refuse wsX6_refuse) := goodIn_app (goodIn_of _ (by decide +kernel)) ggX6_order_X6_refuse
set_option maxRecDepth 20000 in
theorem ggX6_order_X4_save : GoodIn wsX6_order wsX4_save := goodIn_r _ [44, 45, 46, 47, 48, 49, 43, 50, 51, 52, 53, 54, 6, 55, 56, 57, 58, 59, 60, 26, 61, 62, 8, 63, 64, 65, 66, 67, 68, 69, 70, 71, 72, 73, 74, 75, 76, 77, 78, 110, 111, 112, 102, 103, 104, 105, 106, 107, 108, 109, 113, 114, 115, 116, 117, 118, 119, 120] (by decide +kernel) (by decide +kernel)
set_option maxRecDepth 20000 in
theorem gX6_order_X4_save : GoodIn wsX6_order (wsV RX6 48 RX4 yX4_save wsX4_save) := goodIn_app (goodIn_of _ (by decide +kernel)) ggX6_order_X4_save
set_option maxRecDepth 20000 in
theorem ggX6_order_X3_tell : GoodIn wsX6_order wsX3_tell := goodIn_r _ [82, 8, 63, 83, 84, 85, 86, 6, 87, 26, 88, 89, 90, 91, 61, 62, 92, 93, 94, 69, 95, 74, 102, 103, 104, 105, 106, 107, 108, 109, 113, 114, 115, 116, 117, 118, 119, 120] (by decide +kernel) (by decide +kernel)
set_option maxRecDepth 20000 in
theorem gX6_order_X3_tell : GoodIn wsX6_order (wsV RX6 52 RX3 yX3_tell wsX3_tell) := goodIn_app (goodIn_of _ (by decide +kernel)) ggX6_order_X3_tell
theorem dX6_order_0 : decode cX6_order 0 = .ok (.aload_n 0, 1) := by decide +kernel
theorem dX6_order_1 : decode cX6_order 1 = .ok (.getfield 10, 3) := by decide +kernel
theorem dX6_order_4 : decode cX6_order 4 = .ok (.iload_n 1, 1) := by decide +kernel
theorem dX6_order_5 : decode cX6_order 5 = .ok (.iload_n 2, 1) := by decide +kernel
theorem dX6_order_6 : decode cX6_order 6 = .ok (.iload_n 3, 1) := by decide +kernel
theorem dX6_order_7 : decode cX6_order 7 = .ok (.iload 4, 2) := by decide +kernel
theorem dX6_order_9 : decode cX6_order 9 = .ok (.iload 5, 2) := by decide +kernel
theorem dX6_order_11 : decode cX6_order 11 = .ok (.invokevirtual 40, 3) := by decide +kernel
theorem dX6_order_14 : decode cX6_order 14 = .ok (.invokestatic 44, 3) := by decide +kernel
theorem dX6_order_17 : decode cX6_order 17 = .ok (.aload_n 0, 1) := by decide +kernel
theorem dX6_order_18 : decode cX6_order 18 = .ok (.getfield 22, 3) := by decide +kernel
theorem dX6_order_21 : decode cX6_order 21 = .ok (.aload_n 0, 1) := by decide +kernel
theorem dX6_order_22 : decode cX6_order 22 = .ok (.getfield 10, 3) := by decide +kernel
theorem dX6_order_25 : decode cX6_order 25 = .ok (.invokevirtual 48, 3) := by decide +kernel
theorem dX6_order_28 : decode cX6_order 28 = .ok (.aload_n 0, 1) := by decide +kernel
theorem dX6_order_29 : decode cX6_order 29 = .ok (.getfield 10, 3) := by decide +kernel
theorem dX6_order_32 : decode cX6_order 32 = .ok (.iload_n 1, 1) := by decide +kernel
theorem dX6_order_33 : decode cX6_order 33 = .ok (.iload_n 2, 1) := by decide +kernel
theorem dX6_order_34 : decode cX6_order 34 = .ok (.iload_n 3, 1) := by decide +kernel
theorem dX6_order_35 : decode cX6_order 35 = .ok (.iload 4, 2) := by decide +kernel
theorem dX6_order_37 : decode cX6_order 37 = .ok (.iload 5, 2) := by decide +kernel
theorem dX6_order_39 : decode cX6_order 39 = .ok (.invokevirtual 52, 3) := by decide +kernel
theorem dX6_order_42 : decode cX6_order 42 = .ok (.ireturn, 1) := by decide +kernel
set_option maxRecDepth 20000 in
theorem ggX6_cancel_X3_faultOfCancelling : GoodIn wsX6_cancel wsX3_faultOfCancelling := goodIn_r _ [7, 8, 9, 10, 11, 12, 13, 14, 15, 16, 6, 17, 18, 19, 20, 21, 22, 23, 86, 87, 88, 89, 90, 91, 92, 93] (by decide +kernel) (by decide +kernel)
set_option maxRecDepth 20000 in
theorem gX6_cancel_X3_faultOfCancelling : GoodIn wsX6_cancel (wsV RX6 55 RX3 yX3_faultOfCancelling wsX3_faultOfCancelling) := goodIn_app (goodIn_of _ (by decide +kernel)) ggX6_cancel_X3_faultOfCancelling
set_option maxRecDepth 20000 in
theorem ggX6_cancel_X6_refuse : GoodIn wsX6_cancel wsX6_refuse := goodIn_ca (goodIn_ca (goodIn_ca (goodIn_r _ [26, 27, 28, 29, 30, 31, 32] (by decide +kernel) (by decide +kernel)) (goodIn_sub (fun _ h => List.mem_cons_of_mem _ (List.mem_append_left _ (List.mem_append_left _ (List.mem_append_right _ h)))) (by decide +kernel))) (goodIn_sub (fun _ h => List.mem_cons_of_mem _ (List.mem_append_left _ (List.mem_append_right _ h))) (by decide +kernel))) (goodIn_sub (fun _ h => List.mem_cons_of_mem _ (List.mem_append_right _ h)) (by decide +kernel))
set_option maxRecDepth 20000 in
theorem gX6_cancel_X6_refuse : GoodIn wsX6_cancel (va_wsS RX6 44 yX6_refuse wsX6_refuse) := goodIn_app (goodIn_of _ (by decide +kernel)) ggX6_cancel_X6_refuse
set_option maxRecDepth 20000 in
theorem ggX6_cancel_X4_save : GoodIn wsX6_cancel wsX4_save := goodIn_r _ [37, 38, 39, 40, 41, 42, 36, 43, 44, 45, 46, 47, 6, 48, 49, 50, 51, 52, 53, 23, 54, 55, 18, 56, 57, 58, 59, 60, 61, 62, 63, 64, 65, 66, 67, 68, 69, 70, 71, 94, 95, 96, 86, 87, 88, 89, 90, 91, 92, 93, 97, 98, 99, 100, 101, 102, 103, 104] (by decide +kernel) (by decide +kernel)
set_option maxRecDepth 20000 in
theorem gX6_cancel_X4_save : GoodIn wsX6_cancel (wsV RX6 48 RX4 yX4_save wsX4_save) := goodIn_app (goodIn_of _ (by decide +kernel)) ggX6_cancel_X4_save
set_option maxRecDepth 20000 in
theorem ggX6_cancel_X3_callOff : GoodIn wsX6_cancel wsX3_callOff := goodIn_r _ [75, 14, 15, 16, 6, 17, 18, 19, 20, 21, 22, 23, 76, 77, 78, 79, 86, 87, 88, 89, 90, 91, 92, 93] (by decide +kernel) (by decide +kernel)
set_option maxRecDepth 20000 in
theorem gX6_cancel_X3_callOff : GoodIn wsX6_cancel (wsV RX6 59 RX3 yX3_callOff wsX3_callOff) := goodIn_app (goodIn_of _ (by decide +kernel)) ggX6_cancel_X3_callOff
theorem dX6_cancel_0 : decode cX6_cancel 0 = .ok (.aload_n 0, 1) := by decide +kernel
theorem dX6_cancel_1 : decode cX6_cancel 1 = .ok (.getfield 10, 3) := by decide +kernel
theorem dX6_cancel_4 : decode cX6_cancel 4 = .ok (.iload_n 1, 1) := by decide +kernel
theorem dX6_cancel_5 : decode cX6_cancel 5 = .ok (.iload_n 2, 1) := by decide +kernel
theorem dX6_cancel_6 : decode cX6_cancel 6 = .ok (.invokevirtual 55, 3) := by decide +kernel
theorem dX6_cancel_9 : decode cX6_cancel 9 = .ok (.invokestatic 44, 3) := by decide +kernel
theorem dX6_cancel_12 : decode cX6_cancel 12 = .ok (.aload_n 0, 1) := by decide +kernel
theorem dX6_cancel_13 : decode cX6_cancel 13 = .ok (.getfield 22, 3) := by decide +kernel
theorem dX6_cancel_16 : decode cX6_cancel 16 = .ok (.aload_n 0, 1) := by decide +kernel
theorem dX6_cancel_17 : decode cX6_cancel 17 = .ok (.getfield 10, 3) := by decide +kernel
theorem dX6_cancel_20 : decode cX6_cancel 20 = .ok (.invokevirtual 48, 3) := by decide +kernel
theorem dX6_cancel_23 : decode cX6_cancel 23 = .ok (.aload_n 0, 1) := by decide +kernel
theorem dX6_cancel_24 : decode cX6_cancel 24 = .ok (.getfield 10, 3) := by decide +kernel
theorem dX6_cancel_27 : decode cX6_cancel 27 = .ok (.iload_n 1, 1) := by decide +kernel
theorem dX6_cancel_28 : decode cX6_cancel 28 = .ok (.iload_n 2, 1) := by decide +kernel
theorem dX6_cancel_29 : decode cX6_cancel 29 = .ok (.invokevirtual 59, 3) := by decide +kernel
theorem dX6_cancel_32 : decode cX6_cancel 32 = .ok (.ireturn, 1) := by decide +kernel
set_option maxRecDepth 20000 in
theorem ggX6_wake_X3_faultOfWaking : GoodIn wsX6_wake wsX3_faultOfWaking := goodIn_r _ [7, 8, 9, 10, 11, 12, 13, 14, 15, 16, 17, 6, 18, 19, 20, 95, 96, 97, 98, 99, 100, 101, 102, 103, 104, 105, 106, 107, 108, 109, 110] (by decide +kernel) (by decide +kernel)
set_option maxRecDepth 20000 in
theorem gX6_wake_X3_faultOfWaking : GoodIn wsX6_wake (wsV RX6 62 RX3 yX3_faultOfWaking wsX3_faultOfWaking) := goodIn_app (goodIn_of _ (by decide +kernel)) ggX6_wake_X3_faultOfWaking
set_option maxRecDepth 20000 in
theorem ggX6_wake_X6_refuse : GoodIn wsX6_wake wsX6_refuse := goodIn_ca (goodIn_ca (goodIn_ca (goodIn_r _ [23, 24, 25, 26, 27, 28, 29] (by decide +kernel) (by decide +kernel)) (goodIn_sub (fun _ h => List.mem_cons_of_mem _ (List.mem_append_left _ (List.mem_append_left _ (List.mem_append_right _ h)))) (by decide +kernel))) (goodIn_sub (fun _ h => List.mem_cons_of_mem _ (List.mem_append_left _ (List.mem_append_right _ h))) (by decide +kernel))) (goodIn_sub (fun _ h => List.mem_cons_of_mem _ (List.mem_append_right _ h)) (by decide +kernel))
set_option maxRecDepth 20000 in
theorem gX6_wake_X6_refuse : GoodIn wsX6_wake (va_wsS RX6 44 yX6_refuse wsX6_refuse) := goodIn_app (goodIn_of _ (by decide +kernel)) ggX6_wake_X6_refuse
set_option maxRecDepth 20000 in
theorem ggX6_wake_X4_save : GoodIn wsX6_wake wsX4_save := goodIn_r _ [34, 35, 36, 37, 38, 39, 33, 40, 41, 42, 43, 44, 6, 45, 46, 47, 48, 49, 50, 51, 19, 20, 52, 53, 54, 55, 56, 57, 58, 59, 60, 61, 62, 63, 64, 65, 66, 67, 68, 111, 112, 113, 103, 104, 105, 106, 107, 108, 109, 110, 95, 96, 97, 98, 99, 100, 101, 102] (by decide +kernel) (by decide +kernel)
set_option maxRecDepth 20000 in
theorem gX6_wake_X4_save : GoodIn wsX6_wake (wsV RX6 48 RX4 yX4_save wsX4_save) := goodIn_app (goodIn_of _ (by decide +kernel)) ggX6_wake_X4_save
set_option maxRecDepth 20000 in
theorem ggX6_wake_X3_rouse : GoodIn wsX6_wake wsX3_rouse := goodIn_r _ [72, 8, 15, 16, 17, 6, 18, 19, 20, 73, 74, 75, 76, 52, 77, 78, 79, 80, 53, 81, 82, 83, 59, 84, 64, 85, 86, 87, 88, 51, 95, 96, 97, 98, 99, 100, 101, 102, 103, 104, 105, 106, 107, 108, 109, 110] (by decide +kernel) (by decide +kernel)
set_option maxRecDepth 20000 in
theorem gX6_wake_X3_rouse : GoodIn wsX6_wake (wsV RX6 66 RX3 yX3_rouse wsX3_rouse) := goodIn_app (goodIn_of _ (by decide +kernel)) ggX6_wake_X3_rouse
theorem dX6_wake_0 : decode cX6_wake 0 = .ok (.aload_n 0, 1) := by decide +kernel
theorem dX6_wake_1 : decode cX6_wake 1 = .ok (.getfield 10, 3) := by decide +kernel
theorem dX6_wake_4 : decode cX6_wake 4 = .ok (.iload_n 1, 1) := by decide +kernel
theorem dX6_wake_5 : decode cX6_wake 5 = .ok (.invokevirtual 62, 3) := by decide +kernel
theorem dX6_wake_8 : decode cX6_wake 8 = .ok (.invokestatic 44, 3) := by decide +kernel
theorem dX6_wake_11 : decode cX6_wake 11 = .ok (.aload_n 0, 1) := by decide +kernel
theorem dX6_wake_12 : decode cX6_wake 12 = .ok (.getfield 22, 3) := by decide +kernel
theorem dX6_wake_15 : decode cX6_wake 15 = .ok (.aload_n 0, 1) := by decide +kernel
theorem dX6_wake_16 : decode cX6_wake 16 = .ok (.getfield 10, 3) := by decide +kernel
theorem dX6_wake_19 : decode cX6_wake 19 = .ok (.invokevirtual 48, 3) := by decide +kernel
theorem dX6_wake_22 : decode cX6_wake 22 = .ok (.aload_n 0, 1) := by decide +kernel
theorem dX6_wake_23 : decode cX6_wake 23 = .ok (.getfield 10, 3) := by decide +kernel
theorem dX6_wake_26 : decode cX6_wake 26 = .ok (.iload_n 1, 1) := by decide +kernel
theorem dX6_wake_27 : decode cX6_wake 27 = .ok (.invokevirtual 66, 3) := by decide +kernel
theorem dX6_wake_30 : decode cX6_wake 30 = .ok (.ireturn, 1) := by decide +kernel
set_option maxRecDepth 20000 in
theorem ggX6_sleep_X3_faultOfNeedingAwake : GoodIn wsX6_sleep wsX3_faultOfNeedingAwake := goodIn_r _ [7, 8, 9, 10, 11, 12, 13, 14, 15, 16, 17, 6, 18, 19, 20, 95, 96, 97, 98, 99, 100, 101, 102, 103, 104, 105, 106, 107, 108, 109, 110] (by decide +kernel) (by decide +kernel)
set_option maxRecDepth 20000 in
theorem gX6_sleep_X3_faultOfNeedingAwake : GoodIn wsX6_sleep (wsV RX6 69 RX3 yX3_faultOfNeedingAwake wsX3_faultOfNeedingAwake) := goodIn_app (goodIn_of _ (by decide +kernel)) ggX6_sleep_X3_faultOfNeedingAwake
set_option maxRecDepth 20000 in
theorem ggX6_sleep_X6_refuse : GoodIn wsX6_sleep wsX6_refuse := goodIn_ca (goodIn_ca (goodIn_ca (goodIn_r _ [23, 24, 25, 26, 27, 28, 29] (by decide +kernel) (by decide +kernel)) (goodIn_sub (fun _ h => List.mem_cons_of_mem _ (List.mem_append_left _ (List.mem_append_left _ (List.mem_append_right _ h)))) (by decide +kernel))) (goodIn_sub (fun _ h => List.mem_cons_of_mem _ (List.mem_append_left _ (List.mem_append_right _ h))) (by decide +kernel))) (goodIn_sub (fun _ h => List.mem_cons_of_mem _ (List.mem_append_right _ h)) (by decide +kernel))
set_option maxRecDepth 20000 in
theorem gX6_sleep_X6_refuse : GoodIn wsX6_sleep (va_wsS RX6 44 yX6_refuse wsX6_refuse) := goodIn_app (goodIn_of _ (by decide +kernel)) ggX6_sleep_X6_refuse
set_option maxRecDepth 20000 in
theorem ggX6_sleep_X4_save : GoodIn wsX6_sleep wsX4_save := goodIn_r _ [34, 35, 36, 37, 38, 39, 33, 40, 41, 42, 43, 44, 6, 45, 46, 47, 48, 49, 50, 51, 19, 20, 52, 53, 54, 55, 56, 57, 58, 59, 60, 61, 62, 63, 64, 65, 66, 67, 68, 111, 112, 113, 103, 104, 105, 106, 107, 108, 109, 110, 95, 96, 97, 98, 99, 100, 101, 102] (by decide +kernel) (by decide +kernel)
set_option maxRecDepth 20000 in
theorem gX6_sleep_X4_save : GoodIn wsX6_sleep (wsV RX6 48 RX4 yX4_save wsX4_save) := goodIn_app (goodIn_of _ (by decide +kernel)) ggX6_sleep_X4_save
set_option maxRecDepth 20000 in
theorem ggX6_sleep_X3_putToSleep : GoodIn wsX6_sleep wsX3_putToSleep := goodIn_r _ [72, 8, 15, 16, 17, 6, 18, 19, 20, 73, 74, 75, 76, 52, 77, 78, 79, 80, 53, 81, 82, 83, 59, 84, 64, 85, 86, 87, 88, 51, 95, 96, 97, 98, 99, 100, 101, 102, 103, 104, 105, 106, 107, 108, 109, 110] (by decide +kernel) (by decide +kernel)
set_option maxRecDepth 20000 in
theorem gX6_sleep_X3_putToSleep : GoodIn wsX6_sleep (wsV RX6 72 RX3 yX3_putToSleep wsX3_putToSleep) := goodIn_app (goodIn_of _ (by decide +kernel)) ggX6_sleep_X3_putToSleep
theorem dX6_sleep_0 : decode cX6_sleep 0 = .ok (.aload_n 0, 1) := by decide +kernel
theorem dX6_sleep_1 : decode cX6_sleep 1 = .ok (.getfield 10, 3) := by decide +kernel
theorem dX6_sleep_4 : decode cX6_sleep 4 = .ok (.iload_n 1, 1) := by decide +kernel
theorem dX6_sleep_5 : decode cX6_sleep 5 = .ok (.invokevirtual 69, 3) := by decide +kernel
theorem dX6_sleep_8 : decode cX6_sleep 8 = .ok (.invokestatic 44, 3) := by decide +kernel
theorem dX6_sleep_11 : decode cX6_sleep 11 = .ok (.aload_n 0, 1) := by decide +kernel
theorem dX6_sleep_12 : decode cX6_sleep 12 = .ok (.getfield 22, 3) := by decide +kernel
theorem dX6_sleep_15 : decode cX6_sleep 15 = .ok (.aload_n 0, 1) := by decide +kernel
theorem dX6_sleep_16 : decode cX6_sleep 16 = .ok (.getfield 10, 3) := by decide +kernel
theorem dX6_sleep_19 : decode cX6_sleep 19 = .ok (.invokevirtual 48, 3) := by decide +kernel
theorem dX6_sleep_22 : decode cX6_sleep 22 = .ok (.aload_n 0, 1) := by decide +kernel
theorem dX6_sleep_23 : decode cX6_sleep 23 = .ok (.getfield 10, 3) := by decide +kernel
theorem dX6_sleep_26 : decode cX6_sleep 26 = .ok (.iload_n 1, 1) := by decide +kernel
theorem dX6_sleep_27 : decode cX6_sleep 27 = .ok (.invokevirtual 72, 3) := by decide +kernel
theorem dX6_sleep_30 : decode cX6_sleep 30 = .ok (.ireturn, 1) := by decide +kernel
set_option maxRecDepth 20000 in
theorem ggX6_setDelay_X3_faultOfDelay : GoodIn wsX6_setDelay wsX3_faultOfDelay := goodIn_r _ [7, 8, 9, 10, 11, 12, 13, 14, 15] (by decide +kernel) (by decide +kernel)
set_option maxRecDepth 20000 in
theorem gX6_setDelay_X3_faultOfDelay : GoodIn wsX6_setDelay (wsV RX6 75 RX3 yX3_faultOfDelay wsX3_faultOfDelay) := goodIn_app (goodIn_of _ (by decide +kernel)) ggX6_setDelay_X3_faultOfDelay
set_option maxRecDepth 20000 in
theorem ggX6_setDelay_X6_refuse : GoodIn wsX6_setDelay wsX6_refuse := goodIn_ca (goodIn_ca (goodIn_ca (goodIn_r _ [18, 19, 20, 21, 22, 23, 24] (by decide +kernel) (by decide +kernel)) (goodIn_sub (fun _ h => List.mem_cons_of_mem _ (List.mem_append_left _ (List.mem_append_left _ (List.mem_append_right _ h)))) (by decide +kernel))) (goodIn_sub (fun _ h => List.mem_cons_of_mem _ (List.mem_append_left _ (List.mem_append_right _ h))) (by decide +kernel))) (goodIn_sub (fun _ h => List.mem_cons_of_mem _ (List.mem_append_right _ h)) (by decide +kernel))
set_option maxRecDepth 20000 in
theorem gX6_setDelay_X6_refuse : GoodIn wsX6_setDelay (va_wsS RX6 44 yX6_refuse wsX6_refuse) := goodIn_app (goodIn_of _ (by decide +kernel)) ggX6_setDelay_X6_refuse
set_option maxRecDepth 20000 in
theorem ggX6_setDelay_X4_save : GoodIn wsX6_setDelay wsX4_save := goodIn_r _ [29, 30, 31, 32, 33, 34, 28, 35, 36, 37, 38, 39, 6, 40, 41, 42, 43, 44, 45, 46, 47, 48, 49, 50, 51, 52, 53, 54, 55, 56, 57, 58, 59, 60, 61, 62, 63, 64, 65, 81, 82, 83, 84, 85, 86, 87, 88, 89, 90, 91, 92, 93, 94, 95, 96, 97, 98, 99] (by decide +kernel) (by decide +kernel)
set_option maxRecDepth 20000 in
theorem gX6_setDelay_X4_save : GoodIn wsX6_setDelay (wsV RX6 48 RX4 yX4_save wsX4_save) := goodIn_app (goodIn_of _ (by decide +kernel)) ggX6_setDelay_X4_save
set_option maxRecDepth 20000 in
theorem ggX6_setDelay_X3_changeDelay : GoodIn wsX6_setDelay wsX3_changeDelay := goodIn_r _ [69, 70, 71, 72, 73, 6, 74, 47, 48, 92, 93, 94, 95, 96, 97, 98, 99, 84, 85, 86, 87, 88, 89, 90, 91] (by decide +kernel) (by decide +kernel)
set_option maxRecDepth 20000 in
theorem gX6_setDelay_X3_changeDelay : GoodIn wsX6_setDelay (wsV RX6 78 RX3 yX3_changeDelay wsX3_changeDelay) := goodIn_app (goodIn_of _ (by decide +kernel)) ggX6_setDelay_X3_changeDelay
theorem dX6_setDelay_0 : decode cX6_setDelay 0 = .ok (.aload_n 0, 1) := by decide +kernel
theorem dX6_setDelay_1 : decode cX6_setDelay 1 = .ok (.getfield 10, 3) := by decide +kernel
theorem dX6_setDelay_4 : decode cX6_setDelay 4 = .ok (.iload_n 1, 1) := by decide +kernel
theorem dX6_setDelay_5 : decode cX6_setDelay 5 = .ok (.iload_n 2, 1) := by decide +kernel
theorem dX6_setDelay_6 : decode cX6_setDelay 6 = .ok (.invokevirtual 75, 3) := by decide +kernel
theorem dX6_setDelay_9 : decode cX6_setDelay 9 = .ok (.invokestatic 44, 3) := by decide +kernel
theorem dX6_setDelay_12 : decode cX6_setDelay 12 = .ok (.aload_n 0, 1) := by decide +kernel
theorem dX6_setDelay_13 : decode cX6_setDelay 13 = .ok (.getfield 22, 3) := by decide +kernel
theorem dX6_setDelay_16 : decode cX6_setDelay 16 = .ok (.aload_n 0, 1) := by decide +kernel
theorem dX6_setDelay_17 : decode cX6_setDelay 17 = .ok (.getfield 10, 3) := by decide +kernel
theorem dX6_setDelay_20 : decode cX6_setDelay 20 = .ok (.invokevirtual 48, 3) := by decide +kernel
theorem dX6_setDelay_23 : decode cX6_setDelay 23 = .ok (.aload_n 0, 1) := by decide +kernel
theorem dX6_setDelay_24 : decode cX6_setDelay 24 = .ok (.getfield 10, 3) := by decide +kernel
theorem dX6_setDelay_27 : decode cX6_setDelay 27 = .ok (.iload_n 1, 1) := by decide +kernel
theorem dX6_setDelay_28 : decode cX6_setDelay 28 = .ok (.iload_n 2, 1) := by decide +kernel
theorem dX6_setDelay_29 : decode cX6_setDelay 29 = .ok (.invokevirtual 78, 3) := by decide +kernel
theorem dX6_setDelay_32 : decode cX6_setDelay 32 = .ok (.ireturn, 1) := by decide +kernel
set_option maxRecDepth 20000 in
theorem ggX6_setAlarm_X3_faultOfAlarm : GoodIn wsX6_setAlarm wsX3_faultOfAlarm := goodIn_r _ [7, 8, 9, 10, 11, 12, 13, 14, 15] (by decide +kernel) (by decide +kernel)
set_option maxRecDepth 20000 in
theorem gX6_setAlarm_X3_faultOfAlarm : GoodIn wsX6_setAlarm (wsV RX6 81 RX3 yX3_faultOfAlarm wsX3_faultOfAlarm) := goodIn_app (goodIn_of _ (by decide +kernel)) ggX6_setAlarm_X3_faultOfAlarm
set_option maxRecDepth 20000 in
theorem ggX6_setAlarm_X6_refuse : GoodIn wsX6_setAlarm wsX6_refuse := goodIn_ca (goodIn_ca (goodIn_ca (goodIn_r _ [18, 19, 20, 21, 22, 23, 24] (by decide +kernel) (by decide +kernel)) (goodIn_sub (fun _ h => List.mem_cons_of_mem _ (List.mem_append_left _ (List.mem_append_left _ (List.mem_append_right _ h)))) (by decide +kernel))) (goodIn_sub (fun _ h => List.mem_cons_of_mem _ (List.mem_append_left _ (List.mem_append_right _ h))) (by decide +kernel))) (goodIn_sub (fun _ h => List.mem_cons_of_mem _ (List.mem_append_right _ h)) (by decide +kernel))
set_option maxRecDepth 20000 in
theorem gX6_setAlarm_X6_refuse : GoodIn wsX6_setAlarm (va_wsS RX6 44 yX6_refuse wsX6_refuse) := goodIn_app (goodIn_of _ (by decide +kernel)) ggX6_setAlarm_X6_refuse
set_option maxRecDepth 20000 in
theorem ggX6_setAlarm_X4_save : GoodIn wsX6_setAlarm wsX4_save := goodIn_r _ [29, 30, 31, 32, 33, 34, 28, 35, 36, 37, 38, 39, 6, 40, 41, 42, 43, 44, 45, 46, 47, 48, 49, 50, 51, 52, 53, 54, 55, 56, 57, 58, 59, 60, 61, 62, 63, 64, 65, 81, 82, 83, 84, 85, 86, 87, 88, 89, 90, 91, 92, 93, 94, 95, 96, 97, 98, 99] (by decide +kernel) (by decide +kernel)
set_option maxRecDepth 20000 in
theorem gX6_setAlarm_X4_save : GoodIn wsX6_setAlarm (wsV RX6 48 RX4 yX4_save wsX4_save) := goodIn_app (goodIn_of _ (by decide +kernel)) ggX6_setAlarm_X4_save
set_option maxRecDepth 20000 in
theorem ggX6_setAlarm_X3_changeAlarm : GoodIn wsX6_setAlarm wsX3_changeAlarm := goodIn_r _ [69, 70, 71, 72, 73, 6, 74, 47, 48, 92, 93, 94, 95, 96, 97, 98, 99, 84, 85, 86, 87, 88, 89, 90, 91] (by decide +kernel) (by decide +kernel)
set_option maxRecDepth 20000 in
theorem gX6_setAlarm_X3_changeAlarm : GoodIn wsX6_setAlarm (wsV RX6 84 RX3 yX3_changeAlarm wsX3_changeAlarm) := goodIn_app (goodIn_of _ (by decide +kernel)) ggX6_setAlarm_X3_changeAlarm
theorem dX6_setAlarm_0 : decode cX6_setAlarm 0 = .ok (.aload_n 0, 1) := by decide +kernel
theorem dX6_setAlarm_1 : decode cX6_setAlarm 1 = .ok (.getfield 10, 3) := by decide +kernel
theorem dX6_setAlarm_4 : decode cX6_setAlarm 4 = .ok (.iload_n 1, 1) := by decide +kernel
theorem dX6_setAlarm_5 : decode cX6_setAlarm 5 = .ok (.iload_n 2, 1) := by decide +kernel
theorem dX6_setAlarm_6 : decode cX6_setAlarm 6 = .ok (.invokevirtual 81, 3) := by decide +kernel
theorem dX6_setAlarm_9 : decode cX6_setAlarm 9 = .ok (.invokestatic 44, 3) := by decide +kernel
theorem dX6_setAlarm_12 : decode cX6_setAlarm 12 = .ok (.aload_n 0, 1) := by decide +kernel
theorem dX6_setAlarm_13 : decode cX6_setAlarm 13 = .ok (.getfield 22, 3) := by decide +kernel
theorem dX6_setAlarm_16 : decode cX6_setAlarm 16 = .ok (.aload_n 0, 1) := by decide +kernel
theorem dX6_setAlarm_17 : decode cX6_setAlarm 17 = .ok (.getfield 10, 3) := by decide +kernel
theorem dX6_setAlarm_20 : decode cX6_setAlarm 20 = .ok (.invokevirtual 48, 3) := by decide +kernel
theorem dX6_setAlarm_23 : decode cX6_setAlarm 23 = .ok (.aload_n 0, 1) := by decide +kernel
theorem dX6_setAlarm_24 : decode cX6_setAlarm 24 = .ok (.getfield 10, 3) := by decide +kernel
theorem dX6_setAlarm_27 : decode cX6_setAlarm 27 = .ok (.iload_n 1, 1) := by decide +kernel
theorem dX6_setAlarm_28 : decode cX6_setAlarm 28 = .ok (.iload_n 2, 1) := by decide +kernel
theorem dX6_setAlarm_29 : decode cX6_setAlarm 29 = .ok (.invokevirtual 84, 3) := by decide +kernel
theorem dX6_setAlarm_32 : decode cX6_setAlarm 32 = .ok (.ireturn, 1) := by decide +kernel
set_option maxRecDepth 20000 in
theorem ggX6_work_X3_faultOfWorking : GoodIn wsX6_work wsX3_faultOfWorking := goodIn_r _ [7, 8, 9, 10, 11, 12, 13, 14, 15, 16, 6, 17, 18, 19, 20, 21, 22, 23, 24, 156, 157, 158, 159, 160, 161, 162, 163, 164, 165, 166, 167, 168, 169, 170, 171] (by decide +kernel) (by decide +kernel)
set_option maxRecDepth 20000 in
theorem gX6_work_X3_faultOfWorking : GoodIn wsX6_work (wsV RX6 87 RX3 yX3_faultOfWorking wsX3_faultOfWorking) := goodIn_app (goodIn_of _ (by decide +kernel)) ggX6_work_X3_faultOfWorking
set_option maxRecDepth 20000 in
theorem ggX6_work_X6_refuse : GoodIn wsX6_work wsX6_refuse := goodIn_ca (goodIn_ca (goodIn_ca (goodIn_r _ [27, 28, 29, 30, 31, 32, 33] (by decide +kernel) (by decide +kernel)) (goodIn_sub (fun _ h => List.mem_cons_of_mem _ (List.mem_append_left _ (List.mem_append_left _ (List.mem_append_right _ h)))) (by decide +kernel))) (goodIn_sub (fun _ h => List.mem_cons_of_mem _ (List.mem_append_left _ (List.mem_append_right _ h))) (by decide +kernel))) (goodIn_sub (fun _ h => List.mem_cons_of_mem _ (List.mem_append_right _ h)) (by decide +kernel))
set_option maxRecDepth 20000 in
theorem gX6_work_X6_refuse : GoodIn wsX6_work (va_wsS RX6 44 yX6_refuse wsX6_refuse) := goodIn_app (goodIn_of _ (by decide +kernel)) ggX6_work_X6_refuse
set_option maxRecDepth 20000 in
theorem ggX6_work_X4_save : GoodIn wsX6_work wsX4_save := goodIn_r _ [38, 39, 40, 41, 42, 43, 37, 44, 45, 46, 47, 48, 6, 49, 50, 51, 52, 53, 54, 55, 23, 24, 56, 57, 58, 59, 60, 61, 62, 63, 64, 65, 66, 67, 68, 69, 70, 71, 72, 172, 173, 174, 164, 165, 166, 167, 168, 169, 170, 171, 156, 157, 158, 159, 160, 161, 162, 163] (by decide +kernel) (by decide +kernel)
set_option maxRecDepth 20000 in
theorem gX6_work_X4_save : GoodIn wsX6_work (wsV RX6 48 RX4 yX4_save wsX4_save) := goodIn_app (goodIn_of _ (by decide +kernel)) ggX6_work_X4_save
set_option maxRecDepth 20000 in
theorem ggX6_work_X3_letWork : GoodIn wsX6_work wsX3_letWork := goodIn_r _ [76, 56, 77, 78, 79, 6, 80, 58, 81, 82, 83, 84, 55, 85, 86, 87, 88, 50, 89, 90, 91, 92, 93, 59, 94, 9, 95, 96, 97, 98, 99, 100, 101, 57, 102, 103, 104, 105, 106, 19, 20, 21, 22, 23, 24, 107, 108, 109, 110, 111, 112, 113, 114, 115, 116, 117, 118, 119, 120, 121, 122, 123, 124, 125, 126, 63, 127, 68, 128, 129, 130, 131, 132, 133, 134, 135, 136, 137, 138, 139, 140, 141, 142, 143, 144, 145, 146, 147, 148, 149, 65, 72, 164, 165, 166, 167, 168, 169, 170, 171, 156, 157, 158, 159, 160, 161, 162, 163] (by decide +kernel) (by decide +kernel)
set_option maxRecDepth 20000 in
theorem gX6_work_X3_letWork : GoodIn wsX6_work (wsV RX6 90 RX3 yX3_letWork wsX3_letWork) := goodIn_app (goodIn_of _ (by decide +kernel)) ggX6_work_X3_letWork
theorem dX6_work_0 : decode cX6_work 0 = .ok (.aload_n 0, 1) := by decide +kernel
theorem dX6_work_1 : decode cX6_work 1 = .ok (.getfield 10, 3) := by decide +kernel
theorem dX6_work_4 : decode cX6_work 4 = .ok (.iload_n 1, 1) := by decide +kernel
theorem dX6_work_5 : decode cX6_work 5 = .ok (.iload_n 2, 1) := by decide +kernel
theorem dX6_work_6 : decode cX6_work 6 = .ok (.invokevirtual 87, 3) := by decide +kernel
theorem dX6_work_9 : decode cX6_work 9 = .ok (.invokestatic 44, 3) := by decide +kernel
theorem dX6_work_12 : decode cX6_work 12 = .ok (.aload_n 0, 1) := by decide +kernel
theorem dX6_work_13 : decode cX6_work 13 = .ok (.getfield 22, 3) := by decide +kernel
theorem dX6_work_16 : decode cX6_work 16 = .ok (.aload_n 0, 1) := by decide +kernel
theorem dX6_work_17 : decode cX6_work 17 = .ok (.getfield 10, 3) := by decide +kernel
theorem dX6_work_20 : decode cX6_work 20 = .ok (.invokevirtual 48, 3) := by decide +kernel
theorem dX6_work_23 : decode cX6_work 23 = .ok (.aload_n 0, 1) := by decide +kernel
theorem dX6_work_24 : decode cX6_work 24 = .ok (.getfield 10, 3) := by decide +kernel
theorem dX6_work_27 : decode cX6_work 27 = .ok (.iload_n 1, 1) := by decide +kernel
theorem dX6_work_28 : decode cX6_work 28 = .ok (.iload_n 2, 1) := by decide +kernel
theorem dX6_work_29 : decode cX6_work 29 = .ok (.invokevirtual 90, 3) := by decide +kernel
theorem dX6_work_32 : decode cX6_work 32 = .ok (.ireturn, 1) := by decide +kernel
set_option maxRecDepth 20000 in
theorem ggX6_pass_X3_faultOfPassing : GoodIn wsX6_pass wsX3_faultOfPassing := goodIn_r _ [7, 8, 9, 10, 11, 157, 158, 159, 160, 161, 162, 163, 164] (by decide +kernel) (by decide +kernel)
set_option maxRecDepth 20000 in
theorem gX6_pass_X3_faultOfPassing : GoodIn wsX6_pass (wsV RX6 93 RX3 yX3_faultOfPassing wsX3_faultOfPassing) := goodIn_app (goodIn_of _ (by decide +kernel)) ggX6_pass_X3_faultOfPassing
set_option maxRecDepth 20000 in
theorem ggX6_pass_X6_refuse : GoodIn wsX6_pass wsX6_refuse := goodIn_ca (goodIn_ca (goodIn_ca (goodIn_r _ [14, 15, 16, 17, 18, 19, 20] (by decide +kernel) (by decide +kernel)) (goodIn_sub (fun _ h => List.mem_cons_of_mem _ (List.mem_append_left _ (List.mem_append_left _ (List.mem_append_right _ h)))) (by decide +kernel))) (goodIn_sub (fun _ h => List.mem_cons_of_mem _ (List.mem_append_left _ (List.mem_append_right _ h))) (by decide +kernel))) (goodIn_sub (fun _ h => List.mem_cons_of_mem _ (List.mem_append_right _ h)) (by decide +kernel))
set_option maxRecDepth 20000 in
theorem gX6_pass_X6_refuse : GoodIn wsX6_pass (va_wsS RX6 44 yX6_refuse wsX6_refuse) := goodIn_app (goodIn_of _ (by decide +kernel)) ggX6_pass_X6_refuse
set_option maxRecDepth 20000 in
theorem ggX6_pass_X4_save : GoodIn wsX6_pass wsX4_save := goodIn_r _ [25, 26, 27, 28, 29, 30, 24, 31, 32, 33, 34, 35, 6, 36, 37, 38, 39, 40, 41, 42, 43, 44, 45, 8, 46, 47, 48, 49, 50, 51, 52, 53, 54, 55, 56, 57, 58, 59, 60, 165, 166, 167, 157, 158, 159, 160, 161, 162, 163, 164, 168, 169, 170, 171, 172, 173, 174, 175] (by decide +kernel) (by decide +kernel)
set_option maxRecDepth 20000 in
theorem gX6_pass_X4_save : GoodIn wsX6_pass (wsV RX6 48 RX4 yX4_save wsX4_save) := goodIn_app (goodIn_of _ (by decide +kernel)) ggX6_pass_X4_save
set_option maxRecDepth 20000 in
theorem ggX6_pass_X3_letPass : GoodIn wsX6_pass wsX3_letPass := goodIn_r _ [64, 43, 8, 44, 65, 66, 67, 68, 51, 69, 55, 53, 70, 71, 72, 6, 73, 74, 75, 76, 77, 45, 78, 79, 80, 81, 46, 82, 83, 84, 85, 42, 86, 87, 88, 89, 37, 90, 91, 92, 93, 94, 47, 95, 10, 96, 97, 98, 99, 100, 101, 102, 103, 104, 105, 106, 107, 108, 109, 110, 111, 112, 113, 114, 115, 116, 117, 118, 119, 120, 121, 122, 123, 124, 125, 126, 127, 128, 56, 129, 130, 131, 132, 133, 134, 135, 136, 137, 138, 139, 140, 141, 142, 143, 144, 145, 146, 147, 148, 149, 150, 60, 157, 158, 159, 160, 161, 162, 163, 164, 168, 169, 170, 171, 172, 173, 174, 175] (by decide +kernel) (by decide +kernel)
set_option maxRecDepth 20000 in
theorem gX6_pass_X3_letPass : GoodIn wsX6_pass (wsV RX6 96 RX3 yX3_letPass wsX3_letPass) := goodIn_app (goodIn_of _ (by decide +kernel)) ggX6_pass_X3_letPass
theorem dX6_pass_0 : decode cX6_pass 0 = .ok (.aload_n 0, 1) := by decide +kernel
theorem dX6_pass_1 : decode cX6_pass 1 = .ok (.getfield 10, 3) := by decide +kernel
theorem dX6_pass_4 : decode cX6_pass 4 = .ok (.iload_n 1, 1) := by decide +kernel
theorem dX6_pass_5 : decode cX6_pass 5 = .ok (.invokevirtual 93, 3) := by decide +kernel
theorem dX6_pass_8 : decode cX6_pass 8 = .ok (.invokestatic 44, 3) := by decide +kernel
theorem dX6_pass_11 : decode cX6_pass 11 = .ok (.aload_n 0, 1) := by decide +kernel
theorem dX6_pass_12 : decode cX6_pass 12 = .ok (.getfield 22, 3) := by decide +kernel
theorem dX6_pass_15 : decode cX6_pass 15 = .ok (.aload_n 0, 1) := by decide +kernel
theorem dX6_pass_16 : decode cX6_pass 16 = .ok (.getfield 10, 3) := by decide +kernel
theorem dX6_pass_19 : decode cX6_pass 19 = .ok (.invokevirtual 48, 3) := by decide +kernel
theorem dX6_pass_22 : decode cX6_pass 22 = .ok (.aload_n 0, 1) := by decide +kernel
theorem dX6_pass_23 : decode cX6_pass 23 = .ok (.getfield 10, 3) := by decide +kernel
theorem dX6_pass_26 : decode cX6_pass 26 = .ok (.iload_n 1, 1) := by decide +kernel
theorem dX6_pass_27 : decode cX6_pass 27 = .ok (.invokevirtual 96, 3) := by decide +kernel
theorem dX6_pass_30 : decode cX6_pass 30 = .ok (.ireturn, 1) := by decide +kernel
set_option maxRecDepth 20000 in
theorem ggX6_lose_X6_faultOfController : GoodIn wsX6_lose wsX6_faultOfController := goodIn_r _ [6, 7, 8, 5, 9] (by decide +kernel) (by decide +kernel)
set_option maxRecDepth 20000 in
theorem gX6_lose_X6_faultOfController : GoodIn wsX6_lose (va_wsS RX6 99 yX6_faultOfController wsX6_faultOfController) := goodIn_app (goodIn_of _ (by decide +kernel)) ggX6_lose_X6_faultOfController
set_option maxRecDepth 20000 in
theorem ggX6_lose_X6_refuse : GoodIn wsX6_lose wsX6_refuse := goodIn_ca (goodIn_ca (goodIn_ca (goodIn_r _ [12, 13, 14, 15, 16, 17, 18] (by decide +kernel) (by decide +kernel)) (goodIn_sub (fun _ h => List.mem_cons_of_mem _ (List.mem_append_left _ (List.mem_append_left _ (List.mem_append_right _ h)))) (by decide +kernel))) (goodIn_sub (fun _ h => List.mem_cons_of_mem _ (List.mem_append_left _ (List.mem_append_right _ h))) (by decide +kernel))) (goodIn_sub (fun _ h => List.mem_cons_of_mem _ (List.mem_append_right _ h)) (by decide +kernel))
set_option maxRecDepth 20000 in
theorem gX6_lose_X6_refuse : GoodIn wsX6_lose (va_wsS RX6 44 yX6_refuse wsX6_refuse) := goodIn_app (goodIn_of _ (by decide +kernel)) ggX6_lose_X6_refuse
set_option maxRecDepth 20000 in
theorem ggX6_lose_X4_save : GoodIn wsX6_lose wsX4_save := goodIn_r _ [23, 24, 25, 26, 27, 28, 22, 29, 30, 31, 32, 33, 34, 35, 36, 37, 38, 39, 40, 41, 42, 43, 44, 45, 46, 47, 48, 49, 50, 51, 52, 53, 54, 55, 56, 57, 58, 59, 60, 87, 88, 89, 90, 91, 92, 93, 94, 95, 96, 97, 98, 99, 100, 101, 102, 103, 104, 105] (by decide +kernel) (by decide +kernel)
set_option maxRecDepth 20000 in
theorem gX6_lose_X4_save : GoodIn wsX6_lose (wsV RX6 48 RX4 yX4_save wsX4_save) := goodIn_app (goodIn_of _ (by decide +kernel)) ggX6_lose_X4_save
set_option maxRecDepth 20000 in
theorem ggX6_lose_X3_takeMailboxAway : GoodIn wsX6_lose wsX3_takeMailboxAway := goodIn_r _ [64, 65, 66, 67, 68, 34, 69, 42, 43, 70, 71, 72, 51, 73, 56, 74, 75, 76, 77, 78, 79, 80, 98, 99, 100, 101, 102, 103, 104, 105, 90, 91, 92, 93, 94, 95, 96, 97] (by decide +kernel) (by decide +kernel)
set_option maxRecDepth 20000 in
theorem gX6_lose_X3_takeMailboxAway : GoodIn wsX6_lose (wsV RX6 102 RX3 yX3_takeMailboxAway wsX3_takeMailboxAway) := goodIn_app (goodIn_of _ (by decide +kernel)) ggX6_lose_X3_takeMailboxAway
theorem dX6_lose_0 : decode cX6_lose 0 = .ok (.iload_n 1, 1) := by decide +kernel
theorem dX6_lose_1 : decode cX6_lose 1 = .ok (.invokestatic 99, 3) := by decide +kernel
theorem dX6_lose_4 : decode cX6_lose 4 = .ok (.invokestatic 44, 3) := by decide +kernel
theorem dX6_lose_7 : decode cX6_lose 7 = .ok (.aload_n 0, 1) := by decide +kernel
theorem dX6_lose_8 : decode cX6_lose 8 = .ok (.getfield 22, 3) := by decide +kernel
theorem dX6_lose_11 : decode cX6_lose 11 = .ok (.aload_n 0, 1) := by decide +kernel
theorem dX6_lose_12 : decode cX6_lose 12 = .ok (.getfield 10, 3) := by decide +kernel
theorem dX6_lose_15 : decode cX6_lose 15 = .ok (.invokevirtual 48, 3) := by decide +kernel
theorem dX6_lose_18 : decode cX6_lose 18 = .ok (.aload_n 0, 1) := by decide +kernel
theorem dX6_lose_19 : decode cX6_lose 19 = .ok (.getfield 10, 3) := by decide +kernel
theorem dX6_lose_22 : decode cX6_lose 22 = .ok (.iload_n 1, 1) := by decide +kernel
theorem dX6_lose_23 : decode cX6_lose 23 = .ok (.invokevirtual 102, 3) := by decide +kernel
theorem dX6_lose_26 : decode cX6_lose 26 = .ok (.ireturn, 1) := by decide +kernel
set_option maxRecDepth 20000 in
theorem ggX6_block_X6_faultOfBlock : GoodIn wsX6_block wsX6_faultOfBlock := goodIn_r _ [6, 7, 8, 5, 9] (by decide +kernel) (by decide +kernel)
set_option maxRecDepth 20000 in
theorem gX6_block_X6_faultOfBlock : GoodIn wsX6_block (va_wsS RX6 105 yX6_faultOfBlock wsX6_faultOfBlock) := goodIn_app (goodIn_of _ (by decide +kernel)) ggX6_block_X6_faultOfBlock
set_option maxRecDepth 20000 in
theorem ggX6_block_X6_refuse : GoodIn wsX6_block wsX6_refuse := goodIn_ca (goodIn_ca (goodIn_ca (goodIn_r _ [12, 13, 14, 15, 16, 17, 18] (by decide +kernel) (by decide +kernel)) (goodIn_sub (fun _ h => List.mem_cons_of_mem _ (List.mem_append_left _ (List.mem_append_left _ (List.mem_append_right _ h)))) (by decide +kernel))) (goodIn_sub (fun _ h => List.mem_cons_of_mem _ (List.mem_append_left _ (List.mem_append_right _ h))) (by decide +kernel))) (goodIn_sub (fun _ h => List.mem_cons_of_mem _ (List.mem_append_right _ h)) (by decide +kernel))
set_option maxRecDepth 20000 in
theorem gX6_block_X6_refuse : GoodIn wsX6_block (va_wsS RX6 44 yX6_refuse wsX6_refuse) := goodIn_app (goodIn_of _ (by decide +kernel)) ggX6_block_X6_refuse
set_option maxRecDepth 20000 in
theorem ggX6_block_X6_at : GoodIn wsX6_block wsX6_at := goodIn_r _ [21] (by decide +kernel) (by decide +kernel)
set_option maxRecDepth 20000 in
theorem gX6_block_X6_at : GoodIn wsX6_block (va_wsS RX6 111 yX6_at wsX6_at) := goodIn_app (goodIn_of _ (by decide +kernel)) ggX6_block_X6_at
theorem dX6_block_0 : decode cX6_block 0 = .ok (.iload_n 1, 1) := by decide +kernel
theorem dX6_block_1 : decode cX6_block 1 = .ok (.invokestatic 105, 3) := by decide +kernel
theorem dX6_block_4 : decode cX6_block 4 = .ok (.invokestatic 44, 3) := by decide +kernel
theorem dX6_block_7 : decode cX6_block 7 = .ok (.aload_n 0, 1) := by decide +kernel
theorem dX6_block_8 : decode cX6_block 8 = .ok (.getfield 10, 3) := by decide +kernel
theorem dX6_block_11 : decode cX6_block 11 = .ok (.getfield 108, 3) := by decide +kernel
theorem dX6_block_14 : decode cX6_block 14 = .ok (.iload_n 1, 1) := by decide +kernel
theorem dX6_block_15 : decode cX6_block 15 = .ok (.invokestatic 111, 3) := by decide +kernel
theorem dX6_block_18 : decode cX6_block 18 = .ok (.ireturn, 1) := by decide +kernel
set_option maxRecDepth 20000 in
theorem ggX6_orderOf_X3_faultOfOrder : GoodIn wsX6_orderOf wsX3_faultOfOrder := goodIn_r _ [6, 7, 35, 36, 37, 38, 39, 40, 41, 42] (by decide +kernel) (by decide +kernel)
set_option maxRecDepth 20000 in
theorem gX6_orderOf_X3_faultOfOrder : GoodIn wsX6_orderOf (wsV RX6 115 RX3 yX3_faultOfOrder wsX3_faultOfOrder) := goodIn_app (goodIn_of _ (by decide +kernel)) ggX6_orderOf_X3_faultOfOrder
set_option maxRecDepth 20000 in
theorem ggX6_orderOf_X6_refuse : GoodIn wsX6_orderOf wsX6_refuse := goodIn_ca (goodIn_ca (goodIn_ca (goodIn_r _ [11, 12, 13, 14, 15, 16, 17] (by decide +kernel) (by decide +kernel)) (goodIn_sub (fun _ h => List.mem_cons_of_mem _ (List.mem_append_left _ (List.mem_append_left _ (List.mem_append_right _ h)))) (by decide +kernel))) (goodIn_sub (fun _ h => List.mem_cons_of_mem _ (List.mem_append_left _ (List.mem_append_right _ h))) (by decide +kernel))) (goodIn_sub (fun _ h => List.mem_cons_of_mem _ (List.mem_append_right _ h)) (by decide +kernel))
set_option maxRecDepth 20000 in
theorem gX6_orderOf_X6_refuse : GoodIn wsX6_orderOf (va_wsS RX6 44 yX6_refuse wsX6_refuse) := goodIn_app (goodIn_of _ (by decide +kernel)) ggX6_orderOf_X6_refuse
set_option maxRecDepth 20000 in
theorem ggX6_orderOf_X6_faultOfRange : GoodIn wsX6_orderOf wsX6_faultOfRange := goodIn_r _ [20, 21, 22, 10, 23] (by decide +kernel) (by decide +kernel)
set_option maxRecDepth 20000 in
theorem gX6_orderOf_X6_faultOfRange : GoodIn wsX6_orderOf (va_wsS RX6 118 yX6_faultOfRange wsX6_faultOfRange) := goodIn_app (goodIn_of _ (by decide +kernel)) ggX6_orderOf_X6_faultOfRange
set_option maxRecDepth 20000 in
theorem ggX6_orderOf_X3_fact : GoodIn wsX6_orderOf wsX3_fact := goodIn_r _ [27, 28, 35, 36, 37, 38, 39, 40, 41, 42] (by decide +kernel) (by decide +kernel)
set_option maxRecDepth 20000 in
theorem gX6_orderOf_X3_fact : GoodIn wsX6_orderOf (wsV RX6 122 RX3 yX3_fact wsX3_fact) := goodIn_app (goodIn_of _ (by decide +kernel)) ggX6_orderOf_X3_fact
theorem dX6_orderOf_0 : decode cX6_orderOf 0 = .ok (.aload_n 0, 1) := by decide +kernel
theorem dX6_orderOf_1 : decode cX6_orderOf 1 = .ok (.getfield 10, 3) := by decide +kernel
theorem dX6_orderOf_4 : decode cX6_orderOf 4 = .ok (.iload_n 1, 1) := by decide +kernel
theorem dX6_orderOf_5 : decode cX6_orderOf 5 = .ok (.invokevirtual 115, 3) := by decide +kernel
theorem dX6_orderOf_8 : decode cX6_orderOf 8 = .ok (.invokestatic 44, 3) := by decide +kernel
theorem dX6_orderOf_11 : decode cX6_orderOf 11 = .ok (.iload_n 2, 1) := by decide +kernel
theorem dX6_orderOf_12 : decode cX6_orderOf 12 = .ok (.iconst 0, 1) := by decide +kernel
theorem dX6_orderOf_13 : decode cX6_orderOf 13 = .ok (.bipush 9, 2) := by decide +kernel
theorem dX6_orderOf_15 : decode cX6_orderOf 15 = .ok (.invokestatic 118, 3) := by decide +kernel
theorem dX6_orderOf_18 : decode cX6_orderOf 18 = .ok (.invokestatic 44, 3) := by decide +kernel
theorem dX6_orderOf_21 : decode cX6_orderOf 21 = .ok (.aload_n 0, 1) := by decide +kernel
theorem dX6_orderOf_22 : decode cX6_orderOf 22 = .ok (.getfield 10, 3) := by decide +kernel
theorem dX6_orderOf_25 : decode cX6_orderOf 25 = .ok (.iload_n 1, 1) := by decide +kernel
theorem dX6_orderOf_26 : decode cX6_orderOf 26 = .ok (.iload_n 2, 1) := by decide +kernel
theorem dX6_orderOf_27 : decode cX6_orderOf 27 = .ok (.invokevirtual 122, 3) := by decide +kernel
theorem dX6_orderOf_30 : decode cX6_orderOf 30 = .ok (.ireturn, 1) := by decide +kernel
set_option maxRecDepth 20000 in
theorem ggX6_orderWith_X6_faultOfTag : GoodIn wsX6_orderWith wsX6_faultOfTag := goodIn_r _ [5, 6, 7, 4, 8] (by decide +kernel) (by decide +kernel)
set_option maxRecDepth 20000 in
theorem gX6_orderWith_X6_faultOfTag : GoodIn wsX6_orderWith (va_wsS RX6 125 yX6_faultOfTag wsX6_faultOfTag) := goodIn_app (goodIn_of _ (by decide +kernel)) ggX6_orderWith_X6_faultOfTag
set_option maxRecDepth 20000 in
theorem ggX6_orderWith_X6_refuse : GoodIn wsX6_orderWith wsX6_refuse := goodIn_ca (goodIn_ca (goodIn_ca (goodIn_r _ [11, 12, 13, 14, 15, 16, 17] (by decide +kernel) (by decide +kernel)) (goodIn_sub (fun _ h => List.mem_cons_of_mem _ (List.mem_append_left _ (List.mem_append_left _ (List.mem_append_right _ h)))) (by decide +kernel))) (goodIn_sub (fun _ h => List.mem_cons_of_mem _ (List.mem_append_left _ (List.mem_append_right _ h))) (by decide +kernel))) (goodIn_sub (fun _ h => List.mem_cons_of_mem _ (List.mem_append_right _ h)) (by decide +kernel))
set_option maxRecDepth 20000 in
theorem gX6_orderWith_X6_refuse : GoodIn wsX6_orderWith (va_wsS RX6 44 yX6_refuse wsX6_refuse) := goodIn_app (goodIn_of _ (by decide +kernel)) ggX6_orderWith_X6_refuse
set_option maxRecDepth 20000 in
theorem ggX6_orderWith_X3_latestWith : GoodIn wsX6_orderWith wsX3_latestWith := goodIn_r _ [22, 23, 24, 25, 26, 21, 27, 28, 35, 36, 37, 38, 39, 40, 41, 42] (by decide +kernel) (by decide +kernel)
set_option maxRecDepth 20000 in
theorem gX6_orderWith_X3_latestWith : GoodIn wsX6_orderWith (wsV RX6 128 RX3 yX3_latestWith wsX3_latestWith) := goodIn_app (goodIn_of _ (by decide +kernel)) ggX6_orderWith_X3_latestWith
theorem dX6_orderWith_0 : decode cX6_orderWith 0 = .ok (.iload_n 1, 1) := by decide +kernel
theorem dX6_orderWith_1 : decode cX6_orderWith 1 = .ok (.iload_n 2, 1) := by decide +kernel
theorem dX6_orderWith_2 : decode cX6_orderWith 2 = .ok (.invokestatic 125, 3) := by decide +kernel
theorem dX6_orderWith_5 : decode cX6_orderWith 5 = .ok (.invokestatic 44, 3) := by decide +kernel
theorem dX6_orderWith_8 : decode cX6_orderWith 8 = .ok (.aload_n 0, 1) := by decide +kernel
theorem dX6_orderWith_9 : decode cX6_orderWith 9 = .ok (.getfield 10, 3) := by decide +kernel
theorem dX6_orderWith_12 : decode cX6_orderWith 12 = .ok (.iload_n 1, 1) := by decide +kernel
theorem dX6_orderWith_13 : decode cX6_orderWith 13 = .ok (.iload_n 2, 1) := by decide +kernel
theorem dX6_orderWith_14 : decode cX6_orderWith 14 = .ok (.invokevirtual 128, 3) := by decide +kernel
theorem dX6_orderWith_17 : decode cX6_orderWith 17 = .ok (.ireturn, 1) := by decide +kernel
set_option maxRecDepth 20000 in
theorem ggX6_controller_X6_faultOfController : GoodIn wsX6_controller wsX6_faultOfController := goodIn_r _ [5, 6, 7, 4, 8] (by decide +kernel) (by decide +kernel)
set_option maxRecDepth 20000 in
theorem gX6_controller_X6_faultOfController : GoodIn wsX6_controller (va_wsS RX6 99 yX6_faultOfController wsX6_faultOfController) := goodIn_app (goodIn_of _ (by decide +kernel)) ggX6_controller_X6_faultOfController
set_option maxRecDepth 20000 in
theorem ggX6_controller_X6_refuse : GoodIn wsX6_controller wsX6_refuse := goodIn_ca (goodIn_ca (goodIn_ca (goodIn_r _ [11, 12, 13, 14, 15, 16, 17] (by decide +kernel) (by decide +kernel)) (goodIn_sub (fun _ h => List.mem_cons_of_mem _ (List.mem_append_left _ (List.mem_append_left _ (List.mem_append_right _ h)))) (by decide +kernel))) (goodIn_sub (fun _ h => List.mem_cons_of_mem _ (List.mem_append_left _ (List.mem_append_right _ h))) (by decide +kernel))) (goodIn_sub (fun _ h => List.mem_cons_of_mem _ (List.mem_append_right _ h)) (by decide +kernel))
set_option maxRecDepth 20000 in
theorem gX6_controller_X6_refuse : GoodIn wsX6_controller (va_wsS RX6 44 yX6_refuse wsX6_refuse) := goodIn_app (goodIn_of _ (by decide +kernel)) ggX6_controller_X6_refuse
set_option maxRecDepth 20000 in
theorem ggX6_controller_X6_faultOfRange : GoodIn wsX6_controller wsX6_faultOfRange := goodIn_r _ [20, 6, 7, 4, 8] (by decide +kernel) (by decide +kernel)
set_option maxRecDepth 20000 in
theorem gX6_controller_X6_faultOfRange : GoodIn wsX6_controller (va_wsS RX6 118 yX6_faultOfRange wsX6_faultOfRange) := goodIn_app (goodIn_of _ (by decide +kernel)) ggX6_controller_X6_faultOfRange
set_option maxRecDepth 20000 in
theorem ggX6_controller_X3_controllerFact : GoodIn wsX6_controller wsX3_controllerFact := goodIn_r _ [25, 26, 27, 28, 24, 29, 30, 31, 32, 33, 34, 35, 36, 37, 38, 39, 40, 41, 42, 43, 44, 45, 46, 47, 48, 49, 50, 51, 52, 53, 54, 55, 56, 57, 58, 59, 60, 61, 62, 63, 64, 65, 66, 67, 68, 69, 70, 71, 72, 73, 74, 81, 82, 83, 84, 85, 86, 87, 88, 89, 90, 91, 92, 93, 94, 95, 96] (by decide +kernel) (by decide +kernel)
set_option maxRecDepth 20000 in
theorem gX6_controller_X3_controllerFact : GoodIn wsX6_controller (wsV RX6 131 RX3 yX3_controllerFact wsX3_controllerFact) := goodIn_app (goodIn_of _ (by decide +kernel)) ggX6_controller_X3_controllerFact
theorem dX6_controller_0 : decode cX6_controller 0 = .ok (.iload_n 1, 1) := by decide +kernel
theorem dX6_controller_1 : decode cX6_controller 1 = .ok (.invokestatic 99, 3) := by decide +kernel
theorem dX6_controller_4 : decode cX6_controller 4 = .ok (.invokestatic 44, 3) := by decide +kernel
theorem dX6_controller_7 : decode cX6_controller 7 = .ok (.iload_n 2, 1) := by decide +kernel
theorem dX6_controller_8 : decode cX6_controller 8 = .ok (.iconst 0, 1) := by decide +kernel
theorem dX6_controller_9 : decode cX6_controller 9 = .ok (.bipush 8, 2) := by decide +kernel
theorem dX6_controller_11 : decode cX6_controller 11 = .ok (.invokestatic 118, 3) := by decide +kernel
theorem dX6_controller_14 : decode cX6_controller 14 = .ok (.invokestatic 44, 3) := by decide +kernel
theorem dX6_controller_17 : decode cX6_controller 17 = .ok (.aload_n 0, 1) := by decide +kernel
theorem dX6_controller_18 : decode cX6_controller 18 = .ok (.getfield 10, 3) := by decide +kernel
theorem dX6_controller_21 : decode cX6_controller 21 = .ok (.iload_n 1, 1) := by decide +kernel
theorem dX6_controller_22 : decode cX6_controller 22 = .ok (.iload_n 2, 1) := by decide +kernel
theorem dX6_controller_23 : decode cX6_controller 23 = .ok (.invokevirtual 131, 3) := by decide +kernel
theorem dX6_controller_26 : decode cX6_controller 26 = .ok (.ireturn, 1) := by decide +kernel
set_option maxRecDepth 20000 in
theorem ggX6_mail_X6_faultOfController : GoodIn wsX6_mail wsX6_faultOfController := goodIn_r _ [5, 6, 7, 4, 8] (by decide +kernel) (by decide +kernel)
set_option maxRecDepth 20000 in
theorem gX6_mail_X6_faultOfController : GoodIn wsX6_mail (va_wsS RX6 99 yX6_faultOfController wsX6_faultOfController) := goodIn_app (goodIn_of _ (by decide +kernel)) ggX6_mail_X6_faultOfController
set_option maxRecDepth 20000 in
theorem ggX6_mail_X6_refuse : GoodIn wsX6_mail wsX6_refuse := goodIn_ca (goodIn_ca (goodIn_ca (goodIn_r _ [11, 12, 13, 14, 15, 16, 17] (by decide +kernel) (by decide +kernel)) (goodIn_sub (fun _ h => List.mem_cons_of_mem _ (List.mem_append_left _ (List.mem_append_left _ (List.mem_append_right _ h)))) (by decide +kernel))) (goodIn_sub (fun _ h => List.mem_cons_of_mem _ (List.mem_append_left _ (List.mem_append_right _ h))) (by decide +kernel))) (goodIn_sub (fun _ h => List.mem_cons_of_mem _ (List.mem_append_right _ h)) (by decide +kernel))
set_option maxRecDepth 20000 in
theorem gX6_mail_X6_refuse : GoodIn wsX6_mail (va_wsS RX6 44 yX6_refuse wsX6_refuse) := goodIn_app (goodIn_of _ (by decide +kernel)) ggX6_mail_X6_refuse
set_option maxRecDepth 20000 in
theorem ggX6_mail_X3_mailAt : GoodIn wsX6_mail wsX3_mailAt := goodIn_r _ [22, 23, 24, 25, 26, 21, 27, 28, 29, 30, 31, 32, 33, 34, 35, 42, 43, 44, 45, 46, 47, 48, 49, 50, 51, 52, 53, 54, 55, 56, 57] (by decide +kernel) (by decide +kernel)
set_option maxRecDepth 20000 in
theorem gX6_mail_X3_mailAt : GoodIn wsX6_mail (wsV RX6 134 RX3 yX3_mailAt wsX3_mailAt) := goodIn_app (goodIn_of _ (by decide +kernel)) ggX6_mail_X3_mailAt
theorem dX6_mail_0 : decode cX6_mail 0 = .ok (.iload_n 1, 1) := by decide +kernel
theorem dX6_mail_1 : decode cX6_mail 1 = .ok (.invokestatic 99, 3) := by decide +kernel
theorem dX6_mail_4 : decode cX6_mail 4 = .ok (.invokestatic 44, 3) := by decide +kernel
theorem dX6_mail_7 : decode cX6_mail 7 = .ok (.iload_n 2, 1) := by decide +kernel
theorem dX6_mail_8 : decode cX6_mail 8 = .ok (.ifCond .ge 7, 3) := by decide +kernel
theorem dX6_mail_11 : decode cX6_mail 11 = .ok (.iconst 2, 1) := by decide +kernel
theorem dX6_mail_12 : decode cX6_mail 12 = .ok (.goto 4, 3) := by decide +kernel
theorem dX6_mail_15 : decode cX6_mail 15 = .ok (.iconst 0, 1) := by decide +kernel
theorem dX6_mail_16 : decode cX6_mail 16 = .ok (.invokestatic 44, 3) := by decide +kernel
theorem dX6_mail_19 : decode cX6_mail 19 = .ok (.aload_n 0, 1) := by decide +kernel
theorem dX6_mail_20 : decode cX6_mail 20 = .ok (.getfield 10, 3) := by decide +kernel
theorem dX6_mail_23 : decode cX6_mail 23 = .ok (.iload_n 1, 1) := by decide +kernel
theorem dX6_mail_24 : decode cX6_mail 24 = .ok (.iload_n 2, 1) := by decide +kernel
theorem dX6_mail_25 : decode cX6_mail 25 = .ok (.invokevirtual 134, 3) := by decide +kernel
theorem dX6_mail_28 : decode cX6_mail 28 = .ok (.ireturn, 1) := by decide +kernel
set_option maxRecDepth 20000 in
theorem ggX6_whole_X6_faultOfRange : GoodIn wsX6_whole wsX6_faultOfRange := goodIn_r _ [4, 5, 6, 3, 7] (by decide +kernel) (by decide +kernel)
set_option maxRecDepth 20000 in
theorem gX6_whole_X6_faultOfRange : GoodIn wsX6_whole (va_wsS RX6 118 yX6_faultOfRange wsX6_faultOfRange) := goodIn_app (goodIn_of _ (by decide +kernel)) ggX6_whole_X6_faultOfRange
set_option maxRecDepth 20000 in
theorem ggX6_whole_X6_refuse : GoodIn wsX6_whole wsX6_refuse := goodIn_ca (goodIn_ca (goodIn_ca (goodIn_r _ [10, 11, 12, 13, 14, 15, 16] (by decide +kernel) (by decide +kernel)) (goodIn_sub (fun _ h => List.mem_cons_of_mem _ (List.mem_append_left _ (List.mem_append_left _ (List.mem_append_right _ h)))) (by decide +kernel))) (goodIn_sub (fun _ h => List.mem_cons_of_mem _ (List.mem_append_left _ (List.mem_append_right _ h))) (by decide +kernel))) (goodIn_sub (fun _ h => List.mem_cons_of_mem _ (List.mem_append_right _ h)) (by decide +kernel))
set_option maxRecDepth 20000 in
theorem gX6_whole_X6_refuse : GoodIn wsX6_whole (va_wsS RX6 44 yX6_refuse wsX6_refuse) := goodIn_app (goodIn_of _ (by decide +kernel)) ggX6_whole_X6_refuse
set_option maxRecDepth 20000 in
theorem ggX6_whole_X6_wholeFact : GoodIn wsX6_whole wsX6_wholeFact := goodIn_r _ [20, 21, 22, 23, 24, 25, 26, 27, 28, 29, 30, 31, 32, 33, 34, 35, 36, 37, 38, 39, 40, 41, 42, 43, 44, 45, 46, 47, 48, 49, 50, 51, 3, 52, 53, 54, 55, 56, 57, 58, 59, 60, 61, 62, 63, 64, 65, 66, 67, 68, 69, 70, 71, 72, 73, 74, 75, 76, 77, 78, 79] (by decide +kernel) (by decide +kernel)
set_option maxRecDepth 20000 in
theorem gX6_whole_X6_wholeFact : GoodIn wsX6_whole (wsV RX6 137 RX6 yX6_wholeFact wsX6_wholeFact) := goodIn_app (goodIn_of _ (by decide +kernel)) ggX6_whole_X6_wholeFact
theorem dX6_whole_0 : decode cX6_whole 0 = .ok (.iload_n 1, 1) := by decide +kernel
theorem dX6_whole_1 : decode cX6_whole 1 = .ok (.iconst 0, 1) := by decide +kernel
theorem dX6_whole_2 : decode cX6_whole 2 = .ok (.bipush 11, 2) := by decide +kernel
theorem dX6_whole_4 : decode cX6_whole 4 = .ok (.invokestatic 118, 3) := by decide +kernel
theorem dX6_whole_7 : decode cX6_whole 7 = .ok (.invokestatic 44, 3) := by decide +kernel
theorem dX6_whole_10 : decode cX6_whole 10 = .ok (.aload_n 0, 1) := by decide +kernel
theorem dX6_whole_11 : decode cX6_whole 11 = .ok (.iload_n 1, 1) := by decide +kernel
theorem dX6_whole_12 : decode cX6_whole 12 = .ok (.invokevirtual 137, 3) := by decide +kernel
theorem dX6_whole_15 : decode cX6_whole 15 = .ok (.ireturn, 1) := by decide +kernel
set_option maxRecDepth 20000 in
theorem ggX6_waitsFor_X3_faultOfOrder : GoodIn wsX6_waitsFor wsX3_faultOfOrder := goodIn_r _ [6, 7, 46, 47, 48, 49, 50, 51, 52, 53] (by decide +kernel) (by decide +kernel)
set_option maxRecDepth 20000 in
theorem gX6_waitsFor_X3_faultOfOrder : GoodIn wsX6_waitsFor (wsV RX6 115 RX3 yX3_faultOfOrder wsX3_faultOfOrder) := goodIn_app (goodIn_of _ (by decide +kernel)) ggX6_waitsFor_X3_faultOfOrder
set_option maxRecDepth 20000 in
theorem ggX6_waitsFor_X6_refuse : GoodIn wsX6_waitsFor wsX6_refuse := goodIn_ca (goodIn_ca (goodIn_ca (goodIn_r _ [11, 12, 13, 14, 15, 16, 17] (by decide +kernel) (by decide +kernel)) (goodIn_sub (fun _ h => List.mem_cons_of_mem _ (List.mem_append_left _ (List.mem_append_left _ (List.mem_append_right _ h)))) (by decide +kernel))) (goodIn_sub (fun _ h => List.mem_cons_of_mem _ (List.mem_append_left _ (List.mem_append_right _ h))) (by decide +kernel))) (goodIn_sub (fun _ h => List.mem_cons_of_mem _ (List.mem_append_right _ h)) (by decide +kernel))
set_option maxRecDepth 20000 in
theorem gX6_waitsFor_X6_refuse : GoodIn wsX6_waitsFor (va_wsS RX6 44 yX6_refuse wsX6_refuse) := goodIn_app (goodIn_of _ (by decide +kernel)) ggX6_waitsFor_X6_refuse
set_option maxRecDepth 20000 in
theorem ggX6_waitsFor_X3_firstAwaited : GoodIn wsX6_waitsFor wsX3_firstAwaited := goodIn_r _ [21, 22, 23, 24, 5, 25, 26, 27, 28, 29, 30, 31, 32, 33, 34, 35, 36, 37, 38, 39, 46, 47, 48, 49, 50, 51, 52, 53] (by decide +kernel) (by decide +kernel)
set_option maxRecDepth 20000 in
theorem gX6_waitsFor_X3_firstAwaited : GoodIn wsX6_waitsFor (wsV RX6 140 RX3 yX3_firstAwaited wsX3_firstAwaited) := goodIn_app (goodIn_of _ (by decide +kernel)) ggX6_waitsFor_X3_firstAwaited
theorem dX6_waitsFor_0 : decode cX6_waitsFor 0 = .ok (.aload_n 0, 1) := by decide +kernel
theorem dX6_waitsFor_1 : decode cX6_waitsFor 1 = .ok (.getfield 10, 3) := by decide +kernel
theorem dX6_waitsFor_4 : decode cX6_waitsFor 4 = .ok (.iload_n 1, 1) := by decide +kernel
theorem dX6_waitsFor_5 : decode cX6_waitsFor 5 = .ok (.invokevirtual 115, 3) := by decide +kernel
theorem dX6_waitsFor_8 : decode cX6_waitsFor 8 = .ok (.invokestatic 44, 3) := by decide +kernel
theorem dX6_waitsFor_11 : decode cX6_waitsFor 11 = .ok (.aload_n 0, 1) := by decide +kernel
theorem dX6_waitsFor_12 : decode cX6_waitsFor 12 = .ok (.getfield 10, 3) := by decide +kernel
theorem dX6_waitsFor_15 : decode cX6_waitsFor 15 = .ok (.iload_n 1, 1) := by decide +kernel
theorem dX6_waitsFor_16 : decode cX6_waitsFor 16 = .ok (.invokevirtual 140, 3) := by decide +kernel
theorem dX6_waitsFor_19 : decode cX6_waitsFor 19 = .ok (.ireturn, 1) := by decide +kernel
set_option maxRecDepth 20000 in
theorem ggX6_depth_X3_faultOfOrder : GoodIn wsX6_depth wsX3_faultOfOrder := goodIn_r _ [7, 8, 56, 57, 58, 59, 60, 61, 62, 63] (by decide +kernel) (by decide +kernel)
set_option maxRecDepth 20000 in
theorem gX6_depth_X3_faultOfOrder : GoodIn wsX6_depth (wsV RX6 115 RX3 yX3_faultOfOrder wsX3_faultOfOrder) := goodIn_app (goodIn_of _ (by decide +kernel)) ggX6_depth_X3_faultOfOrder
set_option maxRecDepth 20000 in
theorem ggX6_depth_X6_refuse : GoodIn wsX6_depth wsX6_refuse := goodIn_ca (goodIn_ca (goodIn_ca (goodIn_r _ [12, 13, 14, 15, 16, 17, 18] (by decide +kernel) (by decide +kernel)) (goodIn_sub (fun _ h => List.mem_cons_of_mem _ (List.mem_append_left _ (List.mem_append_left _ (List.mem_append_right _ h)))) (by decide +kernel))) (goodIn_sub (fun _ h => List.mem_cons_of_mem _ (List.mem_append_left _ (List.mem_append_right _ h))) (by decide +kernel))) (goodIn_sub (fun _ h => List.mem_cons_of_mem _ (List.mem_append_right _ h)) (by decide +kernel))
set_option maxRecDepth 20000 in
theorem gX6_depth_X6_refuse : GoodIn wsX6_depth (va_wsS RX6 44 yX6_refuse wsX6_refuse) := goodIn_app (goodIn_of _ (by decide +kernel)) ggX6_depth_X6_refuse
set_option maxRecDepth 20000 in
theorem ggX6_depth_X3_reckonDepths : GoodIn wsX6_depth wsX3_reckonDepths := goodIn_r _ [22, 8, 23, 24, 25, 26, 27, 28, 29, 6, 30, 31, 32, 33, 34, 35, 36, 37, 38, 39, 40, 41, 42, 43, 44, 45, 11, 46, 47, 48, 56, 57, 58, 59, 60, 61, 62, 63] (by decide +kernel) (by decide +kernel)
set_option maxRecDepth 20000 in
theorem gX6_depth_X3_reckonDepths : GoodIn wsX6_depth (wsV RX6 143 RX3 yX3_reckonDepths wsX3_reckonDepths) := goodIn_app (goodIn_of _ (by decide +kernel)) ggX6_depth_X3_reckonDepths
set_option maxRecDepth 20000 in
theorem ggX6_depth_X6_at : GoodIn wsX6_depth wsX6_at := goodIn_r _ [46] (by decide +kernel) (by decide +kernel)
set_option maxRecDepth 20000 in
theorem gX6_depth_X6_at : GoodIn wsX6_depth (va_wsS RX6 111 yX6_at wsX6_at) := goodIn_app (goodIn_of _ (by decide +kernel)) ggX6_depth_X6_at
theorem dX6_depth_0 : decode cX6_depth 0 = .ok (.aload_n 0, 1) := by decide +kernel
theorem dX6_depth_1 : decode cX6_depth 1 = .ok (.getfield 10, 3) := by decide +kernel
theorem dX6_depth_4 : decode cX6_depth 4 = .ok (.iload_n 1, 1) := by decide +kernel
theorem dX6_depth_5 : decode cX6_depth 5 = .ok (.invokevirtual 115, 3) := by decide +kernel
theorem dX6_depth_8 : decode cX6_depth 8 = .ok (.invokestatic 44, 3) := by decide +kernel
theorem dX6_depth_11 : decode cX6_depth 11 = .ok (.aload_n 0, 1) := by decide +kernel
theorem dX6_depth_12 : decode cX6_depth 12 = .ok (.getfield 10, 3) := by decide +kernel
theorem dX6_depth_15 : decode cX6_depth 15 = .ok (.aload_n 0, 1) := by decide +kernel
theorem dX6_depth_16 : decode cX6_depth 16 = .ok (.getfield 37, 3) := by decide +kernel
theorem dX6_depth_19 : decode cX6_depth 19 = .ok (.invokevirtual 143, 3) := by decide +kernel
theorem dX6_depth_22 : decode cX6_depth 22 = .ok (.aload_n 0, 1) := by decide +kernel
theorem dX6_depth_23 : decode cX6_depth 23 = .ok (.getfield 37, 3) := by decide +kernel
theorem dX6_depth_26 : decode cX6_depth 26 = .ok (.iload_n 1, 1) := by decide +kernel
theorem dX6_depth_27 : decode cX6_depth 27 = .ok (.invokestatic 111, 3) := by decide +kernel
theorem dX6_depth_30 : decode cX6_depth 30 = .ok (.ireturn, 1) := by decide +kernel
set_option maxRecDepth 20000 in
theorem ggX6_nextFor_X6_faultOfController : GoodIn wsX6_nextFor wsX6_faultOfController := goodIn_r _ [5, 6, 7, 4, 8] (by decide +kernel) (by decide +kernel)
set_option maxRecDepth 20000 in
theorem gX6_nextFor_X6_faultOfController : GoodIn wsX6_nextFor (va_wsS RX6 99 yX6_faultOfController wsX6_faultOfController) := goodIn_app (goodIn_of _ (by decide +kernel)) ggX6_nextFor_X6_faultOfController
set_option maxRecDepth 20000 in
theorem ggX6_nextFor_X6_refuse : GoodIn wsX6_nextFor wsX6_refuse := goodIn_ca (goodIn_ca (goodIn_ca (goodIn_r _ [11, 12, 13, 14, 15, 16, 17] (by decide +kernel) (by decide +kernel)) (goodIn_sub (fun _ h => List.mem_cons_of_mem _ (List.mem_append_left _ (List.mem_append_left _ (List.mem_append_right _ h)))) (by decide +kernel))) (goodIn_sub (fun _ h => List.mem_cons_of_mem _ (List.mem_append_left _ (List.mem_append_right _ h))) (by decide +kernel))) (goodIn_sub (fun _ h => List.mem_cons_of_mem _ (List.mem_append_right _ h)) (by decide +kernel))
set_option maxRecDepth 20000 in
theorem gX6_nextFor_X6_refuse : GoodIn wsX6_nextFor (va_wsS RX6 44 yX6_refuse wsX6_refuse) := goodIn_app (goodIn_of _ (by decide +kernel)) ggX6_nextFor_X6_refuse
set_option maxRecDepth 20000 in
theorem ggX6_nextFor_X3_nextOf : GoodIn wsX6_nextFor wsX3_nextOf := goodIn_r _ [22, 23, 24, 25, 26, 21, 27, 28, 29, 30, 31, 32, 33, 34, 35, 36, 37, 38, 39, 40, 41, 42, 43, 44, 45, 46, 47, 48, 49, 50, 51, 52, 53, 54, 55, 56, 57, 58, 59, 60, 61, 62, 63, 70, 71, 72, 73, 74, 75, 76, 77, 78, 79, 80, 81, 82, 83, 84, 85] (by decide +kernel) (by decide +kernel)
set_option maxRecDepth 20000 in
theorem gX6_nextFor_X3_nextOf : GoodIn wsX6_nextFor (wsV RX6 147 RX3 yX3_nextOf wsX3_nextOf) := goodIn_app (goodIn_of _ (by decide +kernel)) ggX6_nextFor_X3_nextOf
theorem dX6_nextFor_0 : decode cX6_nextFor 0 = .ok (.iload_n 1, 1) := by decide +kernel
theorem dX6_nextFor_1 : decode cX6_nextFor 1 = .ok (.invokestatic 99, 3) := by decide +kernel
theorem dX6_nextFor_4 : decode cX6_nextFor 4 = .ok (.invokestatic 44, 3) := by decide +kernel
theorem dX6_nextFor_7 : decode cX6_nextFor 7 = .ok (.aload_n 0, 1) := by decide +kernel
theorem dX6_nextFor_8 : decode cX6_nextFor 8 = .ok (.getfield 10, 3) := by decide +kernel
theorem dX6_nextFor_11 : decode cX6_nextFor 11 = .ok (.iload_n 1, 1) := by decide +kernel
theorem dX6_nextFor_12 : decode cX6_nextFor 12 = .ok (.invokevirtual 147, 3) := by decide +kernel
theorem dX6_nextFor_15 : decode cX6_nextFor 15 = .ok (.ireturn, 1) := by decide +kernel
set_option maxRecDepth 20000 in
theorem ggX6_reason_X6_faultOfController : GoodIn wsX6_reason wsX6_faultOfController := goodIn_r _ [5, 6, 7, 4, 8] (by decide +kernel) (by decide +kernel)
set_option maxRecDepth 20000 in
theorem gX6_reason_X6_faultOfController : GoodIn wsX6_reason (va_wsS RX6 99 yX6_faultOfController wsX6_faultOfController) := goodIn_app (goodIn_of _ (by decide +kernel)) ggX6_reason_X6_faultOfController
set_option maxRecDepth 20000 in
theorem ggX6_reason_X6_refuse : GoodIn wsX6_reason wsX6_refuse := goodIn_ca (goodIn_ca (goodIn_ca (goodIn_r _ [11, 12, 13, 14, 15, 16, 17] (by decide +kernel) (by decide +kernel)) (goodIn_sub (fun _ h => List.mem_cons_of_mem _ (List.mem_append_left _ (List.mem_append_left _ (List.mem_append_right _ h)))) (by decide +kernel))) (goodIn_sub (fun _ h => List.mem_cons_of_mem _ (List.mem_append_left _ (List.mem_append_right _ h))) (by decide +kernel))) (goodIn_sub (fun _ h => List.mem_cons_of_mem _ (List.mem_append_right _ h)) (by decide +kernel))
set_option maxRecDepth 20000 in
theorem gX6_reason_X6_refuse : GoodIn wsX6_reason (va_wsS RX6 44 yX6_refuse wsX6_refuse) := goodIn_app (goodIn_of _ (by decide +kernel)) ggX6_reason_X6_refuse
set_option maxRecDepth 20000 in
theorem ggX6_reason_X3_faultOfOrder : GoodIn wsX6_reason wsX3_faultOfOrder := goodIn_r _ [22, 23, 86, 87, 88, 89, 90, 91, 92, 93] (by decide +kernel) (by decide +kernel)
set_option maxRecDepth 20000 in
theorem gX6_reason_X3_faultOfOrder : GoodIn wsX6_reason (wsV RX6 115 RX3 yX3_faultOfOrder wsX3_faultOfOrder) := goodIn_app (goodIn_of _ (by decide +kernel)) ggX6_reason_X3_faultOfOrder
set_option maxRecDepth 20000 in
theorem ggX6_reason_X3_whyNot : GoodIn wsX6_reason wsX3_whyNot := goodIn_r _ [27, 28, 29, 30, 21, 31, 32, 33, 34, 35, 36, 37, 38, 39, 40, 41, 42, 43, 44, 45, 23, 46, 47, 48, 49, 50, 51, 52, 53, 54, 55, 56, 57, 58, 59, 60, 61, 62, 63, 64, 65, 66, 67, 68, 69, 70, 71, 72, 73, 74, 75, 76, 77, 78, 79, 86, 87, 88, 89, 90, 91, 92, 93, 94, 95, 96, 97, 98, 99, 100, 101] (by decide +kernel) (by decide +kernel)
set_option maxRecDepth 20000 in
theorem gX6_reason_X3_whyNot : GoodIn wsX6_reason (wsV RX6 150 RX3 yX3_whyNot wsX3_whyNot) := goodIn_app (goodIn_of _ (by decide +kernel)) ggX6_reason_X3_whyNot
theorem dX6_reason_0 : decode cX6_reason 0 = .ok (.iload_n 1, 1) := by decide +kernel
theorem dX6_reason_1 : decode cX6_reason 1 = .ok (.invokestatic 99, 3) := by decide +kernel
theorem dX6_reason_4 : decode cX6_reason 4 = .ok (.invokestatic 44, 3) := by decide +kernel
theorem dX6_reason_7 : decode cX6_reason 7 = .ok (.aload_n 0, 1) := by decide +kernel
theorem dX6_reason_8 : decode cX6_reason 8 = .ok (.getfield 10, 3) := by decide +kernel
theorem dX6_reason_11 : decode cX6_reason 11 = .ok (.iload_n 2, 1) := by decide +kernel
theorem dX6_reason_12 : decode cX6_reason 12 = .ok (.invokevirtual 115, 3) := by decide +kernel
theorem dX6_reason_15 : decode cX6_reason 15 = .ok (.invokestatic 44, 3) := by decide +kernel
theorem dX6_reason_18 : decode cX6_reason 18 = .ok (.aload_n 0, 1) := by decide +kernel
theorem dX6_reason_19 : decode cX6_reason 19 = .ok (.getfield 10, 3) := by decide +kernel
theorem dX6_reason_22 : decode cX6_reason 22 = .ok (.iload_n 1, 1) := by decide +kernel
theorem dX6_reason_23 : decode cX6_reason 23 = .ok (.iload_n 2, 1) := by decide +kernel
theorem dX6_reason_24 : decode cX6_reason 24 = .ok (.invokevirtual 150, 3) := by decide +kernel
theorem dX6_reason_27 : decode cX6_reason 27 = .ok (.ireturn, 1) := by decide +kernel
set_option maxRecDepth 20000 in
theorem ggX6_doneIn_X3_become : GoodIn wsX6_doneIn wsX3_become := goodIn_r _ [7, 8, 9, 10, 11, 12, 13, 14, 15, 16, 17, 18, 19, 20, 21, 22, 23, 24, 25, 26, 27, 28, 29, 30, 31, 32, 138, 139, 140, 141, 142, 143, 144, 145, 146, 147, 148, 149, 150, 151, 152, 153] (by decide +kernel) (by decide +kernel)
set_option maxRecDepth 20000 in
theorem gX6_doneIn_X3_become : GoodIn wsX6_doneIn (wsV RX6 153 RX3 yX3_become wsX3_become) := goodIn_app (goodIn_of _ (by decide +kernel)) ggX6_doneIn_X3_become
set_option maxRecDepth 20000 in
theorem ggX6_doneIn_X3_hasOpenOrder : GoodIn wsX6_doneIn wsX3_hasOpenOrder := goodIn_r _ [36, 37, 38, 39, 6, 40, 16, 41, 42, 43, 44, 13, 138, 139, 140, 141, 142, 143, 144, 145] (by decide +kernel) (by decide +kernel)
set_option maxRecDepth 20000 in
theorem gX6_doneIn_X3_hasOpenOrder : GoodIn wsX6_doneIn (wsV RX6 156 RX3 yX3_hasOpenOrder wsX3_hasOpenOrder) := goodIn_app (goodIn_of _ (by decide +kernel)) ggX6_doneIn_X3_hasOpenOrder
set_option maxRecDepth 20000 in
theorem ggX6_doneIn_X3_letPass : GoodIn wsX6_doneIn wsX3_letPass := goodIn_r _ [48, 14, 17, 15, 49, 50, 51, 52, 23, 53, 27, 25, 54, 55, 56, 6, 57, 58, 59, 60, 61, 16, 62, 63, 64, 65, 18, 41, 42, 43, 44, 13, 66, 67, 68, 69, 8, 70, 71, 72, 73, 74, 19, 75, 76, 77, 78, 79, 80, 81, 82, 83, 84, 85, 86, 87, 88, 89, 90, 91, 92, 93, 94, 95, 96, 97, 98, 99, 100, 101, 102, 103, 104, 105, 106, 107, 108, 109, 28, 110, 111, 112, 113, 114, 115, 116, 117, 118, 119, 120, 121, 122, 123, 124, 125, 126, 127, 128, 129, 130, 131, 32, 138, 139, 140, 141, 142, 143, 144, 145, 146, 147, 148, 149, 150, 151, 152, 153] (by decide +kernel) (by decide +kernel)
set_option maxRecDepth 20000 in
theorem gX6_doneIn_X3_letPass : GoodIn wsX6_doneIn (wsV RX6 96 RX3 yX3_letPass wsX3_letPass) := goodIn_app (goodIn_of _ (by decide +kernel)) ggX6_doneIn_X3_letPass
theorem dX6_doneIn_0 : decode cX6_doneIn 0 = .ok (.aload_n 0, 1) := by decide +kernel
theorem dX6_doneIn_1 : decode cX6_doneIn 1 = .ok (.getfield 16, 3) := by decide +kernel
theorem dX6_doneIn_4 : decode cX6_doneIn 4 = .ok (.aload_n 0, 1) := by decide +kernel
theorem dX6_doneIn_5 : decode cX6_doneIn 5 = .ok (.getfield 10, 3) := by decide +kernel
theorem dX6_doneIn_8 : decode cX6_doneIn 8 = .ok (.invokevirtual 153, 3) := by decide +kernel
theorem dX6_doneIn_11 : decode cX6_doneIn 11 = .ok (.iconst 0, 1) := by decide +kernel
theorem dX6_doneIn_12 : decode cX6_doneIn 12 = .ok (.istore_n 1, 1) := by decide +kernel
theorem dX6_doneIn_13 : decode cX6_doneIn 13 = .ok (.iload_n 1, 1) := by decide +kernel
theorem dX6_doneIn_14 : decode cX6_doneIn 14 = .ok (.sipush 200, 3) := by decide +kernel
theorem dX6_doneIn_17 : decode cX6_doneIn 17 = .ok (.if_icmp .gt 30, 3) := by decide +kernel
theorem dX6_doneIn_20 : decode cX6_doneIn 20 = .ok (.aload_n 0, 1) := by decide +kernel
theorem dX6_doneIn_21 : decode cX6_doneIn 21 = .ok (.getfield 16, 3) := by decide +kernel
theorem dX6_doneIn_24 : decode cX6_doneIn 24 = .ok (.invokevirtual 156, 3) := by decide +kernel
theorem dX6_doneIn_27 : decode cX6_doneIn 27 = .ok (.ifCond .ne 5, 3) := by decide +kernel
theorem dX6_doneIn_30 : decode cX6_doneIn 30 = .ok (.iload_n 1, 1) := by decide +kernel
theorem dX6_doneIn_31 : decode cX6_doneIn 31 = .ok (.ireturn, 1) := by decide +kernel
theorem dX6_doneIn_32 : decode cX6_doneIn 32 = .ok (.aload_n 0, 1) := by decide +kernel
theorem dX6_doneIn_33 : decode cX6_doneIn 33 = .ok (.getfield 16, 3) := by decide +kernel
theorem dX6_doneIn_36 : decode cX6_doneIn 36 = .ok (.iconst 1, 1) := by decide +kernel
theorem dX6_doneIn_37 : decode cX6_doneIn 37 = .ok (.invokevirtual 96, 3) := by decide +kernel
theorem dX6_doneIn_40 : decode cX6_doneIn 40 = .ok (.pop, 1) := by decide +kernel
theorem dX6_doneIn_41 : decode cX6_doneIn 41 = .ok (.iinc 1 1, 3) := by decide +kernel
theorem dX6_doneIn_44 : decode cX6_doneIn 44 = .ok (.goto (-31), 3) := by decide +kernel
theorem dX6_doneIn_47 : decode cX6_doneIn 47 = .ok (.iconst (-1), 1) := by decide +kernel
theorem dX6_doneIn_48 : decode cX6_doneIn 48 = .ok (.ireturn, 1) := by decide +kernel
set_option maxRecDepth 20000 in
theorem ggX6_finalValue_X6_faultOfBlock : GoodIn wsX6_finalValue wsX6_faultOfBlock := goodIn_r _ [6, 7, 8, 5, 9] (by decide +kernel) (by decide +kernel)
set_option maxRecDepth 20000 in
theorem gX6_finalValue_X6_faultOfBlock : GoodIn wsX6_finalValue (va_wsS RX6 105 yX6_faultOfBlock wsX6_faultOfBlock) := goodIn_app (goodIn_of _ (by decide +kernel)) ggX6_finalValue_X6_faultOfBlock
set_option maxRecDepth 20000 in
theorem ggX6_finalValue_X6_refuse : GoodIn wsX6_finalValue wsX6_refuse := goodIn_ca (goodIn_ca (goodIn_ca (goodIn_r _ [12, 13, 14, 15, 16, 17, 18] (by decide +kernel) (by decide +kernel)) (goodIn_sub (fun _ h => List.mem_cons_of_mem _ (List.mem_append_left _ (List.mem_append_left _ (List.mem_append_right _ h)))) (by decide +kernel))) (goodIn_sub (fun _ h => List.mem_cons_of_mem _ (List.mem_append_left _ (List.mem_append_right _ h))) (by decide +kernel))) (goodIn_sub (fun _ h => List.mem_cons_of_mem _ (List.mem_append_right _ h)) (by decide +kernel))
set_option maxRecDepth 20000 in
theorem gX6_finalValue_X6_refuse : GoodIn wsX6_finalValue (va_wsS RX6 44 yX6_refuse wsX6_refuse) := goodIn_app (goodIn_of _ (by decide +kernel)) ggX6_finalValue_X6_refuse
set_option maxRecDepth 20000 in
theorem ggX6_finalValue_X3_reckonFinals : GoodIn wsX6_finalValue wsX3_reckonFinals := goodIn_r _ [23, 24, 25, 26, 5, 27, 28, 29, 30, 31, 32, 22, 33, 34, 35, 36, 37, 38, 39, 40, 41, 42, 43, 51, 52, 53, 54, 55, 56, 57, 58] (by decide +kernel) (by decide +kernel)
set_option maxRecDepth 20000 in
theorem gX6_finalValue_X3_reckonFinals : GoodIn wsX6_finalValue (wsV RX6 160 RX3 yX3_reckonFinals wsX3_reckonFinals) := goodIn_app (goodIn_of _ (by decide +kernel)) ggX6_finalValue_X3_reckonFinals
set_option maxRecDepth 20000 in
theorem ggX6_finalValue_X6_at : GoodIn wsX6_finalValue wsX6_at := goodIn_r _ [27] (by decide +kernel) (by decide +kernel)
set_option maxRecDepth 20000 in
theorem gX6_finalValue_X6_at : GoodIn wsX6_finalValue (va_wsS RX6 111 yX6_at wsX6_at) := goodIn_app (goodIn_of _ (by decide +kernel)) ggX6_finalValue_X6_at
theorem dX6_finalValue_0 : decode cX6_finalValue 0 = .ok (.iload_n 1, 1) := by decide +kernel
theorem dX6_finalValue_1 : decode cX6_finalValue 1 = .ok (.invokestatic 105, 3) := by decide +kernel
theorem dX6_finalValue_4 : decode cX6_finalValue 4 = .ok (.invokestatic 44, 3) := by decide +kernel
theorem dX6_finalValue_7 : decode cX6_finalValue 7 = .ok (.aload_n 0, 1) := by decide +kernel
theorem dX6_finalValue_8 : decode cX6_finalValue 8 = .ok (.getfield 10, 3) := by decide +kernel
theorem dX6_finalValue_11 : decode cX6_finalValue 11 = .ok (.aload_n 0, 1) := by decide +kernel
theorem dX6_finalValue_12 : decode cX6_finalValue 12 = .ok (.getfield 33, 3) := by decide +kernel
theorem dX6_finalValue_15 : decode cX6_finalValue 15 = .ok (.invokevirtual 160, 3) := by decide +kernel
theorem dX6_finalValue_18 : decode cX6_finalValue 18 = .ok (.aload_n 0, 1) := by decide +kernel
theorem dX6_finalValue_19 : decode cX6_finalValue 19 = .ok (.getfield 33, 3) := by decide +kernel
theorem dX6_finalValue_22 : decode cX6_finalValue 22 = .ok (.iload_n 1, 1) := by decide +kernel
theorem dX6_finalValue_23 : decode cX6_finalValue 23 = .ok (.invokestatic 111, 3) := by decide +kernel
theorem dX6_finalValue_26 : decode cX6_finalValue 26 = .ok (.ireturn, 1) := by decide +kernel
set_option maxRecDepth 20000 in
theorem ggX6_type_X6_faultOfRange : GoodIn wsX6_type wsX6_faultOfRange := goodIn_r _ [5, 6, 7, 4, 8] (by decide +kernel) (by decide +kernel)
set_option maxRecDepth 20000 in
theorem gX6_type_X6_faultOfRange : GoodIn wsX6_type (va_wsS RX6 118 yX6_faultOfRange wsX6_faultOfRange) := goodIn_app (goodIn_of _ (by decide +kernel)) ggX6_type_X6_faultOfRange
set_option maxRecDepth 20000 in
theorem ggX6_type_X6_refuse : GoodIn wsX6_type wsX6_refuse := goodIn_ca (goodIn_ca (goodIn_ca (goodIn_r _ [11, 12, 13, 14, 15, 16, 17] (by decide +kernel) (by decide +kernel)) (goodIn_sub (fun _ h => List.mem_cons_of_mem _ (List.mem_append_left _ (List.mem_append_left _ (List.mem_append_right _ h)))) (by decide +kernel))) (goodIn_sub (fun _ h => List.mem_cons_of_mem _ (List.mem_append_left _ (List.mem_append_right _ h))) (by decide +kernel))) (goodIn_sub (fun _ h => List.mem_cons_of_mem _ (List.mem_append_right _ h)) (by decide +kernel))
set_option maxRecDepth 20000 in
theorem gX6_type_X6_refuse : GoodIn wsX6_type (va_wsS RX6 44 yX6_refuse wsX6_refuse) := goodIn_app (goodIn_of _ (by decide +kernel)) ggX6_type_X6_refuse
set_option maxRecDepth 20000 in
theorem ggX6_type_X1_isFull : GoodIn wsX6_type wsX1_isFull := goodIn_r _ [22, 23, 37, 38, 39, 40, 41] (by decide +kernel) (by decide +kernel)
set_option maxRecDepth 20000 in
theorem gX6_type_X1_isFull : GoodIn wsX6_type (wsV RX6 163 RX1 yX1_isFull wsX1_isFull) := goodIn_app (goodIn_of _ (by decide +kernel)) ggX6_type_X1_isFull
set_option maxRecDepth 20000 in
theorem ggX6_type_X1_append : GoodIn wsX6_type wsX1_append := goodIn_r _ [27, 28, 23, 29, 4, 30, 37, 38, 39, 40, 41] (by decide +kernel) (by decide +kernel)
set_option maxRecDepth 20000 in
theorem gX6_type_X1_append : GoodIn wsX6_type (wsV RX6 166 RX1 yX1_append wsX1_append) := goodIn_app (goodIn_of _ (by decide +kernel)) ggX6_type_X1_append
theorem dX6_type_0 : decode cX6_type 0 = .ok (.iload_n 1, 1) := by decide +kernel
theorem dX6_type_1 : decode cX6_type 1 = .ok (.iconst 0, 1) := by decide +kernel
theorem dX6_type_2 : decode cX6_type 2 = .ok (.bipush 127, 2) := by decide +kernel
theorem dX6_type_4 : decode cX6_type 4 = .ok (.invokestatic 118, 3) := by decide +kernel
theorem dX6_type_7 : decode cX6_type 7 = .ok (.invokestatic 44, 3) := by decide +kernel
theorem dX6_type_10 : decode cX6_type 10 = .ok (.aload_n 0, 1) := by decide +kernel
theorem dX6_type_11 : decode cX6_type 11 = .ok (.getfield 29, 3) := by decide +kernel
theorem dX6_type_14 : decode cX6_type 14 = .ok (.invokevirtual 163, 3) := by decide +kernel
theorem dX6_type_17 : decode cX6_type 17 = .ok (.ifCond .eq 7, 3) := by decide +kernel
theorem dX6_type_20 : decode cX6_type 20 = .ok (.iconst 3, 1) := by decide +kernel
theorem dX6_type_21 : decode cX6_type 21 = .ok (.goto 4, 3) := by decide +kernel
theorem dX6_type_24 : decode cX6_type 24 = .ok (.iconst 0, 1) := by decide +kernel
theorem dX6_type_25 : decode cX6_type 25 = .ok (.invokestatic 44, 3) := by decide +kernel
theorem dX6_type_28 : decode cX6_type 28 = .ok (.aload_n 0, 1) := by decide +kernel
theorem dX6_type_29 : decode cX6_type 29 = .ok (.getfield 29, 3) := by decide +kernel
theorem dX6_type_32 : decode cX6_type 32 = .ok (.iload_n 1, 1) := by decide +kernel
theorem dX6_type_33 : decode cX6_type 33 = .ok (.invokevirtual 166, 3) := by decide +kernel
theorem dX6_type_36 : decode cX6_type 36 = .ok (.ireturn, 1) := by decide +kernel
set_option maxRecDepth 20000 in
theorem ggX6_undo_X6_refuse : GoodIn wsX6_undo wsX6_refuse := goodIn_ca (goodIn_ca (goodIn_ca (goodIn_r _ [7, 8, 9, 10, 11, 12, 13] (by decide +kernel) (by decide +kernel)) (goodIn_sub (fun _ h => List.mem_cons_of_mem _ (List.mem_append_left _ (List.mem_append_left _ (List.mem_append_right _ h)))) (by decide +kernel))) (goodIn_sub (fun _ h => List.mem_cons_of_mem _ (List.mem_append_left _ (List.mem_append_right _ h))) (by decide +kernel))) (goodIn_sub (fun _ h => List.mem_cons_of_mem _ (List.mem_append_right _ h)) (by decide +kernel))
set_option maxRecDepth 20000 in
theorem gX6_undo_X6_refuse : GoodIn wsX6_undo (va_wsS RX6 44 yX6_refuse wsX6_refuse) := goodIn_app (goodIn_of _ (by decide +kernel)) ggX6_undo_X6_refuse
set_option maxRecDepth 20000 in
theorem ggX6_undo_X4_restoreTo : GoodIn wsX6_undo wsX4_restoreTo := goodIn_r _ [18, 19, 20, 21, 22, 23, 17, 24, 25, 26, 27, 28, 29, 30, 31, 32, 33, 34, 35, 36, 37, 38, 39, 40, 41, 42, 43, 44, 45, 46, 47, 48, 49, 50, 51, 52, 53, 54, 55, 62, 63, 64, 65, 66, 67, 68, 69, 70, 71, 72, 73, 74, 75, 76, 77, 78, 79, 80] (by decide +kernel) (by decide +kernel)
set_option maxRecDepth 20000 in
theorem gX6_undo_X4_restoreTo : GoodIn wsX6_undo (wsV RX6 192 RX4 yX4_restoreTo wsX4_restoreTo) := goodIn_app (goodIn_of _ (by decide +kernel)) ggX6_undo_X4_restoreTo
theorem dX6_undo_0 : decode cX6_undo 0 = .ok (.aload_n 0, 1) := by decide +kernel
theorem dX6_undo_1 : decode cX6_undo 1 = .ok (.getfield 22, 3) := by decide +kernel
theorem dX6_undo_4 : decode cX6_undo 4 = .ok (.getfield 188, 3) := by decide +kernel
theorem dX6_undo_7 : decode cX6_undo 7 = .ok (.ifCond .ne 7, 3) := by decide +kernel
theorem dX6_undo_10 : decode cX6_undo 10 = .ok (.iconst 3, 1) := by decide +kernel
theorem dX6_undo_11 : decode cX6_undo 11 = .ok (.goto 4, 3) := by decide +kernel
theorem dX6_undo_14 : decode cX6_undo 14 = .ok (.iconst 0, 1) := by decide +kernel
theorem dX6_undo_15 : decode cX6_undo 15 = .ok (.invokestatic 44, 3) := by decide +kernel
theorem dX6_undo_18 : decode cX6_undo 18 = .ok (.aload_n 0, 1) := by decide +kernel
theorem dX6_undo_19 : decode cX6_undo 19 = .ok (.getfield 22, 3) := by decide +kernel
theorem dX6_undo_22 : decode cX6_undo 22 = .ok (.aload_n 0, 1) := by decide +kernel
theorem dX6_undo_23 : decode cX6_undo 23 = .ok (.getfield 10, 3) := by decide +kernel
theorem dX6_undo_26 : decode cX6_undo 26 = .ok (.invokevirtual 192, 3) := by decide +kernel
theorem dX6_undo_29 : decode cX6_undo 29 = .ok (.ireturn, 1) := by decide +kernel
set_option maxRecDepth 20000 in
theorem ggX6_digest_X6_mix : GoodIn wsX6_digest wsX6_mix := goodIn_r _ [7, 8] (by decide +kernel) (by decide +kernel)
set_option maxRecDepth 20000 in
theorem gX6_digest_X6_mix : GoodIn wsX6_digest (va_wsS RX6 198 yX6_mix wsX6_mix) := goodIn_app (goodIn_of _ (by decide +kernel)) ggX6_digest_X6_mix
set_option maxRecDepth 20000 in
theorem ggX6_digest_X6_wholeFact : GoodIn wsX6_digest wsX6_wholeFact := goodIn_r _ [12, 13, 14, 15, 16, 17, 18, 19, 20, 21, 22, 23, 24, 25, 26, 27, 28, 29, 30, 31, 32, 33, 34, 35, 36, 37, 38, 39, 40, 41, 42, 43, 6, 44, 156, 157, 158, 159, 160, 161, 165, 166, 167, 168, 169, 170, 171, 172, 173, 174, 175, 176, 177, 178, 179, 180, 181, 182, 183, 184, 185] (by decide +kernel) (by decide +kernel)
set_option maxRecDepth 20000 in
theorem gX6_digest_X6_wholeFact : GoodIn wsX6_digest (wsV RX6 137 RX6 yX6_wholeFact wsX6_wholeFact) := goodIn_app (goodIn_of _ (by decide +kernel)) ggX6_digest_X6_wholeFact
set_option maxRecDepth 20000 in
theorem ggX6_digest_X6_mixBlocks : GoodIn wsX6_digest wsX6_mixBlocks := goodIn_r _ [48, 15, 49, 50, 51, 52, 53, 19, 54, 42, 21, 43, 6, 44, 55, 56, 57, 58, 59, 60, 33, 34, 35, 36, 37, 61, 62, 63, 64, 24, 65, 4, 5, 7, 8, 156, 157, 158, 159, 160, 161, 170, 171, 172, 173, 174, 175, 176, 177] (by decide +kernel) (by decide +kernel)
set_option maxRecDepth 20000 in
theorem gX6_digest_X6_mixBlocks : GoodIn wsX6_digest (wsV RX6 202 RX6 yX6_mixBlocks wsX6_mixBlocks) := goodIn_app (goodIn_of _ (by decide +kernel)) ggX6_digest_X6_mixBlocks
set_option maxRecDepth 20000 in
theorem ggX6_digest_X6_mixOrders : GoodIn wsX6_digest wsX6_mixOrders := goodIn_r _ [69, 15, 70, 71, 72, 73, 74, 19, 75, 21, 76, 77, 78, 79, 57, 58, 59, 60, 33, 34, 35, 36, 37, 80, 81, 82, 83, 84, 85, 86, 87, 88, 43, 6, 44, 55, 56, 89, 4, 5, 7, 8, 90, 91, 92, 93, 65, 156, 157, 158, 159, 160, 161, 170, 171, 172, 173, 174, 175, 176, 177] (by decide +kernel) (by decide +kernel)
set_option maxRecDepth 20000 in
theorem gX6_digest_X6_mixOrders : GoodIn wsX6_digest (wsV RX6 206 RX6 yX6_mixOrders wsX6_mixOrders) := goodIn_app (goodIn_of _ (by decide +kernel)) ggX6_digest_X6_mixOrders
set_option maxRecDepth 20000 in
theorem ggX6_digest_X6_mixController : GoodIn wsX6_digest wsX6_mixController := goodIn_r _ [97, 15, 71, 98, 99, 100, 19, 101, 102, 103, 104, 105, 21, 106, 107, 108, 109, 22, 110, 111, 112, 113, 25, 27, 114, 115, 116, 117, 118, 119, 33, 34, 35, 36, 37, 120, 121, 122, 123, 124, 125, 126, 127, 128, 129, 130, 131, 132, 133, 134, 135, 136, 137, 138, 139, 140, 141, 4, 5, 6, 7, 8, 142, 143, 144, 145, 146, 147, 23, 148, 149, 150, 151, 152, 153, 154, 155, 57, 58, 59, 60, 84, 85, 86, 87, 88, 156, 157, 158, 159, 160, 161, 170, 171, 172, 173, 174, 175, 176, 177, 178, 179, 180, 181, 182, 183, 184, 185] (by decide +kernel) (by decide +kernel)
set_option maxRecDepth 20000 in
theorem gX6_digest_X6_mixController : GoodIn wsX6_digest (wsV RX6 209 RX6 yX6_mixController wsX6_mixController) := goodIn_app (goodIn_of _ (by decide +kernel)) ggX6_digest_X6_mixController
theorem dX6_digest_0 : decode cX6_digest 0 = .ok (.ldc2_w 196, 3) := by decide +kernel
theorem dX6_digest_3 : decode cX6_digest 3 = .ok (.aload_n 0, 1) := by decide +kernel
theorem dX6_digest_4 : decode cX6_digest 4 = .ok (.getfield 22, 3) := by decide +kernel
theorem dX6_digest_7 : decode cX6_digest 7 = .ok (.getfield 188, 3) := by decide +kernel
theorem dX6_digest_10 : decode cX6_digest 10 = .ok (.i2l, 1) := by decide +kernel
theorem dX6_digest_11 : decode cX6_digest 11 = .ok (.invokestatic 198, 3) := by decide +kernel
theorem dX6_digest_14 : decode cX6_digest 14 = .ok (.lstore_n 1, 1) := by decide +kernel
theorem dX6_digest_15 : decode cX6_digest 15 = .ok (.iconst 0, 1) := by decide +kernel
theorem dX6_digest_16 : decode cX6_digest 16 = .ok (.istore_n 3, 1) := by decide +kernel
theorem dX6_digest_17 : decode cX6_digest 17 = .ok (.iload_n 3, 1) := by decide +kernel
theorem dX6_digest_18 : decode cX6_digest 18 = .ok (.bipush 12, 2) := by decide +kernel
theorem dX6_digest_20 : decode cX6_digest 20 = .ok (.if_icmp .ge 20, 3) := by decide +kernel
theorem dX6_digest_23 : decode cX6_digest 23 = .ok (.lload_n 1, 1) := by decide +kernel
theorem dX6_digest_24 : decode cX6_digest 24 = .ok (.aload_n 0, 1) := by decide +kernel
theorem dX6_digest_25 : decode cX6_digest 25 = .ok (.iload_n 3, 1) := by decide +kernel
theorem dX6_digest_26 : decode cX6_digest 26 = .ok (.invokevirtual 137, 3) := by decide +kernel
theorem dX6_digest_29 : decode cX6_digest 29 = .ok (.i2l, 1) := by decide +kernel
theorem dX6_digest_30 : decode cX6_digest 30 = .ok (.invokestatic 198, 3) := by decide +kernel
theorem dX6_digest_33 : decode cX6_digest 33 = .ok (.lstore_n 1, 1) := by decide +kernel
theorem dX6_digest_34 : decode cX6_digest 34 = .ok (.iinc 3 1, 3) := by decide +kernel
theorem dX6_digest_37 : decode cX6_digest 37 = .ok (.goto (-20), 3) := by decide +kernel
theorem dX6_digest_40 : decode cX6_digest 40 = .ok (.aload_n 0, 1) := by decide +kernel
theorem dX6_digest_41 : decode cX6_digest 41 = .ok (.lload_n 1, 1) := by decide +kernel
theorem dX6_digest_42 : decode cX6_digest 42 = .ok (.invokevirtual 202, 3) := by decide +kernel
theorem dX6_digest_45 : decode cX6_digest 45 = .ok (.lstore_n 1, 1) := by decide +kernel
theorem dX6_digest_46 : decode cX6_digest 46 = .ok (.aload_n 0, 1) := by decide +kernel
theorem dX6_digest_47 : decode cX6_digest 47 = .ok (.lload_n 1, 1) := by decide +kernel
theorem dX6_digest_48 : decode cX6_digest 48 = .ok (.invokevirtual 206, 3) := by decide +kernel
theorem dX6_digest_51 : decode cX6_digest 51 = .ok (.lstore_n 1, 1) := by decide +kernel
theorem dX6_digest_52 : decode cX6_digest 52 = .ok (.iconst 0, 1) := by decide +kernel
theorem dX6_digest_53 : decode cX6_digest 53 = .ok (.istore_n 3, 1) := by decide +kernel
theorem dX6_digest_54 : decode cX6_digest 54 = .ok (.iload_n 3, 1) := by decide +kernel
theorem dX6_digest_55 : decode cX6_digest 55 = .ok (.iconst 2, 1) := by decide +kernel
theorem dX6_digest_56 : decode cX6_digest 56 = .ok (.if_icmp .ge 16, 3) := by decide +kernel
theorem dX6_digest_59 : decode cX6_digest 59 = .ok (.aload_n 0, 1) := by decide +kernel
theorem dX6_digest_60 : decode cX6_digest 60 = .ok (.lload_n 1, 1) := by decide +kernel
theorem dX6_digest_61 : decode cX6_digest 61 = .ok (.iload_n 3, 1) := by decide +kernel
theorem dX6_digest_62 : decode cX6_digest 62 = .ok (.invokevirtual 209, 3) := by decide +kernel
theorem dX6_digest_65 : decode cX6_digest 65 = .ok (.lstore_n 1, 1) := by decide +kernel
theorem dX6_digest_66 : decode cX6_digest 66 = .ok (.iinc 3 1, 3) := by decide +kernel
theorem dX6_digest_69 : decode cX6_digest 69 = .ok (.goto (-15), 3) := by decide +kernel
theorem dX6_digest_72 : decode cX6_digest 72 = .ok (.lload_n 1, 1) := by decide +kernel
theorem dX6_digest_73 : decode cX6_digest 73 = .ok (.lreturn, 1) := by decide +kernel
set_option maxRecDepth 20000 in
theorem ggX6_mixBlocks_X3_reckonFinals : GoodIn wsX6_mixBlocks wsX3_reckonFinals := goodIn_r _ [8, 9, 10, 11, 12, 13, 14, 15, 16, 17, 18, 7, 19, 20, 21, 22, 23, 24, 25, 26, 27, 28, 29, 41, 42, 43, 44, 45, 46, 47, 48] (by decide +kernel) (by decide +kernel)
set_option maxRecDepth 20000 in
theorem gX6_mixBlocks_X3_reckonFinals : GoodIn wsX6_mixBlocks (wsV RX6 160 RX3 yX3_reckonFinals wsX3_reckonFinals) := goodIn_app (goodIn_of _ (by decide +kernel)) ggX6_mixBlocks_X3_reckonFinals
set_option maxRecDepth 20000 in
theorem ggX6_mixBlocks_X6_at : GoodIn wsX6_mixBlocks wsX6_at := goodIn_r _ [13] (by decide +kernel) (by decide +kernel)
set_option maxRecDepth 20000 in
theorem gX6_mixBlocks_X6_at : GoodIn wsX6_mixBlocks (va_wsS RX6 111 yX6_at wsX6_at) := goodIn_app (goodIn_of _ (by decide +kernel)) ggX6_mixBlocks_X6_at
set_option maxRecDepth 20000 in
theorem ggX6_mixBlocks_X6_mix : GoodIn wsX6_mixBlocks wsX6_mix := goodIn_r _ [33, 34] (by decide +kernel) (by decide +kernel)
set_option maxRecDepth 20000 in
theorem gX6_mixBlocks_X6_mix : GoodIn wsX6_mixBlocks (va_wsS RX6 198 yX6_mix wsX6_mix) := goodIn_app (goodIn_of _ (by decide +kernel)) ggX6_mixBlocks_X6_mix
theorem dX6_mixBlocks_0 : decode cX6_mixBlocks 0 = .ok (.lload_n 1, 1) := by decide +kernel
theorem dX6_mixBlocks_1 : decode cX6_mixBlocks 1 = .ok (.lstore_n 3, 1) := by decide +kernel
theorem dX6_mixBlocks_2 : decode cX6_mixBlocks 2 = .ok (.aload_n 0, 1) := by decide +kernel
theorem dX6_mixBlocks_3 : decode cX6_mixBlocks 3 = .ok (.getfield 10, 3) := by decide +kernel
theorem dX6_mixBlocks_6 : decode cX6_mixBlocks 6 = .ok (.aload_n 0, 1) := by decide +kernel
theorem dX6_mixBlocks_7 : decode cX6_mixBlocks 7 = .ok (.getfield 33, 3) := by decide +kernel
theorem dX6_mixBlocks_10 : decode cX6_mixBlocks 10 = .ok (.invokevirtual 160, 3) := by decide +kernel
theorem dX6_mixBlocks_13 : decode cX6_mixBlocks 13 = .ok (.iconst 0, 1) := by decide +kernel
theorem dX6_mixBlocks_14 : decode cX6_mixBlocks 14 = .ok (.istore 5, 2) := by decide +kernel
theorem dX6_mixBlocks_16 : decode cX6_mixBlocks 16 = .ok (.iload 5, 2) := by decide +kernel
theorem dX6_mixBlocks_18 : decode cX6_mixBlocks 18 = .ok (.bipush 16, 2) := by decide +kernel
theorem dX6_mixBlocks_20 : decode cX6_mixBlocks 20 = .ok (.if_icmp .ge 42, 3) := by decide +kernel
theorem dX6_mixBlocks_23 : decode cX6_mixBlocks 23 = .ok (.lload_n 3, 1) := by decide +kernel
theorem dX6_mixBlocks_24 : decode cX6_mixBlocks 24 = .ok (.aload_n 0, 1) := by decide +kernel
theorem dX6_mixBlocks_25 : decode cX6_mixBlocks 25 = .ok (.getfield 10, 3) := by decide +kernel
theorem dX6_mixBlocks_28 : decode cX6_mixBlocks 28 = .ok (.getfield 108, 3) := by decide +kernel
theorem dX6_mixBlocks_31 : decode cX6_mixBlocks 31 = .ok (.iload 5, 2) := by decide +kernel
theorem dX6_mixBlocks_33 : decode cX6_mixBlocks 33 = .ok (.invokestatic 111, 3) := by decide +kernel
theorem dX6_mixBlocks_36 : decode cX6_mixBlocks 36 = .ok (.i2l, 1) := by decide +kernel
theorem dX6_mixBlocks_37 : decode cX6_mixBlocks 37 = .ok (.invokestatic 198, 3) := by decide +kernel
theorem dX6_mixBlocks_40 : decode cX6_mixBlocks 40 = .ok (.lstore_n 3, 1) := by decide +kernel
theorem dX6_mixBlocks_41 : decode cX6_mixBlocks 41 = .ok (.lload_n 3, 1) := by decide +kernel
theorem dX6_mixBlocks_42 : decode cX6_mixBlocks 42 = .ok (.aload_n 0, 1) := by decide +kernel
theorem dX6_mixBlocks_43 : decode cX6_mixBlocks 43 = .ok (.getfield 33, 3) := by decide +kernel
theorem dX6_mixBlocks_46 : decode cX6_mixBlocks 46 = .ok (.iload 5, 2) := by decide +kernel
theorem dX6_mixBlocks_48 : decode cX6_mixBlocks 48 = .ok (.invokestatic 111, 3) := by decide +kernel
theorem dX6_mixBlocks_51 : decode cX6_mixBlocks 51 = .ok (.i2l, 1) := by decide +kernel
theorem dX6_mixBlocks_52 : decode cX6_mixBlocks 52 = .ok (.invokestatic 198, 3) := by decide +kernel
theorem dX6_mixBlocks_55 : decode cX6_mixBlocks 55 = .ok (.lstore_n 3, 1) := by decide +kernel
theorem dX6_mixBlocks_56 : decode cX6_mixBlocks 56 = .ok (.iinc 5 1, 3) := by decide +kernel
theorem dX6_mixBlocks_59 : decode cX6_mixBlocks 59 = .ok (.goto (-43), 3) := by decide +kernel
theorem dX6_mixBlocks_62 : decode cX6_mixBlocks 62 = .ok (.lload_n 3, 1) := by decide +kernel
theorem dX6_mixBlocks_63 : decode cX6_mixBlocks 63 = .ok (.lreturn, 1) := by decide +kernel
set_option maxRecDepth 20000 in
theorem ggX6_mixOrders_X3_reckonDepths : GoodIn wsX6_mixOrders wsX3_reckonDepths := goodIn_r _ [8, 9, 10, 11, 12, 13, 14, 15, 16, 7, 17, 18, 19, 20, 21, 22, 23, 24, 25, 26, 27, 28, 29, 30, 31, 32, 33, 34, 35, 36, 53, 54, 55, 56, 57, 58, 59, 60] (by decide +kernel) (by decide +kernel)
set_option maxRecDepth 20000 in
theorem gX6_mixOrders_X3_reckonDepths : GoodIn wsX6_mixOrders (wsV RX6 143 RX3 yX3_reckonDepths wsX3_reckonDepths) := goodIn_app (goodIn_of _ (by decide +kernel)) ggX6_mixOrders_X3_reckonDepths
set_option maxRecDepth 20000 in
theorem ggX6_mixOrders_X3_fact : GoodIn wsX6_mixOrders wsX3_fact := goodIn_r _ [21, 22, 53, 54, 55, 56, 57, 58, 59, 60] (by decide +kernel) (by decide +kernel)
set_option maxRecDepth 20000 in
theorem gX6_mixOrders_X3_fact : GoodIn wsX6_mixOrders (wsV RX6 122 RX3 yX3_fact wsX3_fact) := goodIn_app (goodIn_of _ (by decide +kernel)) ggX6_mixOrders_X3_fact
set_option maxRecDepth 20000 in
theorem ggX6_mixOrders_X6_mix : GoodIn wsX6_mixOrders wsX6_mix := goodIn_r _ [40, 41] (by decide +kernel) (by decide +kernel)
set_option maxRecDepth 20000 in
theorem gX6_mixOrders_X6_mix : GoodIn wsX6_mixOrders (va_wsS RX6 198 yX6_mix wsX6_mix) := goodIn_app (goodIn_of _ (by decide +kernel)) ggX6_mixOrders_X6_mix
set_option maxRecDepth 20000 in
theorem ggX6_mixOrders_X3_firstAwaited : GoodIn wsX6_mixOrders wsX3_firstAwaited := goodIn_r _ [45, 14, 15, 16, 7, 17, 18, 19, 20, 21, 22, 23, 24, 25, 26, 27, 28, 29, 30, 31, 53, 54, 55, 56, 57, 58, 59, 60] (by decide +kernel) (by decide +kernel)
set_option maxRecDepth 20000 in
theorem gX6_mixOrders_X3_firstAwaited : GoodIn wsX6_mixOrders (wsV RX6 140 RX3 yX3_firstAwaited wsX3_firstAwaited) := goodIn_app (goodIn_of _ (by decide +kernel)) ggX6_mixOrders_X3_firstAwaited
set_option maxRecDepth 20000 in
theorem ggX6_mixOrders_X6_at : GoodIn wsX6_mixOrders wsX6_at := goodIn_r _ [34] (by decide +kernel) (by decide +kernel)
set_option maxRecDepth 20000 in
theorem gX6_mixOrders_X6_at : GoodIn wsX6_mixOrders (va_wsS RX6 111 yX6_at wsX6_at) := goodIn_app (goodIn_of _ (by decide +kernel)) ggX6_mixOrders_X6_at
theorem dX6_mixOrders_0 : decode cX6_mixOrders 0 = .ok (.lload_n 1, 1) := by decide +kernel
theorem dX6_mixOrders_1 : decode cX6_mixOrders 1 = .ok (.lstore_n 3, 1) := by decide +kernel
theorem dX6_mixOrders_2 : decode cX6_mixOrders 2 = .ok (.aload_n 0, 1) := by decide +kernel
theorem dX6_mixOrders_3 : decode cX6_mixOrders 3 = .ok (.getfield 10, 3) := by decide +kernel
theorem dX6_mixOrders_6 : decode cX6_mixOrders 6 = .ok (.aload_n 0, 1) := by decide +kernel
theorem dX6_mixOrders_7 : decode cX6_mixOrders 7 = .ok (.getfield 37, 3) := by decide +kernel
theorem dX6_mixOrders_10 : decode cX6_mixOrders 10 = .ok (.invokevirtual 143, 3) := by decide +kernel
theorem dX6_mixOrders_13 : decode cX6_mixOrders 13 = .ok (.iconst 0, 1) := by decide +kernel
theorem dX6_mixOrders_14 : decode cX6_mixOrders 14 = .ok (.istore 5, 2) := by decide +kernel
theorem dX6_mixOrders_16 : decode cX6_mixOrders 16 = .ok (.iload 5, 2) := by decide +kernel
theorem dX6_mixOrders_18 : decode cX6_mixOrders 18 = .ok (.aload_n 0, 1) := by decide +kernel
theorem dX6_mixOrders_19 : decode cX6_mixOrders 19 = .ok (.getfield 10, 3) := by decide +kernel
theorem dX6_mixOrders_22 : decode cX6_mixOrders 22 = .ok (.getfield 213, 3) := by decide +kernel
theorem dX6_mixOrders_25 : decode cX6_mixOrders 25 = .ok (.if_icmp .ge 72, 3) := by decide +kernel
theorem dX6_mixOrders_28 : decode cX6_mixOrders 28 = .ok (.iconst 0, 1) := by decide +kernel
theorem dX6_mixOrders_29 : decode cX6_mixOrders 29 = .ok (.istore 6, 2) := by decide +kernel
theorem dX6_mixOrders_31 : decode cX6_mixOrders 31 = .ok (.iload 6, 2) := by decide +kernel
theorem dX6_mixOrders_33 : decode cX6_mixOrders 33 = .ok (.bipush 10, 2) := by decide +kernel
theorem dX6_mixOrders_35 : decode cX6_mixOrders 35 = .ok (.if_icmp .ge 26, 3) := by decide +kernel
theorem dX6_mixOrders_38 : decode cX6_mixOrders 38 = .ok (.lload_n 3, 1) := by decide +kernel
theorem dX6_mixOrders_39 : decode cX6_mixOrders 39 = .ok (.aload_n 0, 1) := by decide +kernel
theorem dX6_mixOrders_40 : decode cX6_mixOrders 40 = .ok (.getfield 10, 3) := by decide +kernel
theorem dX6_mixOrders_43 : decode cX6_mixOrders 43 = .ok (.iload 5, 2) := by decide +kernel
theorem dX6_mixOrders_45 : decode cX6_mixOrders 45 = .ok (.iload 6, 2) := by decide +kernel
theorem dX6_mixOrders_47 : decode cX6_mixOrders 47 = .ok (.invokevirtual 122, 3) := by decide +kernel
theorem dX6_mixOrders_50 : decode cX6_mixOrders 50 = .ok (.i2l, 1) := by decide +kernel
theorem dX6_mixOrders_51 : decode cX6_mixOrders 51 = .ok (.invokestatic 198, 3) := by decide +kernel
theorem dX6_mixOrders_54 : decode cX6_mixOrders 54 = .ok (.lstore_n 3, 1) := by decide +kernel
theorem dX6_mixOrders_55 : decode cX6_mixOrders 55 = .ok (.iinc 6 1, 3) := by decide +kernel
theorem dX6_mixOrders_58 : decode cX6_mixOrders 58 = .ok (.goto (-27), 3) := by decide +kernel
theorem dX6_mixOrders_61 : decode cX6_mixOrders 61 = .ok (.lload_n 3, 1) := by decide +kernel
theorem dX6_mixOrders_62 : decode cX6_mixOrders 62 = .ok (.aload_n 0, 1) := by decide +kernel
theorem dX6_mixOrders_63 : decode cX6_mixOrders 63 = .ok (.getfield 10, 3) := by decide +kernel
theorem dX6_mixOrders_66 : decode cX6_mixOrders 66 = .ok (.iload 5, 2) := by decide +kernel
theorem dX6_mixOrders_68 : decode cX6_mixOrders 68 = .ok (.invokevirtual 140, 3) := by decide +kernel
theorem dX6_mixOrders_71 : decode cX6_mixOrders 71 = .ok (.i2l, 1) := by decide +kernel
theorem dX6_mixOrders_72 : decode cX6_mixOrders 72 = .ok (.invokestatic 198, 3) := by decide +kernel
theorem dX6_mixOrders_75 : decode cX6_mixOrders 75 = .ok (.lstore_n 3, 1) := by decide +kernel
theorem dX6_mixOrders_76 : decode cX6_mixOrders 76 = .ok (.lload_n 3, 1) := by decide +kernel
theorem dX6_mixOrders_77 : decode cX6_mixOrders 77 = .ok (.aload_n 0, 1) := by decide +kernel
theorem dX6_mixOrders_78 : decode cX6_mixOrders 78 = .ok (.getfield 37, 3) := by decide +kernel
theorem dX6_mixOrders_81 : decode cX6_mixOrders 81 = .ok (.iload 5, 2) := by decide +kernel
theorem dX6_mixOrders_83 : decode cX6_mixOrders 83 = .ok (.invokestatic 111, 3) := by decide +kernel
theorem dX6_mixOrders_86 : decode cX6_mixOrders 86 = .ok (.i2l, 1) := by decide +kernel
theorem dX6_mixOrders_87 : decode cX6_mixOrders 87 = .ok (.invokestatic 198, 3) := by decide +kernel
theorem dX6_mixOrders_90 : decode cX6_mixOrders 90 = .ok (.lstore_n 3, 1) := by decide +kernel
theorem dX6_mixOrders_91 : decode cX6_mixOrders 91 = .ok (.iinc 5 1, 3) := by decide +kernel
theorem dX6_mixOrders_94 : decode cX6_mixOrders 94 = .ok (.goto (-78), 3) := by decide +kernel
theorem dX6_mixOrders_97 : decode cX6_mixOrders 97 = .ok (.lload_n 3, 1) := by decide +kernel
theorem dX6_mixOrders_98 : decode cX6_mixOrders 98 = .ok (.lreturn, 1) := by decide +kernel
set_option maxRecDepth 20000 in
theorem ggX6_mixController_X3_controllerFact : GoodIn wsX6_mixController wsX3_controllerFact := goodIn_r _ [7, 8, 9, 10, 6, 11, 12, 13, 14, 15, 16, 17, 18, 19, 20, 21, 22, 23, 24, 25, 26, 27, 28, 29, 30, 31, 32, 33, 34, 35, 36, 37, 38, 39, 40, 41, 42, 43, 44, 45, 46, 47, 48, 49, 50, 51, 52, 53, 54, 55, 56, 92, 93, 94, 95, 96, 97, 98, 99, 100, 101, 102, 103, 104, 105, 106, 107] (by decide +kernel) (by decide +kernel)
set_option maxRecDepth 20000 in
theorem gX6_mixController_X3_controllerFact : GoodIn wsX6_mixController (wsV RX6 131 RX3 yX3_controllerFact wsX3_controllerFact) := goodIn_app (goodIn_of _ (by decide +kernel)) ggX6_mixController_X3_controllerFact
set_option maxRecDepth 20000 in
theorem ggX6_mixController_X6_mix : GoodIn wsX6_mixController wsX6_mix := goodIn_r _ [60, 61] (by decide +kernel) (by decide +kernel)
set_option maxRecDepth 20000 in
theorem gX6_mixController_X6_mix : GoodIn wsX6_mixController (va_wsS RX6 198 yX6_mix wsX6_mix) := goodIn_app (goodIn_of _ (by decide +kernel)) ggX6_mixController_X6_mix
set_option maxRecDepth 20000 in
theorem ggX6_mixController_X3_controllerAt : GoodIn wsX6_mixController wsX3_controllerAt := goodIn_r _ [21, 22, 23, 92, 93, 94, 95, 96, 97, 98, 99] (by decide +kernel) (by decide +kernel)
set_option maxRecDepth 20000 in
theorem gX6_mixController_X3_controllerAt : GoodIn wsX6_mixController (wsV RX6 216 RX3 yX3_controllerAt wsX3_controllerAt) := goodIn_app (goodIn_of _ (by decide +kernel)) ggX6_mixController_X3_controllerAt
set_option maxRecDepth 20000 in
theorem ggX6_mixController_X2_holds : GoodIn wsX6_mixController wsX2_holds := goodIn_r _ [28, 29, 100, 101, 102, 103, 104, 105, 106, 107] (by decide +kernel) (by decide +kernel)
set_option maxRecDepth 20000 in
theorem gX6_mixController_X2_holds : GoodIn wsX6_mixController (wsV RX6 220 RX2 yX2_holds wsX2_holds) := goodIn_app (goodIn_of _ (by decide +kernel)) ggX6_mixController_X2_holds
set_option maxRecDepth 20000 in
theorem ggX6_mixController_X3_nextOf : GoodIn wsX6_mixController wsX3_nextOf := goodIn_r _ [67, 68, 69, 70, 71, 6, 72, 30, 31, 32, 33, 34, 73, 74, 75, 76, 12, 77, 78, 79, 80, 81, 82, 83, 84, 85, 13, 14, 15, 16, 17, 18, 19, 20, 21, 22, 23, 24, 25, 26, 27, 28, 29, 92, 93, 94, 95, 96, 97, 98, 99, 100, 101, 102, 103, 104, 105, 106, 107] (by decide +kernel) (by decide +kernel)
set_option maxRecDepth 20000 in
theorem gX6_mixController_X3_nextOf : GoodIn wsX6_mixController (wsV RX6 147 RX3 yX3_nextOf wsX3_nextOf) := goodIn_app (goodIn_of _ (by decide +kernel)) ggX6_mixController_X3_nextOf
theorem dX6_mixController_0 : decode cX6_mixController 0 = .ok (.lload_n 1, 1) := by decide +kernel
theorem dX6_mixController_1 : decode cX6_mixController 1 = .ok (.lstore 4, 2) := by decide +kernel
theorem dX6_mixController_3 : decode cX6_mixController 3 = .ok (.iconst 0, 1) := by decide +kernel
theorem dX6_mixController_4 : decode cX6_mixController 4 = .ok (.istore 6, 2) := by decide +kernel
theorem dX6_mixController_6 : decode cX6_mixController 6 = .ok (.iload 6, 2) := by decide +kernel
theorem dX6_mixController_8 : decode cX6_mixController 8 = .ok (.bipush 9, 2) := by decide +kernel
theorem dX6_mixController_10 : decode cX6_mixController 10 = .ok (.if_icmp .ge 27, 3) := by decide +kernel
theorem dX6_mixController_13 : decode cX6_mixController 13 = .ok (.lload 4, 2) := by decide +kernel
theorem dX6_mixController_15 : decode cX6_mixController 15 = .ok (.aload_n 0, 1) := by decide +kernel
theorem dX6_mixController_16 : decode cX6_mixController 16 = .ok (.getfield 10, 3) := by decide +kernel
theorem dX6_mixController_19 : decode cX6_mixController 19 = .ok (.iload_n 3, 1) := by decide +kernel
theorem dX6_mixController_20 : decode cX6_mixController 20 = .ok (.iload 6, 2) := by decide +kernel
theorem dX6_mixController_22 : decode cX6_mixController 22 = .ok (.invokevirtual 131, 3) := by decide +kernel
theorem dX6_mixController_25 : decode cX6_mixController 25 = .ok (.i2l, 1) := by decide +kernel
theorem dX6_mixController_26 : decode cX6_mixController 26 = .ok (.invokestatic 198, 3) := by decide +kernel
theorem dX6_mixController_29 : decode cX6_mixController 29 = .ok (.lstore 4, 2) := by decide +kernel
theorem dX6_mixController_31 : decode cX6_mixController 31 = .ok (.iinc 6 1, 3) := by decide +kernel
theorem dX6_mixController_34 : decode cX6_mixController 34 = .ok (.goto (-28), 3) := by decide +kernel
theorem dX6_mixController_37 : decode cX6_mixController 37 = .ok (.iconst 0, 1) := by decide +kernel
theorem dX6_mixController_38 : decode cX6_mixController 38 = .ok (.istore 6, 2) := by decide +kernel
theorem dX6_mixController_40 : decode cX6_mixController 40 = .ok (.iload 6, 2) := by decide +kernel
theorem dX6_mixController_42 : decode cX6_mixController 42 = .ok (.aload_n 0, 1) := by decide +kernel
theorem dX6_mixController_43 : decode cX6_mixController 43 = .ok (.getfield 10, 3) := by decide +kernel
theorem dX6_mixController_46 : decode cX6_mixController 46 = .ok (.getfield 213, 3) := by decide +kernel
theorem dX6_mixController_49 : decode cX6_mixController 49 = .ok (.if_icmp .ge 35, 3) := by decide +kernel
theorem dX6_mixController_52 : decode cX6_mixController 52 = .ok (.aload_n 0, 1) := by decide +kernel
theorem dX6_mixController_53 : decode cX6_mixController 53 = .ok (.getfield 10, 3) := by decide +kernel
theorem dX6_mixController_56 : decode cX6_mixController 56 = .ok (.iload_n 3, 1) := by decide +kernel
theorem dX6_mixController_57 : decode cX6_mixController 57 = .ok (.invokevirtual 216, 3) := by decide +kernel
theorem dX6_mixController_60 : decode cX6_mixController 60 = .ok (.iload 6, 2) := by decide +kernel
theorem dX6_mixController_62 : decode cX6_mixController 62 = .ok (.invokevirtual 220, 3) := by decide +kernel
theorem dX6_mixController_65 : decode cX6_mixController 65 = .ok (.ifCond .eq 13, 3) := by decide +kernel
theorem dX6_mixController_68 : decode cX6_mixController 68 = .ok (.lload 4, 2) := by decide +kernel
theorem dX6_mixController_70 : decode cX6_mixController 70 = .ok (.iload 6, 2) := by decide +kernel
theorem dX6_mixController_72 : decode cX6_mixController 72 = .ok (.i2l, 1) := by decide +kernel
theorem dX6_mixController_73 : decode cX6_mixController 73 = .ok (.invokestatic 198, 3) := by decide +kernel
theorem dX6_mixController_76 : decode cX6_mixController 76 = .ok (.lstore 4, 2) := by decide +kernel
theorem dX6_mixController_78 : decode cX6_mixController 78 = .ok (.iinc 6 1, 3) := by decide +kernel
theorem dX6_mixController_81 : decode cX6_mixController 81 = .ok (.goto (-41), 3) := by decide +kernel
theorem dX6_mixController_84 : decode cX6_mixController 84 = .ok (.lload 4, 2) := by decide +kernel
theorem dX6_mixController_86 : decode cX6_mixController 86 = .ok (.aload_n 0, 1) := by decide +kernel
theorem dX6_mixController_87 : decode cX6_mixController 87 = .ok (.getfield 10, 3) := by decide +kernel
theorem dX6_mixController_90 : decode cX6_mixController 90 = .ok (.iload_n 3, 1) := by decide +kernel
theorem dX6_mixController_91 : decode cX6_mixController 91 = .ok (.invokevirtual 147, 3) := by decide +kernel
theorem dX6_mixController_94 : decode cX6_mixController 94 = .ok (.i2l, 1) := by decide +kernel
theorem dX6_mixController_95 : decode cX6_mixController 95 = .ok (.invokestatic 198, 3) := by decide +kernel
theorem dX6_mixController_98 : decode cX6_mixController 98 = .ok (.lreturn, 1) := by decide +kernel
theorem dX6_mix_0 : decode cX6_mix 0 = .ok (.ldc2_w 226, 3) := by decide +kernel
theorem dX6_mix_3 : decode cX6_mix 3 = .ok (.lload_n 0, 1) := by decide +kernel
theorem dX6_mix_4 : decode cX6_mix 4 = .ok (.lmul, 1) := by decide +kernel
theorem dX6_mix_5 : decode cX6_mix 5 = .ok (.lload_n 2, 1) := by decide +kernel
theorem dX6_mix_6 : decode cX6_mix 6 = .ok (.ladd, 1) := by decide +kernel
theorem dX6_mix_7 : decode cX6_mix 7 = .ok (.lreturn, 1) := by decide +kernel
set_option maxRecDepth 20000 in
theorem ggX6_wholeFact_X3_wholeFact : GoodIn wsX6_wholeFact wsX3_wholeFact := goodIn_r _ [8, 9, 10, 11, 12, 13, 14, 15, 16, 17, 18, 19, 7, 20, 21, 22, 23, 24, 25, 26, 27, 28, 29, 30, 31, 32, 33, 45, 46, 47, 48, 49, 50, 51, 52, 53, 54, 55, 56, 57, 58, 59, 60] (by decide +kernel) (by decide +kernel)
set_option maxRecDepth 20000 in
theorem gX6_wholeFact_X3_wholeFact : GoodIn wsX6_wholeFact (wsV RX6 231 RX3 yX3_wholeFact wsX3_wholeFact) := goodIn_app (goodIn_of _ (by decide +kernel)) ggX6_wholeFact_X3_wholeFact
theorem dX6_wholeFact_0 : decode cX6_wholeFact 0 = .ok (.iload_n 1, 1) := by decide +kernel
theorem dX6_wholeFact_1 : decode cX6_wholeFact 1 = .ok (.bipush 11, 2) := by decide +kernel
theorem dX6_wholeFact_3 : decode cX6_wholeFact 3 = .ok (.if_icmp .ne 13, 3) := by decide +kernel
theorem dX6_wholeFact_6 : decode cX6_wholeFact 6 = .ok (.aload_n 0, 1) := by decide +kernel
theorem dX6_wholeFact_7 : decode cX6_wholeFact 7 = .ok (.getfield 29, 3) := by decide +kernel
theorem dX6_wholeFact_10 : decode cX6_wholeFact 10 = .ok (.getfield 228, 3) := by decide +kernel
theorem dX6_wholeFact_13 : decode cX6_wholeFact 13 = .ok (.goto 11, 3) := by decide +kernel
theorem dX6_wholeFact_16 : decode cX6_wholeFact 16 = .ok (.aload_n 0, 1) := by decide +kernel
theorem dX6_wholeFact_17 : decode cX6_wholeFact 17 = .ok (.getfield 10, 3) := by decide +kernel
theorem dX6_wholeFact_20 : decode cX6_wholeFact 20 = .ok (.iload_n 1, 1) := by decide +kernel
theorem dX6_wholeFact_21 : decode cX6_wholeFact 21 = .ok (.invokevirtual 231, 3) := by decide +kernel
theorem dX6_wholeFact_24 : decode cX6_wholeFact 24 = .ok (.ireturn, 1) := by decide +kernel
theorem dX6_refuse_0 : decode cX6_refuse 0 = .ok (.iload_n 0, 1) := by decide +kernel
theorem dX6_refuse_1 : decode cX6_refuse 1 = .ok (.iconst 1, 1) := by decide +kernel
theorem dX6_refuse_2 : decode cX6_refuse 2 = .ok (.if_icmp .ne 13, 3) := by decide +kernel
theorem dX6_refuse_5 : decode cX6_refuse 5 = .ok (.new 252, 3) := by decide +kernel
theorem dX6_refuse_8 : decode cX6_refuse 8 = .ok (.dup, 1) := by decide +kernel
theorem dX6_refuse_9 : decode cX6_refuse 9 = .ok (.ldc 254, 2) := by decide +kernel
theorem dX6_refuse_11 : decode cX6_refuse 11 = .ok (.invokespecial 256, 3) := by decide +kernel
theorem dX6_refuse_14 : decode cX6_refuse 14 = .ok (.athrow, 1) := by decide +kernel
theorem dX6_refuse_15 : decode cX6_refuse 15 = .ok (.iload_n 0, 1) := by decide +kernel
theorem dX6_refuse_16 : decode cX6_refuse 16 = .ok (.iconst 2, 1) := by decide +kernel
theorem dX6_refuse_17 : decode cX6_refuse 17 = .ok (.if_icmp .ne 14, 3) := by decide +kernel
theorem dX6_refuse_20 : decode cX6_refuse 20 = .ok (.new 259, 3) := by decide +kernel
theorem dX6_refuse_23 : decode cX6_refuse 23 = .ok (.dup, 1) := by decide +kernel
theorem dX6_refuse_24 : decode cX6_refuse 24 = .ok (.ldc_w 261, 3) := by decide +kernel
theorem dX6_refuse_27 : decode cX6_refuse 27 = .ok (.invokespecial 263, 3) := by decide +kernel
theorem dX6_refuse_30 : decode cX6_refuse 30 = .ok (.athrow, 1) := by decide +kernel
theorem dX6_refuse_31 : decode cX6_refuse 31 = .ok (.iload_n 0, 1) := by decide +kernel
theorem dX6_refuse_32 : decode cX6_refuse 32 = .ok (.iconst 3, 1) := by decide +kernel
theorem dX6_refuse_33 : decode cX6_refuse 33 = .ok (.if_icmp .ne 14, 3) := by decide +kernel
theorem dX6_refuse_36 : decode cX6_refuse 36 = .ok (.new 264, 3) := by decide +kernel
theorem dX6_refuse_39 : decode cX6_refuse 39 = .ok (.dup, 1) := by decide +kernel
theorem dX6_refuse_40 : decode cX6_refuse 40 = .ok (.ldc_w 266, 3) := by decide +kernel
theorem dX6_refuse_43 : decode cX6_refuse 43 = .ok (.invokespecial 268, 3) := by decide +kernel
theorem dX6_refuse_46 : decode cX6_refuse 46 = .ok (.athrow, 1) := by decide +kernel
theorem dX6_refuse_47 : decode cX6_refuse 47 = .ok (.return_, 1) := by decide +kernel
theorem dX6_isWithin_0 : decode cX6_isWithin 0 = .ok (.iload_n 0, 1) := by decide +kernel
theorem dX6_isWithin_1 : decode cX6_isWithin 1 = .ok (.iload_n 1, 1) := by decide +kernel
theorem dX6_isWithin_2 : decode cX6_isWithin 2 = .ok (.if_icmp .lt 12, 3) := by decide +kernel
theorem dX6_isWithin_5 : decode cX6_isWithin 5 = .ok (.iload_n 0, 1) := by decide +kernel
theorem dX6_isWithin_6 : decode cX6_isWithin 6 = .ok (.iload_n 2, 1) := by decide +kernel
theorem dX6_isWithin_7 : decode cX6_isWithin 7 = .ok (.if_icmp .gt 7, 3) := by decide +kernel
theorem dX6_isWithin_10 : decode cX6_isWithin 10 = .ok (.iconst 1, 1) := by decide +kernel
theorem dX6_isWithin_11 : decode cX6_isWithin 11 = .ok (.goto 4, 3) := by decide +kernel
theorem dX6_isWithin_14 : decode cX6_isWithin 14 = .ok (.iconst 0, 1) := by decide +kernel
theorem dX6_isWithin_15 : decode cX6_isWithin 15 = .ok (.ireturn, 1) := by decide +kernel
set_option maxRecDepth 20000 in
theorem ggX6_faultOfRange_X6_isWithin : GoodIn wsX6_faultOfRange wsX6_isWithin := goodIn_r _ [4] (by decide +kernel) (by decide +kernel)
set_option maxRecDepth 20000 in
theorem gX6_faultOfRange_X6_isWithin : GoodIn wsX6_faultOfRange (va_wsS RX6 269 yX6_isWithin wsX6_isWithin) := goodIn_app (goodIn_of _ (by decide +kernel)) ggX6_faultOfRange_X6_isWithin
theorem dX6_faultOfRange_0 : decode cX6_faultOfRange 0 = .ok (.iload_n 0, 1) := by decide +kernel
theorem dX6_faultOfRange_1 : decode cX6_faultOfRange 1 = .ok (.iload_n 1, 1) := by decide +kernel
theorem dX6_faultOfRange_2 : decode cX6_faultOfRange 2 = .ok (.iload_n 2, 1) := by decide +kernel
theorem dX6_faultOfRange_3 : decode cX6_faultOfRange 3 = .ok (.invokestatic 269, 3) := by decide +kernel
theorem dX6_faultOfRange_6 : decode cX6_faultOfRange 6 = .ok (.ifCond .eq 7, 3) := by decide +kernel
theorem dX6_faultOfRange_9 : decode cX6_faultOfRange 9 = .ok (.iconst 0, 1) := by decide +kernel
theorem dX6_faultOfRange_10 : decode cX6_faultOfRange 10 = .ok (.goto 4, 3) := by decide +kernel
theorem dX6_faultOfRange_13 : decode cX6_faultOfRange 13 = .ok (.iconst 2, 1) := by decide +kernel
theorem dX6_faultOfRange_14 : decode cX6_faultOfRange 14 = .ok (.ireturn, 1) := by decide +kernel
set_option maxRecDepth 20000 in
theorem ggX6_faultOfController_X6_isWithin : GoodIn wsX6_faultOfController wsX6_isWithin := goodIn_r _ [4] (by decide +kernel) (by decide +kernel)
set_option maxRecDepth 20000 in
theorem gX6_faultOfController_X6_isWithin : GoodIn wsX6_faultOfController (va_wsS RX6 269 yX6_isWithin wsX6_isWithin) := goodIn_app (goodIn_of _ (by decide +kernel)) ggX6_faultOfController_X6_isWithin
theorem dX6_faultOfController_0 : decode cX6_faultOfController 0 = .ok (.iload_n 0, 1) := by decide +kernel
theorem dX6_faultOfController_1 : decode cX6_faultOfController 1 = .ok (.iconst 0, 1) := by decide +kernel
theorem dX6_faultOfController_2 : decode cX6_faultOfController 2 = .ok (.iconst 1, 1) := by decide +kernel
theorem dX6_faultOfController_3 : decode cX6_faultOfController 3 = .ok (.invokestatic 269, 3) := by decide +kernel
theorem dX6_faultOfController_6 : decode cX6_faultOfController 6 = .ok (.ifCond .eq 7, 3) := by decide +kernel
theorem dX6_faultOfController_9 : decode cX6_faultOfController 9 = .ok (.iconst 0, 1) := by decide +kernel
theorem dX6_faultOfController_10 : decode cX6_faultOfController 10 = .ok (.goto 4, 3) := by decide +kernel
theorem dX6_faultOfController_13 : decode cX6_faultOfController 13 = .ok (.iconst 1, 1) := by decide +kernel
theorem dX6_faultOfController_14 : decode cX6_faultOfController 14 = .ok (.ireturn, 1) := by decide +kernel
set_option maxRecDepth 20000 in
theorem ggX6_faultOfBlock_X6_isWithin : GoodIn wsX6_faultOfBlock wsX6_isWithin := goodIn_r _ [4] (by decide +kernel) (by decide +kernel)
set_option maxRecDepth 20000 in
theorem gX6_faultOfBlock_X6_isWithin : GoodIn wsX6_faultOfBlock (va_wsS RX6 269 yX6_isWithin wsX6_isWithin) := goodIn_app (goodIn_of _ (by decide +kernel)) ggX6_faultOfBlock_X6_isWithin
theorem dX6_faultOfBlock_0 : decode cX6_faultOfBlock 0 = .ok (.iload_n 0, 1) := by decide +kernel
theorem dX6_faultOfBlock_1 : decode cX6_faultOfBlock 1 = .ok (.iconst 0, 1) := by decide +kernel
theorem dX6_faultOfBlock_2 : decode cX6_faultOfBlock 2 = .ok (.bipush 15, 2) := by decide +kernel
theorem dX6_faultOfBlock_4 : decode cX6_faultOfBlock 4 = .ok (.invokestatic 269, 3) := by decide +kernel
theorem dX6_faultOfBlock_7 : decode cX6_faultOfBlock 7 = .ok (.ifCond .eq 7, 3) := by decide +kernel
theorem dX6_faultOfBlock_10 : decode cX6_faultOfBlock 10 = .ok (.iconst 0, 1) := by decide +kernel
theorem dX6_faultOfBlock_11 : decode cX6_faultOfBlock 11 = .ok (.goto 4, 3) := by decide +kernel
theorem dX6_faultOfBlock_14 : decode cX6_faultOfBlock 14 = .ok (.iconst 1, 1) := by decide +kernel
theorem dX6_faultOfBlock_15 : decode cX6_faultOfBlock 15 = .ok (.ireturn, 1) := by decide +kernel
set_option maxRecDepth 20000 in
theorem ggX6_faultOfTag_X6_isWithin : GoodIn wsX6_faultOfTag wsX6_isWithin := goodIn_r _ [4] (by decide +kernel) (by decide +kernel)
set_option maxRecDepth 20000 in
theorem gX6_faultOfTag_X6_isWithin : GoodIn wsX6_faultOfTag (va_wsS RX6 269 yX6_isWithin wsX6_isWithin) := goodIn_app (goodIn_of _ (by decide +kernel)) ggX6_faultOfTag_X6_isWithin
theorem dX6_faultOfTag_0 : decode cX6_faultOfTag 0 = .ok (.iload_n 0, 1) := by decide +kernel
theorem dX6_faultOfTag_1 : decode cX6_faultOfTag 1 = .ok (.iconst 0, 1) := by decide +kernel
theorem dX6_faultOfTag_2 : decode cX6_faultOfTag 2 = .ok (.iconst 3, 1) := by decide +kernel
theorem dX6_faultOfTag_3 : decode cX6_faultOfTag 3 = .ok (.invokestatic 269, 3) := by decide +kernel
theorem dX6_faultOfTag_6 : decode cX6_faultOfTag 6 = .ok (.ifCond .eq 17, 3) := by decide +kernel
theorem dX6_faultOfTag_9 : decode cX6_faultOfTag 9 = .ok (.iload_n 1, 1) := by decide +kernel
theorem dX6_faultOfTag_10 : decode cX6_faultOfTag 10 = .ok (.iconst 0, 1) := by decide +kernel
theorem dX6_faultOfTag_11 : decode cX6_faultOfTag 11 = .ok (.bipush 31, 2) := by decide +kernel
theorem dX6_faultOfTag_13 : decode cX6_faultOfTag 13 = .ok (.invokestatic 269, 3) := by decide +kernel
theorem dX6_faultOfTag_16 : decode cX6_faultOfTag 16 = .ok (.ifCond .eq 7, 3) := by decide +kernel
theorem dX6_faultOfTag_19 : decode cX6_faultOfTag 19 = .ok (.iconst 0, 1) := by decide +kernel
theorem dX6_faultOfTag_20 : decode cX6_faultOfTag 20 = .ok (.goto 4, 3) := by decide +kernel
theorem dX6_faultOfTag_23 : decode cX6_faultOfTag 23 = .ok (.iconst 2, 1) := by decide +kernel
theorem dX6_faultOfTag_24 : decode cX6_faultOfTag 24 = .ok (.ireturn, 1) := by decide +kernel
theorem dX6_at_0 : decode cX6_at 0 = .ok (.iload_n 1, 1) := by decide +kernel
theorem dX6_at_1 : decode cX6_at 1 = .ok (.ifCond .lt 15, 3) := by decide +kernel
theorem dX6_at_4 : decode cX6_at 4 = .ok (.iload_n 1, 1) := by decide +kernel
theorem dX6_at_5 : decode cX6_at 5 = .ok (.aload_n 0, 1) := by decide +kernel
theorem dX6_at_6 : decode cX6_at 6 = .ok (.arraylength, 1) := by decide +kernel
theorem dX6_at_7 : decode cX6_at 7 = .ok (.if_icmp .ge 9, 3) := by decide +kernel
theorem dX6_at_10 : decode cX6_at 10 = .ok (.aload_n 0, 1) := by decide +kernel
theorem dX6_at_11 : decode cX6_at 11 = .ok (.iload_n 1, 1) := by decide +kernel
theorem dX6_at_12 : decode cX6_at 12 = .ok (.iaload, 1) := by decide +kernel
theorem dX6_at_13 : decode cX6_at 13 = .ok (.goto 4, 3) := by decide +kernel
theorem dX6_at_16 : decode cX6_at 16 = .ok (.iconst 0, 1) := by decide +kernel
theorem dX6_at_17 : decode cX6_at 17 = .ok (.ireturn, 1) := by decide +kernel
theorem dX6_put_0 : decode cX6_put 0 = .ok (.iload_n 1, 1) := by decide +kernel
theorem dX6_put_1 : decode cX6_put 1 = .ok (.ifCond .lt 13, 3) := by decide +kernel
theorem dX6_put_4 : decode cX6_put 4 = .ok (.iload_n 1, 1) := by decide +kernel
theorem dX6_put_5 : decode cX6_put 5 = .ok (.aload_n 0, 1) := by decide +kernel
theorem dX6_put_6 : decode cX6_put 6 = .ok (.arraylength, 1) := by decide +kernel
theorem dX6_put_7 : decode cX6_put 7 = .ok (.if_icmp .ge 7, 3) := by decide +kernel
theorem dX6_put_10 : decode cX6_put 10 = .ok (.aload_n 0, 1) := by decide +kernel
theorem dX6_put_11 : decode cX6_put 11 = .ok (.iload_n 1, 1) := by decide +kernel
theorem dX6_put_12 : decode cX6_put 12 = .ok (.iload_n 2, 1) := by decide +kernel
theorem dX6_put_13 : decode cX6_put 13 = .ok (.iastore, 1) := by decide +kernel
theorem dX6_put_14 : decode cX6_put 14 = .ok (.return_, 1) := by decide +kernel
