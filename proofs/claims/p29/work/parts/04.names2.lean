theorem dX1_init_0 : decode cX1_init 0 = .ok (.aload_n 0, 1) := by decide +kernel
theorem dX1_init_1 : decode cX1_init 1 = .ok (.invokespecial 3, 3) := by decide +kernel
theorem dX1_init_4 : decode cX1_init 4 = .ok (.aload_n 0, 1) := by decide +kernel
theorem dX1_init_5 : decode cX1_init 5 = .ok (.sipush 150, 3) := by decide +kernel
theorem dX1_init_8 : decode cX1_init 8 = .ok (.newarray .int, 2) := by decide +kernel
theorem dX1_init_10 : decode cX1_init 10 = .ok (.putfield 9, 3) := by decide +kernel
theorem dX1_init_13 : decode cX1_init 13 = .ok (.aload_n 0, 1) := by decide +kernel
theorem dX1_init_14 : decode cX1_init 14 = .ok (.iconst 4, 1) := by decide +kernel
theorem dX1_init_15 : decode cX1_init 15 = .ok (.newarray .int, 2) := by decide +kernel
theorem dX1_init_17 : decode cX1_init 17 = .ok (.putfield 15, 3) := by decide +kernel
theorem dX1_init_20 : decode cX1_init 20 = .ok (.aload_n 0, 1) := by decide +kernel
theorem dX1_init_21 : decode cX1_init 21 = .ok (.iconst 0, 1) := by decide +kernel
theorem dX1_init_22 : decode cX1_init 22 = .ok (.putfield 18, 3) := by decide +kernel
theorem dX1_init_25 : decode cX1_init 25 = .ok (.aload_n 0, 1) := by decide +kernel
theorem dX1_init_26 : decode cX1_init 26 = .ok (.iconst 0, 1) := by decide +kernel
theorem dX1_init_27 : decode cX1_init 27 = .ok (.putfield 22, 3) := by decide +kernel
theorem dX1_init_30 : decode cX1_init 30 = .ok (.aload_n 0, 1) := by decide +kernel
theorem dX1_init_31 : decode cX1_init 31 = .ok (.aconst_null, 1) := by decide +kernel
theorem dX1_init_32 : decode cX1_init 32 = .ok (.putfield 25, 3) := by decide +kernel
theorem dX1_init_35 : decode cX1_init 35 = .ok (.return_, 1) := by decide +kernel
theorem dX1_isFull_0 : decode cX1_isFull 0 = .ok (.aload_n 0, 1) := by decide +kernel
theorem dX1_isFull_1 : decode cX1_isFull 1 = .ok (.getfield 18, 3) := by decide +kernel
theorem dX1_isFull_4 : decode cX1_isFull 4 = .ok (.sipush 150, 3) := by decide +kernel
theorem dX1_isFull_7 : decode cX1_isFull 7 = .ok (.if_icmp .lt 7, 3) := by decide +kernel
theorem dX1_isFull_10 : decode cX1_isFull 10 = .ok (.iconst 1, 1) := by decide +kernel
theorem dX1_isFull_11 : decode cX1_isFull 11 = .ok (.goto 4, 3) := by decide +kernel
theorem dX1_isFull_14 : decode cX1_isFull 14 = .ok (.iconst 0, 1) := by decide +kernel
theorem dX1_isFull_15 : decode cX1_isFull 15 = .ok (.ireturn, 1) := by decide +kernel
set_option maxRecDepth 20000 in
theorem ggX1_append_X6_put : GoodIn wsX1_append wsX6_put := goodIn_r _ [5] (by decide +kernel) (by decide +kernel)
set_option maxRecDepth 20000 in
theorem gX1_append_X6_put_n29 : GoodIn wsX1_append (wsX6_put) := ggX1_append_X6_put
theorem dX1_append_0 : decode cX1_append 0 = .ok (.aload_n 0, 1) := by decide +kernel
theorem dX1_append_1 : decode cX1_append 1 = .ok (.getfield 9, 3) := by decide +kernel
theorem dX1_append_4 : decode cX1_append 4 = .ok (.aload_n 0, 1) := by decide +kernel
theorem dX1_append_5 : decode cX1_append 5 = .ok (.getfield 18, 3) := by decide +kernel
theorem dX1_append_8 : decode cX1_append 8 = .ok (.iload_n 1, 1) := by decide +kernel
theorem dX1_append_9 : decode cX1_append 9 = .ok (.invokestatic 29, 3) := by decide +kernel
theorem dX1_append_12 : decode cX1_append 12 = .ok (.aload_n 0, 1) := by decide +kernel
theorem dX1_append_13 : decode cX1_append 13 = .ok (.dup, 1) := by decide +kernel
theorem dX1_append_14 : decode cX1_append 14 = .ok (.getfield 18, 3) := by decide +kernel
theorem dX1_append_17 : decode cX1_append 17 = .ok (.iconst 1, 1) := by decide +kernel
theorem dX1_append_18 : decode cX1_append 18 = .ok (.iadd, 1) := by decide +kernel
theorem dX1_append_19 : decode cX1_append 19 = .ok (.putfield 18, 3) := by decide +kernel
theorem dX1_append_22 : decode cX1_append 22 = .ok (.aload_n 0, 1) := by decide +kernel
theorem dX1_append_23 : decode cX1_append 23 = .ok (.getfield 18, 3) := by decide +kernel
theorem dX1_append_26 : decode cX1_append 26 = .ok (.ireturn, 1) := by decide +kernel
theorem dX2_init_0 : decode cX2_init 0 = .ok (.aload_n 0, 1) := by decide +kernel
theorem dX2_init_1 : decode cX2_init 1 = .ok (.invokespecial 1, 3) := by decide +kernel
theorem dX2_init_4 : decode cX2_init 4 = .ok (.aload_n 0, 1) := by decide +kernel
theorem dX2_init_5 : decode cX2_init 5 = .ok (.iconst 1, 1) := by decide +kernel
theorem dX2_init_6 : decode cX2_init 6 = .ok (.putfield 7, 3) := by decide +kernel
theorem dX2_init_9 : decode cX2_init 9 = .ok (.aload_n 0, 1) := by decide +kernel
theorem dX2_init_10 : decode cX2_init 10 = .ok (.iconst 0, 1) := by decide +kernel
theorem dX2_init_11 : decode cX2_init 11 = .ok (.putfield 13, 3) := by decide +kernel
theorem dX2_init_14 : decode cX2_init 14 = .ok (.aload_n 0, 1) := by decide +kernel
theorem dX2_init_15 : decode cX2_init 15 = .ok (.iconst 0, 1) := by decide +kernel
theorem dX2_init_16 : decode cX2_init 16 = .ok (.putfield 17, 3) := by decide +kernel
theorem dX2_init_19 : decode cX2_init 19 = .ok (.aload_n 0, 1) := by decide +kernel
theorem dX2_init_20 : decode cX2_init 20 = .ok (.lconst 0, 1) := by decide +kernel
theorem dX2_init_21 : decode cX2_init 21 = .ok (.putfield 20, 3) := by decide +kernel
theorem dX2_init_24 : decode cX2_init 24 = .ok (.aload_n 0, 1) := by decide +kernel
theorem dX2_init_25 : decode cX2_init 25 = .ok (.iconst 0, 1) := by decide +kernel
theorem dX2_init_26 : decode cX2_init 26 = .ok (.putfield 24, 3) := by decide +kernel
theorem dX2_init_29 : decode cX2_init 29 = .ok (.aload_n 0, 1) := by decide +kernel
theorem dX2_init_30 : decode cX2_init 30 = .ok (.iconst 0, 1) := by decide +kernel
theorem dX2_init_31 : decode cX2_init 31 = .ok (.putfield 27, 3) := by decide +kernel
theorem dX2_init_34 : decode cX2_init 34 = .ok (.aload_n 0, 1) := by decide +kernel
theorem dX2_init_35 : decode cX2_init 35 = .ok (.iconst 0, 1) := by decide +kernel
theorem dX2_init_36 : decode cX2_init 36 = .ok (.putfield 30, 3) := by decide +kernel
theorem dX2_init_39 : decode cX2_init 39 = .ok (.aload_n 0, 1) := by decide +kernel
theorem dX2_init_40 : decode cX2_init 40 = .ok (.iconst 0, 1) := by decide +kernel
theorem dX2_init_41 : decode cX2_init 41 = .ok (.putfield 33, 3) := by decide +kernel
theorem dX2_init_44 : decode cX2_init 44 = .ok (.return_, 1) := by decide +kernel
theorem dX2_become_0 : decode cX2_become 0 = .ok (.aload_n 0, 1) := by decide +kernel
theorem dX2_become_1 : decode cX2_become 1 = .ok (.aload_n 1, 1) := by decide +kernel
theorem dX2_become_2 : decode cX2_become 2 = .ok (.getfield 7, 3) := by decide +kernel
theorem dX2_become_5 : decode cX2_become 5 = .ok (.putfield 7, 3) := by decide +kernel
theorem dX2_become_8 : decode cX2_become 8 = .ok (.aload_n 0, 1) := by decide +kernel
theorem dX2_become_9 : decode cX2_become 9 = .ok (.aload_n 1, 1) := by decide +kernel
theorem dX2_become_10 : decode cX2_become 10 = .ok (.getfield 13, 3) := by decide +kernel
theorem dX2_become_13 : decode cX2_become 13 = .ok (.putfield 13, 3) := by decide +kernel
theorem dX2_become_16 : decode cX2_become 16 = .ok (.aload_n 0, 1) := by decide +kernel
theorem dX2_become_17 : decode cX2_become 17 = .ok (.aload_n 1, 1) := by decide +kernel
theorem dX2_become_18 : decode cX2_become 18 = .ok (.getfield 17, 3) := by decide +kernel
theorem dX2_become_21 : decode cX2_become 21 = .ok (.putfield 17, 3) := by decide +kernel
theorem dX2_become_24 : decode cX2_become 24 = .ok (.aload_n 0, 1) := by decide +kernel
theorem dX2_become_25 : decode cX2_become 25 = .ok (.aload_n 1, 1) := by decide +kernel
theorem dX2_become_26 : decode cX2_become 26 = .ok (.getfield 20, 3) := by decide +kernel
theorem dX2_become_29 : decode cX2_become 29 = .ok (.putfield 20, 3) := by decide +kernel
theorem dX2_become_32 : decode cX2_become 32 = .ok (.aload_n 0, 1) := by decide +kernel
theorem dX2_become_33 : decode cX2_become 33 = .ok (.aload_n 1, 1) := by decide +kernel
theorem dX2_become_34 : decode cX2_become 34 = .ok (.getfield 24, 3) := by decide +kernel
theorem dX2_become_37 : decode cX2_become 37 = .ok (.putfield 24, 3) := by decide +kernel
theorem dX2_become_40 : decode cX2_become 40 = .ok (.aload_n 0, 1) := by decide +kernel
theorem dX2_become_41 : decode cX2_become 41 = .ok (.aload_n 1, 1) := by decide +kernel
theorem dX2_become_42 : decode cX2_become 42 = .ok (.getfield 27, 3) := by decide +kernel
theorem dX2_become_45 : decode cX2_become 45 = .ok (.putfield 27, 3) := by decide +kernel
theorem dX2_become_48 : decode cX2_become 48 = .ok (.aload_n 0, 1) := by decide +kernel
theorem dX2_become_49 : decode cX2_become 49 = .ok (.aload_n 1, 1) := by decide +kernel
theorem dX2_become_50 : decode cX2_become 50 = .ok (.getfield 30, 3) := by decide +kernel
theorem dX2_become_53 : decode cX2_become 53 = .ok (.putfield 30, 3) := by decide +kernel
theorem dX2_become_56 : decode cX2_become 56 = .ok (.aload_n 0, 1) := by decide +kernel
theorem dX2_become_57 : decode cX2_become 57 = .ok (.aload_n 1, 1) := by decide +kernel
theorem dX2_become_58 : decode cX2_become 58 = .ok (.getfield 33, 3) := by decide +kernel
theorem dX2_become_61 : decode cX2_become 61 = .ok (.putfield 33, 3) := by decide +kernel
theorem dX2_become_64 : decode cX2_become 64 = .ok (.return_, 1) := by decide +kernel
theorem dX2_receive_0 : decode cX2_receive 0 = .ok (.aload_n 0, 1) := by decide +kernel
theorem dX2_receive_1 : decode cX2_receive 1 = .ok (.dup, 1) := by decide +kernel
theorem dX2_receive_2 : decode cX2_receive 2 = .ok (.getfield 20, 3) := by decide +kernel
theorem dX2_receive_5 : decode cX2_receive 5 = .ok (.lconst 1, 1) := by decide +kernel
theorem dX2_receive_6 : decode cX2_receive 6 = .ok (.iload_n 1, 1) := by decide +kernel
theorem dX2_receive_7 : decode cX2_receive 7 = .ok (.lshl, 1) := by decide +kernel
theorem dX2_receive_8 : decode cX2_receive 8 = .ok (.lor, 1) := by decide +kernel
theorem dX2_receive_9 : decode cX2_receive 9 = .ok (.putfield 20, 3) := by decide +kernel
theorem dX2_receive_12 : decode cX2_receive 12 = .ok (.return_, 1) := by decide +kernel
theorem dX2_drop_0 : decode cX2_drop 0 = .ok (.aload_n 0, 1) := by decide +kernel
theorem dX2_drop_1 : decode cX2_drop 1 = .ok (.dup, 1) := by decide +kernel
theorem dX2_drop_2 : decode cX2_drop 2 = .ok (.getfield 20, 3) := by decide +kernel
theorem dX2_drop_5 : decode cX2_drop 5 = .ok (.lconst 1, 1) := by decide +kernel
theorem dX2_drop_6 : decode cX2_drop 6 = .ok (.iload_n 1, 1) := by decide +kernel
theorem dX2_drop_7 : decode cX2_drop 7 = .ok (.lshl, 1) := by decide +kernel
theorem dX2_drop_8 : decode cX2_drop 8 = .ok (.ldc2_w 36, 3) := by decide +kernel
theorem dX2_drop_11 : decode cX2_drop 11 = .ok (.lxor, 1) := by decide +kernel
theorem dX2_drop_12 : decode cX2_drop 12 = .ok (.land, 1) := by decide +kernel
theorem dX2_drop_13 : decode cX2_drop 13 = .ok (.putfield 20, 3) := by decide +kernel
theorem dX2_drop_16 : decode cX2_drop 16 = .ok (.return_, 1) := by decide +kernel
theorem dX2_holds_0 : decode cX2_holds 0 = .ok (.aload_n 0, 1) := by decide +kernel
theorem dX2_holds_1 : decode cX2_holds 1 = .ok (.getfield 20, 3) := by decide +kernel
theorem dX2_holds_4 : decode cX2_holds 4 = .ok (.iload_n 1, 1) := by decide +kernel
theorem dX2_holds_5 : decode cX2_holds 5 = .ok (.lshr, 1) := by decide +kernel
theorem dX2_holds_6 : decode cX2_holds 6 = .ok (.lconst 1, 1) := by decide +kernel
theorem dX2_holds_7 : decode cX2_holds 7 = .ok (.land, 1) := by decide +kernel
theorem dX2_holds_8 : decode cX2_holds 8 = .ok (.lconst 0, 1) := by decide +kernel
theorem dX2_holds_9 : decode cX2_holds 9 = .ok (.lcmp, 1) := by decide +kernel
theorem dX2_holds_10 : decode cX2_holds 10 = .ok (.ifCond .eq 7, 3) := by decide +kernel
theorem dX2_holds_13 : decode cX2_holds 13 = .ok (.iconst 1, 1) := by decide +kernel
theorem dX2_holds_14 : decode cX2_holds 14 = .ok (.goto 4, 3) := by decide +kernel
theorem dX2_holds_17 : decode cX2_holds 17 = .ok (.iconst 0, 1) := by decide +kernel
theorem dX2_holds_18 : decode cX2_holds 18 = .ok (.ireturn, 1) := by decide +kernel
set_option maxRecDepth 20000 in
theorem ggX2_mailSize_J13_bitCount_95d88 : GoodIn wsX2_mailSize wsJ13_bitCount_95d88 := goodIn_r _ [5, 6, 7, 8] (by decide +kernel) (by decide +kernel)
set_option maxRecDepth 20000 in
theorem gX2_mailSize_J13_bitCount_95d88 : GoodIn wsX2_mailSize (va_wsS RX2 38 yJ13_bitCount_95d88 wsJ13_bitCount_95d88) := goodIn_app (goodIn_of _ (by decide +kernel)) ggX2_mailSize_J13_bitCount_95d88
theorem dX2_mailSize_0 : decode cX2_mailSize 0 = .ok (.aload_n 0, 1) := by decide +kernel
theorem dX2_mailSize_1 : decode cX2_mailSize 1 = .ok (.getfield 20, 3) := by decide +kernel
theorem dX2_mailSize_4 : decode cX2_mailSize 4 = .ok (.invokestatic 38, 3) := by decide +kernel
theorem dX2_mailSize_7 : decode cX2_mailSize 7 = .ok (.ireturn, 1) := by decide +kernel
theorem dX2_heedAlarm_0 : decode cX2_heedAlarm 0 = .ok (.aload_n 0, 1) := by decide +kernel
theorem dX2_heedAlarm_1 : decode cX2_heedAlarm 1 = .ok (.getfield 17, 3) := by decide +kernel
theorem dX2_heedAlarm_4 : decode cX2_heedAlarm 4 = .ok (.ifCond .eq 17, 3) := by decide +kernel
theorem dX2_heedAlarm_7 : decode cX2_heedAlarm 7 = .ok (.iload_n 1, 1) := by decide +kernel
theorem dX2_heedAlarm_8 : decode cX2_heedAlarm 8 = .ok (.aload_n 0, 1) := by decide +kernel
theorem dX2_heedAlarm_9 : decode cX2_heedAlarm 9 = .ok (.getfield 17, 3) := by decide +kernel
theorem dX2_heedAlarm_12 : decode cX2_heedAlarm 12 = .ok (.irem, 1) := by decide +kernel
theorem dX2_heedAlarm_13 : decode cX2_heedAlarm 13 = .ok (.ifCond .ne 8, 3) := by decide +kernel
theorem dX2_heedAlarm_16 : decode cX2_heedAlarm 16 = .ok (.aload_n 0, 1) := by decide +kernel
theorem dX2_heedAlarm_17 : decode cX2_heedAlarm 17 = .ok (.iconst 1, 1) := by decide +kernel
theorem dX2_heedAlarm_18 : decode cX2_heedAlarm 18 = .ok (.putfield 7, 3) := by decide +kernel
theorem dX2_heedAlarm_21 : decode cX2_heedAlarm 21 = .ok (.return_, 1) := by decide +kernel
theorem dX2_fallAsleepTorn_0 : decode cX2_fallAsleepTorn 0 = .ok (.aload_n 0, 1) := by decide +kernel
theorem dX2_fallAsleepTorn_1 : decode cX2_fallAsleepTorn 1 = .ok (.iconst 0, 1) := by decide +kernel
theorem dX2_fallAsleepTorn_2 : decode cX2_fallAsleepTorn 2 = .ok (.putfield 7, 3) := by decide +kernel
theorem dX2_fallAsleepTorn_5 : decode cX2_fallAsleepTorn 5 = .ok (.aload_n 0, 1) := by decide +kernel
theorem dX2_fallAsleepTorn_6 : decode cX2_fallAsleepTorn 6 = .ok (.dup, 1) := by decide +kernel
theorem dX2_fallAsleepTorn_7 : decode cX2_fallAsleepTorn 7 = .ok (.getfield 33, 3) := by decide +kernel
theorem dX2_fallAsleepTorn_10 : decode cX2_fallAsleepTorn 10 = .ok (.iconst 1, 1) := by decide +kernel
theorem dX2_fallAsleepTorn_11 : decode cX2_fallAsleepTorn 11 = .ok (.iadd, 1) := by decide +kernel
theorem dX2_fallAsleepTorn_12 : decode cX2_fallAsleepTorn 12 = .ok (.putfield 33, 3) := by decide +kernel
theorem dX2_fallAsleepTorn_15 : decode cX2_fallAsleepTorn 15 = .ok (.return_, 1) := by decide +kernel
set_option maxRecDepth 20000 in
theorem ggX2_ownFact_X2_mailSize : GoodIn wsX2_ownFact wsX2_mailSize := goodIn_r _ [12, 13, 14, 15, 16, 17, 18, 19, 20, 21, 22, 23, 24, 25, 26, 27, 28] (by decide +kernel) (by decide +kernel)
set_option maxRecDepth 20000 in
theorem gX2_ownFact_X2_mailSize : GoodIn wsX2_ownFact (wsV RX2 44 RX2 yX2_mailSize wsX2_mailSize) := goodIn_app (goodIn_of _ (by decide +kernel)) ggX2_ownFact_X2_mailSize
theorem dX2_ownFact_0 : decode cX2_ownFact 0 = .ok (.iload_n 1, 1) := by decide +kernel
theorem dX2_ownFact_1 : decode cX2_ownFact 1 = .ok (.tableswitch 90 0 7 #[47, 60, 65, 70, 90, 75, 80, 85], 47) := by decide +kernel
theorem dX2_ownFact_48 : decode cX2_ownFact 48 = .ok (.aload_n 0, 1) := by decide +kernel
theorem dX2_ownFact_49 : decode cX2_ownFact 49 = .ok (.getfield 7, 3) := by decide +kernel
theorem dX2_ownFact_52 : decode cX2_ownFact 52 = .ok (.ifCond .eq 7, 3) := by decide +kernel
theorem dX2_ownFact_55 : decode cX2_ownFact 55 = .ok (.iconst 1, 1) := by decide +kernel
theorem dX2_ownFact_56 : decode cX2_ownFact 56 = .ok (.goto 4, 3) := by decide +kernel
theorem dX2_ownFact_59 : decode cX2_ownFact 59 = .ok (.iconst 0, 1) := by decide +kernel
theorem dX2_ownFact_60 : decode cX2_ownFact 60 = .ok (.ireturn, 1) := by decide +kernel
theorem dX2_ownFact_61 : decode cX2_ownFact 61 = .ok (.aload_n 0, 1) := by decide +kernel
theorem dX2_ownFact_62 : decode cX2_ownFact 62 = .ok (.getfield 13, 3) := by decide +kernel
theorem dX2_ownFact_65 : decode cX2_ownFact 65 = .ok (.ireturn, 1) := by decide +kernel
theorem dX2_ownFact_66 : decode cX2_ownFact 66 = .ok (.aload_n 0, 1) := by decide +kernel
theorem dX2_ownFact_67 : decode cX2_ownFact 67 = .ok (.getfield 17, 3) := by decide +kernel
theorem dX2_ownFact_70 : decode cX2_ownFact 70 = .ok (.ireturn, 1) := by decide +kernel
theorem dX2_ownFact_71 : decode cX2_ownFact 71 = .ok (.aload_n 0, 1) := by decide +kernel
theorem dX2_ownFact_72 : decode cX2_ownFact 72 = .ok (.invokevirtual 44, 3) := by decide +kernel
theorem dX2_ownFact_75 : decode cX2_ownFact 75 = .ok (.ireturn, 1) := by decide +kernel
theorem dX2_ownFact_76 : decode cX2_ownFact 76 = .ok (.aload_n 0, 1) := by decide +kernel
theorem dX2_ownFact_77 : decode cX2_ownFact 77 = .ok (.getfield 24, 3) := by decide +kernel
theorem dX2_ownFact_80 : decode cX2_ownFact 80 = .ok (.ireturn, 1) := by decide +kernel
theorem dX2_ownFact_81 : decode cX2_ownFact 81 = .ok (.aload_n 0, 1) := by decide +kernel
theorem dX2_ownFact_82 : decode cX2_ownFact 82 = .ok (.getfield 27, 3) := by decide +kernel
theorem dX2_ownFact_85 : decode cX2_ownFact 85 = .ok (.ireturn, 1) := by decide +kernel
theorem dX2_ownFact_86 : decode cX2_ownFact 86 = .ok (.aload_n 0, 1) := by decide +kernel
theorem dX2_ownFact_87 : decode cX2_ownFact 87 = .ok (.getfield 30, 3) := by decide +kernel
theorem dX2_ownFact_90 : decode cX2_ownFact 90 = .ok (.ireturn, 1) := by decide +kernel
theorem dX2_ownFact_91 : decode cX2_ownFact 91 = .ok (.aload_n 0, 1) := by decide +kernel
theorem dX2_ownFact_92 : decode cX2_ownFact 92 = .ok (.getfield 33, 3) := by decide +kernel
theorem dX2_ownFact_95 : decode cX2_ownFact 95 = .ok (.ireturn, 1) := by decide +kernel
set_option maxRecDepth 20000 in
theorem ggX3_init_X2_init : GoodIn wsX3_init wsX2_init := goodIn_r _ [17, 18, 2, 3, 19, 20, 21, 22, 23, 24, 25, 26, 35, 36, 37, 38, 39, 40, 41, 42] (by decide +kernel) (by decide +kernel)
set_option maxRecDepth 20000 in
theorem gX3_init_X2_init_n20 : GoodIn wsX3_init (wsX2_init) := ggX3_init_X2_init
theorem dX3_init_0 : decode cX3_init 0 = .ok (.aload_n 0, 1) := by decide +kernel
theorem dX3_init_1 : decode cX3_init 1 = .ok (.invokespecial 3, 3) := by decide +kernel
theorem dX3_init_4 : decode cX3_init 4 = .ok (.aload_n 0, 1) := by decide +kernel
theorem dX3_init_5 : decode cX3_init 5 = .ok (.bipush 16, 2) := by decide +kernel
theorem dX3_init_7 : decode cX3_init 7 = .ok (.newarray .int, 2) := by decide +kernel
theorem dX3_init_9 : decode cX3_init 9 = .ok (.putfield 9, 3) := by decide +kernel
theorem dX3_init_12 : decode cX3_init 12 = .ok (.aload_n 0, 1) := by decide +kernel
theorem dX3_init_13 : decode cX3_init 13 = .ok (.sipush 480, 3) := by decide +kernel
theorem dX3_init_16 : decode cX3_init 16 = .ok (.newarray .int, 2) := by decide +kernel
theorem dX3_init_18 : decode cX3_init 18 = .ok (.putfield 15, 3) := by decide +kernel
theorem dX3_init_21 : decode cX3_init 21 = .ok (.aload_n 0, 1) := by decide +kernel
theorem dX3_init_22 : decode cX3_init 22 = .ok (.new 18, 3) := by decide +kernel
theorem dX3_init_25 : decode cX3_init 25 = .ok (.dup, 1) := by decide +kernel
theorem dX3_init_26 : decode cX3_init 26 = .ok (.invokespecial 20, 3) := by decide +kernel
theorem dX3_init_29 : decode cX3_init 29 = .ok (.putfield 21, 3) := by decide +kernel
theorem dX3_init_32 : decode cX3_init 32 = .ok (.aload_n 0, 1) := by decide +kernel
theorem dX3_init_33 : decode cX3_init 33 = .ok (.new 18, 3) := by decide +kernel
theorem dX3_init_36 : decode cX3_init 36 = .ok (.dup, 1) := by decide +kernel
theorem dX3_init_37 : decode cX3_init 37 = .ok (.invokespecial 20, 3) := by decide +kernel
theorem dX3_init_40 : decode cX3_init 40 = .ok (.putfield 25, 3) := by decide +kernel
theorem dX3_init_43 : decode cX3_init 43 = .ok (.aload_n 0, 1) := by decide +kernel
theorem dX3_init_44 : decode cX3_init 44 = .ok (.iconst 0, 1) := by decide +kernel
theorem dX3_init_45 : decode cX3_init 45 = .ok (.putfield 28, 3) := by decide +kernel
theorem dX3_init_48 : decode cX3_init 48 = .ok (.aload_n 0, 1) := by decide +kernel
theorem dX3_init_49 : decode cX3_init 49 = .ok (.iconst 0, 1) := by decide +kernel
theorem dX3_init_50 : decode cX3_init 50 = .ok (.putfield 32, 3) := by decide +kernel
theorem dX3_init_53 : decode cX3_init 53 = .ok (.aload_n 0, 1) := by decide +kernel
theorem dX3_init_54 : decode cX3_init 54 = .ok (.iconst (-1), 1) := by decide +kernel
theorem dX3_init_55 : decode cX3_init 55 = .ok (.putfield 35, 3) := by decide +kernel
theorem dX3_init_58 : decode cX3_init 58 = .ok (.aload_n 0, 1) := by decide +kernel
theorem dX3_init_59 : decode cX3_init 59 = .ok (.iconst 0, 1) := by decide +kernel
theorem dX3_init_60 : decode cX3_init 60 = .ok (.putfield 38, 3) := by decide +kernel
theorem dX3_init_63 : decode cX3_init 63 = .ok (.return_, 1) := by decide +kernel
set_option maxRecDepth 20000 in
theorem ggX3_become_X2_become : GoodIn wsX3_become wsX2_become := goodIn_r _ [17, 18, 19, 20, 21, 22, 23, 24, 25, 34, 35, 36, 37, 38, 39, 40, 41] (by decide +kernel) (by decide +kernel)
set_option maxRecDepth 20000 in
theorem gX3_become_X2_become : GoodIn wsX3_become (wsV RX3 47 RX2 yX2_become wsX2_become) := goodIn_app (goodIn_of _ (by decide +kernel)) ggX3_become_X2_become
theorem dX3_become_0 : decode cX3_become 0 = .ok (.aload_n 1, 1) := by decide +kernel
theorem dX3_become_1 : decode cX3_become 1 = .ok (.getfield 9, 3) := by decide +kernel
theorem dX3_become_4 : decode cX3_become 4 = .ok (.iconst 0, 1) := by decide +kernel
theorem dX3_become_5 : decode cX3_become 5 = .ok (.aload_n 0, 1) := by decide +kernel
theorem dX3_become_6 : decode cX3_become 6 = .ok (.getfield 9, 3) := by decide +kernel
theorem dX3_become_9 : decode cX3_become 9 = .ok (.iconst 0, 1) := by decide +kernel
theorem dX3_become_10 : decode cX3_become 10 = .ok (.bipush 16, 2) := by decide +kernel
theorem dX3_become_12 : decode cX3_become 12 = .ok (.invokestatic 41, 3) := by decide +kernel
theorem dX3_become_15 : decode cX3_become 15 = .ok (.aload_n 1, 1) := by decide +kernel
theorem dX3_become_16 : decode cX3_become 16 = .ok (.getfield 15, 3) := by decide +kernel
theorem dX3_become_19 : decode cX3_become 19 = .ok (.iconst 0, 1) := by decide +kernel
theorem dX3_become_20 : decode cX3_become 20 = .ok (.aload_n 0, 1) := by decide +kernel
theorem dX3_become_21 : decode cX3_become 21 = .ok (.getfield 15, 3) := by decide +kernel
theorem dX3_become_24 : decode cX3_become 24 = .ok (.iconst 0, 1) := by decide +kernel
theorem dX3_become_25 : decode cX3_become 25 = .ok (.sipush 480, 3) := by decide +kernel
theorem dX3_become_28 : decode cX3_become 28 = .ok (.invokestatic 41, 3) := by decide +kernel
theorem dX3_become_31 : decode cX3_become 31 = .ok (.aload_n 0, 1) := by decide +kernel
theorem dX3_become_32 : decode cX3_become 32 = .ok (.getfield 21, 3) := by decide +kernel
theorem dX3_become_35 : decode cX3_become 35 = .ok (.aload_n 1, 1) := by decide +kernel
theorem dX3_become_36 : decode cX3_become 36 = .ok (.getfield 21, 3) := by decide +kernel
theorem dX3_become_39 : decode cX3_become 39 = .ok (.invokevirtual 47, 3) := by decide +kernel
theorem dX3_become_42 : decode cX3_become 42 = .ok (.aload_n 0, 1) := by decide +kernel
theorem dX3_become_43 : decode cX3_become 43 = .ok (.getfield 25, 3) := by decide +kernel
theorem dX3_become_46 : decode cX3_become 46 = .ok (.aload_n 1, 1) := by decide +kernel
theorem dX3_become_47 : decode cX3_become 47 = .ok (.getfield 25, 3) := by decide +kernel
theorem dX3_become_50 : decode cX3_become 50 = .ok (.invokevirtual 47, 3) := by decide +kernel
theorem dX3_become_53 : decode cX3_become 53 = .ok (.aload_n 0, 1) := by decide +kernel
theorem dX3_become_54 : decode cX3_become 54 = .ok (.aload_n 1, 1) := by decide +kernel
theorem dX3_become_55 : decode cX3_become 55 = .ok (.getfield 28, 3) := by decide +kernel
theorem dX3_become_58 : decode cX3_become 58 = .ok (.putfield 28, 3) := by decide +kernel
theorem dX3_become_61 : decode cX3_become 61 = .ok (.aload_n 0, 1) := by decide +kernel
theorem dX3_become_62 : decode cX3_become 62 = .ok (.aload_n 1, 1) := by decide +kernel
theorem dX3_become_63 : decode cX3_become 63 = .ok (.getfield 32, 3) := by decide +kernel
theorem dX3_become_66 : decode cX3_become 66 = .ok (.putfield 32, 3) := by decide +kernel
theorem dX3_become_69 : decode cX3_become 69 = .ok (.aload_n 0, 1) := by decide +kernel
theorem dX3_become_70 : decode cX3_become 70 = .ok (.aload_n 1, 1) := by decide +kernel
theorem dX3_become_71 : decode cX3_become 71 = .ok (.getfield 35, 3) := by decide +kernel
theorem dX3_become_74 : decode cX3_become 74 = .ok (.putfield 35, 3) := by decide +kernel
theorem dX3_become_77 : decode cX3_become 77 = .ok (.aload_n 0, 1) := by decide +kernel
theorem dX3_become_78 : decode cX3_become 78 = .ok (.aload_n 1, 1) := by decide +kernel
theorem dX3_become_79 : decode cX3_become 79 = .ok (.getfield 38, 3) := by decide +kernel
theorem dX3_become_82 : decode cX3_become 82 = .ok (.putfield 38, 3) := by decide +kernel
theorem dX3_become_85 : decode cX3_become 85 = .ok (.return_, 1) := by decide +kernel
theorem dX3_controllerAt_0 : decode cX3_controllerAt 0 = .ok (.iload_n 1, 1) := by decide +kernel
theorem dX3_controllerAt_1 : decode cX3_controllerAt 1 = .ok (.ifCond .ne 10, 3) := by decide +kernel
theorem dX3_controllerAt_4 : decode cX3_controllerAt 4 = .ok (.aload_n 0, 1) := by decide +kernel
theorem dX3_controllerAt_5 : decode cX3_controllerAt 5 = .ok (.getfield 21, 3) := by decide +kernel
theorem dX3_controllerAt_8 : decode cX3_controllerAt 8 = .ok (.goto 7, 3) := by decide +kernel
theorem dX3_controllerAt_11 : decode cX3_controllerAt 11 = .ok (.aload_n 0, 1) := by decide +kernel
theorem dX3_controllerAt_12 : decode cX3_controllerAt 12 = .ok (.getfield 25, 3) := by decide +kernel
theorem dX3_controllerAt_15 : decode cX3_controllerAt 15 = .ok (.areturn, 1) := by decide +kernel
theorem dX3_fact_0 : decode cX3_fact 0 = .ok (.iload_n 1, 1) := by decide +kernel
theorem dX3_fact_1 : decode cX3_fact 1 = .ok (.bipush 12, 2) := by decide +kernel
theorem dX3_fact_3 : decode cX3_fact 3 = .ok (.imul, 1) := by decide +kernel
theorem dX3_fact_4 : decode cX3_fact 4 = .ok (.iload_n 2, 1) := by decide +kernel
theorem dX3_fact_5 : decode cX3_fact 5 = .ok (.iadd, 1) := by decide +kernel
theorem dX3_fact_6 : decode cX3_fact 6 = .ok (.istore_n 3, 1) := by decide +kernel
theorem dX3_fact_7 : decode cX3_fact 7 = .ok (.iload_n 3, 1) := by decide +kernel
theorem dX3_fact_8 : decode cX3_fact 8 = .ok (.ifCond .lt 21, 3) := by decide +kernel
theorem dX3_fact_11 : decode cX3_fact 11 = .ok (.iload_n 3, 1) := by decide +kernel
theorem dX3_fact_12 : decode cX3_fact 12 = .ok (.aload_n 0, 1) := by decide +kernel
theorem dX3_fact_13 : decode cX3_fact 13 = .ok (.getfield 15, 3) := by decide +kernel
theorem dX3_fact_16 : decode cX3_fact 16 = .ok (.arraylength, 1) := by decide +kernel
theorem dX3_fact_17 : decode cX3_fact 17 = .ok (.if_icmp .ge 12, 3) := by decide +kernel
theorem dX3_fact_20 : decode cX3_fact 20 = .ok (.aload_n 0, 1) := by decide +kernel
theorem dX3_fact_21 : decode cX3_fact 21 = .ok (.getfield 15, 3) := by decide +kernel
theorem dX3_fact_24 : decode cX3_fact 24 = .ok (.iload_n 3, 1) := by decide +kernel
theorem dX3_fact_25 : decode cX3_fact 25 = .ok (.iaload, 1) := by decide +kernel
theorem dX3_fact_26 : decode cX3_fact 26 = .ok (.goto 4, 3) := by decide +kernel
theorem dX3_fact_29 : decode cX3_fact 29 = .ok (.iconst 0, 1) := by decide +kernel
theorem dX3_fact_30 : decode cX3_fact 30 = .ok (.ireturn, 1) := by decide +kernel
theorem dX3_setFact_0 : decode cX3_setFact 0 = .ok (.iload_n 1, 1) := by decide +kernel
theorem dX3_setFact_1 : decode cX3_setFact 1 = .ok (.bipush 12, 2) := by decide +kernel
theorem dX3_setFact_3 : decode cX3_setFact 3 = .ok (.imul, 1) := by decide +kernel
theorem dX3_setFact_4 : decode cX3_setFact 4 = .ok (.iload_n 2, 1) := by decide +kernel
theorem dX3_setFact_5 : decode cX3_setFact 5 = .ok (.iadd, 1) := by decide +kernel
theorem dX3_setFact_6 : decode cX3_setFact 6 = .ok (.istore 4, 2) := by decide +kernel
theorem dX3_setFact_8 : decode cX3_setFact 8 = .ok (.iload 4, 2) := by decide +kernel
theorem dX3_setFact_10 : decode cX3_setFact 10 = .ok (.ifCond .lt 21, 3) := by decide +kernel
theorem dX3_setFact_13 : decode cX3_setFact 13 = .ok (.iload 4, 2) := by decide +kernel
theorem dX3_setFact_15 : decode cX3_setFact 15 = .ok (.aload_n 0, 1) := by decide +kernel
theorem dX3_setFact_16 : decode cX3_setFact 16 = .ok (.getfield 15, 3) := by decide +kernel
theorem dX3_setFact_19 : decode cX3_setFact 19 = .ok (.arraylength, 1) := by decide +kernel
theorem dX3_setFact_20 : decode cX3_setFact 20 = .ok (.if_icmp .ge 11, 3) := by decide +kernel
theorem dX3_setFact_23 : decode cX3_setFact 23 = .ok (.aload_n 0, 1) := by decide +kernel
theorem dX3_setFact_24 : decode cX3_setFact 24 = .ok (.getfield 15, 3) := by decide +kernel
theorem dX3_setFact_27 : decode cX3_setFact 27 = .ok (.iload 4, 2) := by decide +kernel
theorem dX3_setFact_29 : decode cX3_setFact 29 = .ok (.iload_n 3, 1) := by decide +kernel
theorem dX3_setFact_30 : decode cX3_setFact 30 = .ok (.iastore, 1) := by decide +kernel
theorem dX3_setFact_31 : decode cX3_setFact 31 = .ok (.return_, 1) := by decide +kernel
theorem dX3_faultOfOrder_0 : decode cX3_faultOfOrder 0 = .ok (.iload_n 1, 1) := by decide +kernel
theorem dX3_faultOfOrder_1 : decode cX3_faultOfOrder 1 = .ok (.ifCond .lt 15, 3) := by decide +kernel
theorem dX3_faultOfOrder_4 : decode cX3_faultOfOrder 4 = .ok (.iload_n 1, 1) := by decide +kernel
theorem dX3_faultOfOrder_5 : decode cX3_faultOfOrder 5 = .ok (.aload_n 0, 1) := by decide +kernel
theorem dX3_faultOfOrder_6 : decode cX3_faultOfOrder 6 = .ok (.getfield 28, 3) := by decide +kernel
theorem dX3_faultOfOrder_9 : decode cX3_faultOfOrder 9 = .ok (.if_icmp .ge 7, 3) := by decide +kernel
theorem dX3_faultOfOrder_12 : decode cX3_faultOfOrder 12 = .ok (.iconst 0, 1) := by decide +kernel
theorem dX3_faultOfOrder_13 : decode cX3_faultOfOrder 13 = .ok (.goto 4, 3) := by decide +kernel
theorem dX3_faultOfOrder_16 : decode cX3_faultOfOrder 16 = .ok (.iconst 1, 1) := by decide +kernel
theorem dX3_faultOfOrder_17 : decode cX3_faultOfOrder 17 = .ok (.ireturn, 1) := by decide +kernel
set_option maxRecDepth 20000 in
theorem ggX3_faultOfTelling_X6_faultOfTag : GoodIn wsX3_faultOfTelling wsX6_faultOfTag := goodIn_r _ [4, 5, 6, 3, 7] (by decide +kernel) (by decide +kernel)
set_option maxRecDepth 20000 in
theorem gX3_faultOfTelling_X6_faultOfTag_n51 : GoodIn wsX3_faultOfTelling (wsX6_faultOfTag) := ggX3_faultOfTelling_X6_faultOfTag
set_option maxRecDepth 20000 in
theorem ggX3_faultOfTelling_X3_isOrderOfItsKind : GoodIn wsX3_faultOfTelling wsX3_isOrderOfItsKind := goodIn_r _ [11, 6, 3, 7] (by decide +kernel) (by decide +kernel)
set_option maxRecDepth 20000 in
theorem gX3_faultOfTelling_X3_isOrderOfItsKind : GoodIn wsX3_faultOfTelling (va_wsS RX3 55 yX3_isOrderOfItsKind wsX3_isOrderOfItsKind) := goodIn_app (goodIn_of _ (by decide +kernel)) ggX3_faultOfTelling_X3_isOrderOfItsKind
set_option maxRecDepth 20000 in
theorem ggX3_faultOfTelling_X3_latestWith : GoodIn wsX3_faultOfTelling wsX3_latestWith := goodIn_r _ [15, 1, 16, 17, 18, 10, 19, 20, 25, 26, 27, 28, 29, 30, 31, 32] (by decide +kernel) (by decide +kernel)
set_option maxRecDepth 20000 in
theorem gX3_faultOfTelling_X3_latestWith : GoodIn wsX3_faultOfTelling (wsV RX3 59 RX3 yX3_latestWith wsX3_latestWith) := goodIn_app (goodIn_of _ (by decide +kernel)) ggX3_faultOfTelling_X3_latestWith
set_option maxRecDepth 20000 in
theorem ggX3_faultOfTelling_X3_isOpen : GoodIn wsX3_faultOfTelling wsX3_isOpen := goodIn_r _ [24, 16, 17, 18, 10, 19, 20, 25, 26, 27, 28, 29, 30, 31, 32] (by decide +kernel) (by decide +kernel)
set_option maxRecDepth 20000 in
theorem gX3_faultOfTelling_X3_isOpen : GoodIn wsX3_faultOfTelling (wsV RX3 62 RX3 yX3_isOpen wsX3_isOpen) := goodIn_app (goodIn_of _ (by decide +kernel)) ggX3_faultOfTelling_X3_isOpen
theorem dX3_faultOfTelling_0 : decode cX3_faultOfTelling 0 = .ok (.iload_n 1, 1) := by decide +kernel
theorem dX3_faultOfTelling_1 : decode cX3_faultOfTelling 1 = .ok (.iload_n 2, 1) := by decide +kernel
theorem dX3_faultOfTelling_2 : decode cX3_faultOfTelling 2 = .ok (.invokestatic 51, 3) := by decide +kernel
theorem dX3_faultOfTelling_5 : decode cX3_faultOfTelling 5 = .ok (.ifCond .ne 14, 3) := by decide +kernel
theorem dX3_faultOfTelling_8 : decode cX3_faultOfTelling 8 = .ok (.iload_n 3, 1) := by decide +kernel
theorem dX3_faultOfTelling_9 : decode cX3_faultOfTelling 9 = .ok (.iload 4, 2) := by decide +kernel
theorem dX3_faultOfTelling_11 : decode cX3_faultOfTelling 11 = .ok (.iload 5, 2) := by decide +kernel
theorem dX3_faultOfTelling_13 : decode cX3_faultOfTelling 13 = .ok (.invokestatic 55, 3) := by decide +kernel
theorem dX3_faultOfTelling_16 : decode cX3_faultOfTelling 16 = .ok (.ifCond .ne 5, 3) := by decide +kernel
theorem dX3_faultOfTelling_19 : decode cX3_faultOfTelling 19 = .ok (.iconst 2, 1) := by decide +kernel
theorem dX3_faultOfTelling_20 : decode cX3_faultOfTelling 20 = .ok (.ireturn, 1) := by decide +kernel
theorem dX3_faultOfTelling_21 : decode cX3_faultOfTelling 21 = .ok (.aload_n 0, 1) := by decide +kernel
theorem dX3_faultOfTelling_22 : decode cX3_faultOfTelling 22 = .ok (.iload_n 1, 1) := by decide +kernel
theorem dX3_faultOfTelling_23 : decode cX3_faultOfTelling 23 = .ok (.iload_n 2, 1) := by decide +kernel
theorem dX3_faultOfTelling_24 : decode cX3_faultOfTelling 24 = .ok (.invokevirtual 59, 3) := by decide +kernel
theorem dX3_faultOfTelling_27 : decode cX3_faultOfTelling 27 = .ok (.istore 6, 2) := by decide +kernel
theorem dX3_faultOfTelling_29 : decode cX3_faultOfTelling 29 = .ok (.aload_n 0, 1) := by decide +kernel
theorem dX3_faultOfTelling_30 : decode cX3_faultOfTelling 30 = .ok (.getfield 28, 3) := by decide +kernel
theorem dX3_faultOfTelling_33 : decode cX3_faultOfTelling 33 = .ok (.bipush 40, 2) := by decide +kernel
theorem dX3_faultOfTelling_35 : decode cX3_faultOfTelling 35 = .ok (.if_icmp .ge 18, 3) := by decide +kernel
theorem dX3_faultOfTelling_38 : decode cX3_faultOfTelling 38 = .ok (.iload 6, 2) := by decide +kernel
theorem dX3_faultOfTelling_40 : decode cX3_faultOfTelling 40 = .ok (.iconst (-1), 1) := by decide +kernel
theorem dX3_faultOfTelling_41 : decode cX3_faultOfTelling 41 = .ok (.if_icmp .eq 16, 3) := by decide +kernel
theorem dX3_faultOfTelling_44 : decode cX3_faultOfTelling 44 = .ok (.aload_n 0, 1) := by decide +kernel
theorem dX3_faultOfTelling_45 : decode cX3_faultOfTelling 45 = .ok (.iload 6, 2) := by decide +kernel
theorem dX3_faultOfTelling_47 : decode cX3_faultOfTelling 47 = .ok (.invokevirtual 62, 3) := by decide +kernel
theorem dX3_faultOfTelling_50 : decode cX3_faultOfTelling 50 = .ok (.ifCond .eq 7, 3) := by decide +kernel
theorem dX3_faultOfTelling_53 : decode cX3_faultOfTelling 53 = .ok (.iconst 3, 1) := by decide +kernel
theorem dX3_faultOfTelling_54 : decode cX3_faultOfTelling 54 = .ok (.goto 4, 3) := by decide +kernel
theorem dX3_faultOfTelling_57 : decode cX3_faultOfTelling 57 = .ok (.iconst 0, 1) := by decide +kernel
theorem dX3_faultOfTelling_58 : decode cX3_faultOfTelling 58 = .ok (.ireturn, 1) := by decide +kernel
set_option maxRecDepth 20000 in
theorem ggX3_isOrderOfItsKind_X6_isWithin : GoodIn wsX3_isOrderOfItsKind wsX6_isWithin := goodIn_r _ [3] (by decide +kernel) (by decide +kernel)
set_option maxRecDepth 20000 in
theorem gX3_isOrderOfItsKind_X6_isWithin_n66 : GoodIn wsX3_isOrderOfItsKind (wsX6_isWithin) := ggX3_isOrderOfItsKind_X6_isWithin
theorem dX3_isOrderOfItsKind_0 : decode cX3_isOrderOfItsKind 0 = .ok (.iload_n 0, 1) := by decide +kernel
theorem dX3_isOrderOfItsKind_1 : decode cX3_isOrderOfItsKind 1 = .ok (.tableswitch 100 0 3 #[31, 31, 60, 86], 31) := by decide +kernel
theorem dX3_isOrderOfItsKind_32 : decode cX3_isOrderOfItsKind 32 = .ok (.iload_n 1, 1) := by decide +kernel
theorem dX3_isOrderOfItsKind_33 : decode cX3_isOrderOfItsKind 33 = .ok (.iconst 0, 1) := by decide +kernel
theorem dX3_isOrderOfItsKind_34 : decode cX3_isOrderOfItsKind 34 = .ok (.bipush 15, 2) := by decide +kernel
theorem dX3_isOrderOfItsKind_36 : decode cX3_isOrderOfItsKind 36 = .ok (.invokestatic 66, 3) := by decide +kernel
theorem dX3_isOrderOfItsKind_39 : decode cX3_isOrderOfItsKind 39 = .ok (.ifCond .eq 20, 3) := by decide +kernel
theorem dX3_isOrderOfItsKind_42 : decode cX3_isOrderOfItsKind 42 = .ok (.iload_n 2, 1) := by decide +kernel
theorem dX3_isOrderOfItsKind_43 : decode cX3_isOrderOfItsKind 43 = .ok (.sipush (-999), 3) := by decide +kernel
theorem dX3_isOrderOfItsKind_46 : decode cX3_isOrderOfItsKind 46 = .ok (.sipush 999, 3) := by decide +kernel
theorem dX3_isOrderOfItsKind_49 : decode cX3_isOrderOfItsKind 49 = .ok (.invokestatic 66, 3) := by decide +kernel
theorem dX3_isOrderOfItsKind_52 : decode cX3_isOrderOfItsKind 52 = .ok (.ifCond .eq 7, 3) := by decide +kernel
theorem dX3_isOrderOfItsKind_55 : decode cX3_isOrderOfItsKind 55 = .ok (.iconst 1, 1) := by decide +kernel
theorem dX3_isOrderOfItsKind_56 : decode cX3_isOrderOfItsKind 56 = .ok (.goto 4, 3) := by decide +kernel
theorem dX3_isOrderOfItsKind_59 : decode cX3_isOrderOfItsKind 59 = .ok (.iconst 0, 1) := by decide +kernel
theorem dX3_isOrderOfItsKind_60 : decode cX3_isOrderOfItsKind 60 = .ok (.ireturn, 1) := by decide +kernel
theorem dX3_isOrderOfItsKind_61 : decode cX3_isOrderOfItsKind 61 = .ok (.iload_n 1, 1) := by decide +kernel
theorem dX3_isOrderOfItsKind_62 : decode cX3_isOrderOfItsKind 62 = .ok (.iconst 0, 1) := by decide +kernel
theorem dX3_isOrderOfItsKind_63 : decode cX3_isOrderOfItsKind 63 = .ok (.bipush 15, 2) := by decide +kernel
theorem dX3_isOrderOfItsKind_65 : decode cX3_isOrderOfItsKind 65 = .ok (.invokestatic 66, 3) := by decide +kernel
theorem dX3_isOrderOfItsKind_68 : decode cX3_isOrderOfItsKind 68 = .ok (.ifCond .eq 17, 3) := by decide +kernel
theorem dX3_isOrderOfItsKind_71 : decode cX3_isOrderOfItsKind 71 = .ok (.iload_n 2, 1) := by decide +kernel
theorem dX3_isOrderOfItsKind_72 : decode cX3_isOrderOfItsKind 72 = .ok (.iconst 0, 1) := by decide +kernel
theorem dX3_isOrderOfItsKind_73 : decode cX3_isOrderOfItsKind 73 = .ok (.bipush 15, 2) := by decide +kernel
theorem dX3_isOrderOfItsKind_75 : decode cX3_isOrderOfItsKind 75 = .ok (.invokestatic 66, 3) := by decide +kernel
theorem dX3_isOrderOfItsKind_78 : decode cX3_isOrderOfItsKind 78 = .ok (.ifCond .eq 7, 3) := by decide +kernel
theorem dX3_isOrderOfItsKind_81 : decode cX3_isOrderOfItsKind 81 = .ok (.iconst 1, 1) := by decide +kernel
theorem dX3_isOrderOfItsKind_82 : decode cX3_isOrderOfItsKind 82 = .ok (.goto 4, 3) := by decide +kernel
theorem dX3_isOrderOfItsKind_85 : decode cX3_isOrderOfItsKind 85 = .ok (.iconst 0, 1) := by decide +kernel
theorem dX3_isOrderOfItsKind_86 : decode cX3_isOrderOfItsKind 86 = .ok (.ireturn, 1) := by decide +kernel
theorem dX3_isOrderOfItsKind_87 : decode cX3_isOrderOfItsKind 87 = .ok (.iload_n 1, 1) := by decide +kernel
theorem dX3_isOrderOfItsKind_88 : decode cX3_isOrderOfItsKind 88 = .ok (.ifCond .ne 11, 3) := by decide +kernel
theorem dX3_isOrderOfItsKind_91 : decode cX3_isOrderOfItsKind 91 = .ok (.iload_n 2, 1) := by decide +kernel
theorem dX3_isOrderOfItsKind_92 : decode cX3_isOrderOfItsKind 92 = .ok (.ifCond .ne 7, 3) := by decide +kernel
theorem dX3_isOrderOfItsKind_95 : decode cX3_isOrderOfItsKind 95 = .ok (.iconst 1, 1) := by decide +kernel
theorem dX3_isOrderOfItsKind_96 : decode cX3_isOrderOfItsKind 96 = .ok (.goto 4, 3) := by decide +kernel
theorem dX3_isOrderOfItsKind_99 : decode cX3_isOrderOfItsKind 99 = .ok (.iconst 0, 1) := by decide +kernel
theorem dX3_isOrderOfItsKind_100 : decode cX3_isOrderOfItsKind 100 = .ok (.ireturn, 1) := by decide +kernel
theorem dX3_isOrderOfItsKind_101 : decode cX3_isOrderOfItsKind 101 = .ok (.iconst 0, 1) := by decide +kernel
theorem dX3_isOrderOfItsKind_102 : decode cX3_isOrderOfItsKind 102 = .ok (.ireturn, 1) := by decide +kernel
set_option maxRecDepth 20000 in
theorem ggX3_faultOfCancelling_X6_faultOfTag : GoodIn wsX3_faultOfCancelling wsX6_faultOfTag := goodIn_r _ [3, 4, 5, 2, 6] (by decide +kernel) (by decide +kernel)
set_option maxRecDepth 20000 in
theorem gX3_faultOfCancelling_X6_faultOfTag_n51 : GoodIn wsX3_faultOfCancelling (wsX6_faultOfTag) := ggX3_faultOfCancelling_X6_faultOfTag
set_option maxRecDepth 20000 in
theorem ggX3_faultOfCancelling_X3_latestWith : GoodIn wsX3_faultOfCancelling wsX3_latestWith := goodIn_r _ [11, 12, 13, 14, 15, 10, 16, 17, 18, 19, 20, 21, 22, 23, 24, 25] (by decide +kernel) (by decide +kernel)
set_option maxRecDepth 20000 in
theorem gX3_faultOfCancelling_X3_latestWith : GoodIn wsX3_faultOfCancelling (wsV RX3 59 RX3 yX3_latestWith wsX3_latestWith) := goodIn_app (goodIn_of _ (by decide +kernel)) ggX3_faultOfCancelling_X3_latestWith
set_option maxRecDepth 20000 in
theorem ggX3_faultOfCancelling_X3_fact : GoodIn wsX3_faultOfCancelling wsX3_fact := goodIn_r _ [16, 17, 18, 19, 20, 21, 22, 23, 24, 25] (by decide +kernel) (by decide +kernel)
set_option maxRecDepth 20000 in
theorem gX3_faultOfCancelling_X3_fact : GoodIn wsX3_faultOfCancelling (wsV RX3 69 RX3 yX3_fact wsX3_fact) := goodIn_app (goodIn_of _ (by decide +kernel)) ggX3_faultOfCancelling_X3_fact
theorem dX3_faultOfCancelling_0 : decode cX3_faultOfCancelling 0 = .ok (.iload_n 1, 1) := by decide +kernel
theorem dX3_faultOfCancelling_1 : decode cX3_faultOfCancelling 1 = .ok (.iload_n 2, 1) := by decide +kernel
theorem dX3_faultOfCancelling_2 : decode cX3_faultOfCancelling 2 = .ok (.invokestatic 51, 3) := by decide +kernel
theorem dX3_faultOfCancelling_5 : decode cX3_faultOfCancelling 5 = .ok (.ifCond .eq 5, 3) := by decide +kernel
theorem dX3_faultOfCancelling_8 : decode cX3_faultOfCancelling 8 = .ok (.iconst 2, 1) := by decide +kernel
theorem dX3_faultOfCancelling_9 : decode cX3_faultOfCancelling 9 = .ok (.ireturn, 1) := by decide +kernel
theorem dX3_faultOfCancelling_10 : decode cX3_faultOfCancelling 10 = .ok (.aload_n 0, 1) := by decide +kernel
theorem dX3_faultOfCancelling_11 : decode cX3_faultOfCancelling 11 = .ok (.iload_n 1, 1) := by decide +kernel
theorem dX3_faultOfCancelling_12 : decode cX3_faultOfCancelling 12 = .ok (.iload_n 2, 1) := by decide +kernel
theorem dX3_faultOfCancelling_13 : decode cX3_faultOfCancelling 13 = .ok (.invokevirtual 59, 3) := by decide +kernel
theorem dX3_faultOfCancelling_16 : decode cX3_faultOfCancelling 16 = .ok (.istore_n 3, 1) := by decide +kernel
theorem dX3_faultOfCancelling_17 : decode cX3_faultOfCancelling 17 = .ok (.iload_n 3, 1) := by decide +kernel
theorem dX3_faultOfCancelling_18 : decode cX3_faultOfCancelling 18 = .ok (.iconst (-1), 1) := by decide +kernel
theorem dX3_faultOfCancelling_19 : decode cX3_faultOfCancelling 19 = .ok (.if_icmp .eq 12, 3) := by decide +kernel
theorem dX3_faultOfCancelling_22 : decode cX3_faultOfCancelling 22 = .ok (.aload_n 0, 1) := by decide +kernel
theorem dX3_faultOfCancelling_23 : decode cX3_faultOfCancelling 23 = .ok (.iload_n 3, 1) := by decide +kernel
theorem dX3_faultOfCancelling_24 : decode cX3_faultOfCancelling 24 = .ok (.iconst 5, 1) := by decide +kernel
theorem dX3_faultOfCancelling_25 : decode cX3_faultOfCancelling 25 = .ok (.invokevirtual 69, 3) := by decide +kernel
theorem dX3_faultOfCancelling_28 : decode cX3_faultOfCancelling 28 = .ok (.ifCond .eq 7, 3) := by decide +kernel
theorem dX3_faultOfCancelling_31 : decode cX3_faultOfCancelling 31 = .ok (.iconst 3, 1) := by decide +kernel
theorem dX3_faultOfCancelling_32 : decode cX3_faultOfCancelling 32 = .ok (.goto 4, 3) := by decide +kernel
theorem dX3_faultOfCancelling_35 : decode cX3_faultOfCancelling 35 = .ok (.iconst 0, 1) := by decide +kernel
theorem dX3_faultOfCancelling_36 : decode cX3_faultOfCancelling 36 = .ok (.ireturn, 1) := by decide +kernel
set_option maxRecDepth 20000 in
theorem ggX3_faultOfWaking_X6_faultOfController : GoodIn wsX3_faultOfWaking wsX6_faultOfController := goodIn_r _ [4, 5, 6, 3, 7] (by decide +kernel) (by decide +kernel)
set_option maxRecDepth 20000 in
theorem gX3_faultOfWaking_X6_faultOfController_n72 : GoodIn wsX3_faultOfWaking (wsX6_faultOfController) := ggX3_faultOfWaking_X6_faultOfController
set_option maxRecDepth 20000 in
theorem ggX3_faultOfWaking_X3_controllerAt : GoodIn wsX3_faultOfWaking wsX3_controllerAt := goodIn_r _ [12, 13, 14, 23, 24, 25, 26, 27, 28, 29, 30] (by decide +kernel) (by decide +kernel)
set_option maxRecDepth 20000 in
theorem gX3_faultOfWaking_X3_controllerAt : GoodIn wsX3_faultOfWaking (wsV RX3 76 RX3 yX3_controllerAt wsX3_controllerAt) := goodIn_app (goodIn_of _ (by decide +kernel)) ggX3_faultOfWaking_X3_controllerAt
theorem dX3_faultOfWaking_0 : decode cX3_faultOfWaking 0 = .ok (.iload_n 1, 1) := by decide +kernel
theorem dX3_faultOfWaking_1 : decode cX3_faultOfWaking 1 = .ok (.invokestatic 72, 3) := by decide +kernel
theorem dX3_faultOfWaking_4 : decode cX3_faultOfWaking 4 = .ok (.ifCond .eq 5, 3) := by decide +kernel
theorem dX3_faultOfWaking_7 : decode cX3_faultOfWaking 7 = .ok (.iconst 1, 1) := by decide +kernel
theorem dX3_faultOfWaking_8 : decode cX3_faultOfWaking 8 = .ok (.ireturn, 1) := by decide +kernel
theorem dX3_faultOfWaking_9 : decode cX3_faultOfWaking 9 = .ok (.aload_n 0, 1) := by decide +kernel
theorem dX3_faultOfWaking_10 : decode cX3_faultOfWaking 10 = .ok (.iload_n 1, 1) := by decide +kernel
theorem dX3_faultOfWaking_11 : decode cX3_faultOfWaking 11 = .ok (.invokevirtual 76, 3) := by decide +kernel
theorem dX3_faultOfWaking_14 : decode cX3_faultOfWaking 14 = .ok (.getfield 80, 3) := by decide +kernel
theorem dX3_faultOfWaking_17 : decode cX3_faultOfWaking 17 = .ok (.ifCond .eq 7, 3) := by decide +kernel
theorem dX3_faultOfWaking_20 : decode cX3_faultOfWaking 20 = .ok (.iconst 3, 1) := by decide +kernel
theorem dX3_faultOfWaking_21 : decode cX3_faultOfWaking 21 = .ok (.goto 4, 3) := by decide +kernel
theorem dX3_faultOfWaking_24 : decode cX3_faultOfWaking 24 = .ok (.iconst 0, 1) := by decide +kernel
theorem dX3_faultOfWaking_25 : decode cX3_faultOfWaking 25 = .ok (.ireturn, 1) := by decide +kernel
set_option maxRecDepth 20000 in
theorem ggX3_faultOfNeedingAwake_X6_faultOfController : GoodIn wsX3_faultOfNeedingAwake wsX6_faultOfController := goodIn_r _ [4, 5, 6, 3, 7] (by decide +kernel) (by decide +kernel)
set_option maxRecDepth 20000 in
theorem gX3_faultOfNeedingAwake_X6_faultOfController_n72 : GoodIn wsX3_faultOfNeedingAwake (wsX6_faultOfController) := ggX3_faultOfNeedingAwake_X6_faultOfController
set_option maxRecDepth 20000 in
theorem ggX3_faultOfNeedingAwake_X3_controllerAt : GoodIn wsX3_faultOfNeedingAwake wsX3_controllerAt := goodIn_r _ [12, 13, 14, 23, 24, 25, 26, 27, 28, 29, 30] (by decide +kernel) (by decide +kernel)
set_option maxRecDepth 20000 in
theorem gX3_faultOfNeedingAwake_X3_controllerAt : GoodIn wsX3_faultOfNeedingAwake (wsV RX3 76 RX3 yX3_controllerAt wsX3_controllerAt) := goodIn_app (goodIn_of _ (by decide +kernel)) ggX3_faultOfNeedingAwake_X3_controllerAt
theorem dX3_faultOfNeedingAwake_0 : decode cX3_faultOfNeedingAwake 0 = .ok (.iload_n 1, 1) := by decide +kernel
theorem dX3_faultOfNeedingAwake_1 : decode cX3_faultOfNeedingAwake 1 = .ok (.invokestatic 72, 3) := by decide +kernel
theorem dX3_faultOfNeedingAwake_4 : decode cX3_faultOfNeedingAwake 4 = .ok (.ifCond .eq 5, 3) := by decide +kernel
theorem dX3_faultOfNeedingAwake_7 : decode cX3_faultOfNeedingAwake 7 = .ok (.iconst 1, 1) := by decide +kernel
theorem dX3_faultOfNeedingAwake_8 : decode cX3_faultOfNeedingAwake 8 = .ok (.ireturn, 1) := by decide +kernel
theorem dX3_faultOfNeedingAwake_9 : decode cX3_faultOfNeedingAwake 9 = .ok (.aload_n 0, 1) := by decide +kernel
theorem dX3_faultOfNeedingAwake_10 : decode cX3_faultOfNeedingAwake 10 = .ok (.iload_n 1, 1) := by decide +kernel
theorem dX3_faultOfNeedingAwake_11 : decode cX3_faultOfNeedingAwake 11 = .ok (.invokevirtual 76, 3) := by decide +kernel
theorem dX3_faultOfNeedingAwake_14 : decode cX3_faultOfNeedingAwake 14 = .ok (.getfield 80, 3) := by decide +kernel
theorem dX3_faultOfNeedingAwake_17 : decode cX3_faultOfNeedingAwake 17 = .ok (.ifCond .eq 7, 3) := by decide +kernel
theorem dX3_faultOfNeedingAwake_20 : decode cX3_faultOfNeedingAwake 20 = .ok (.iconst 0, 1) := by decide +kernel
theorem dX3_faultOfNeedingAwake_21 : decode cX3_faultOfNeedingAwake 21 = .ok (.goto 4, 3) := by decide +kernel
theorem dX3_faultOfNeedingAwake_24 : decode cX3_faultOfNeedingAwake 24 = .ok (.iconst 3, 1) := by decide +kernel
theorem dX3_faultOfNeedingAwake_25 : decode cX3_faultOfNeedingAwake 25 = .ok (.ireturn, 1) := by decide +kernel
set_option maxRecDepth 20000 in
theorem ggX3_faultOfDelay_X6_faultOfController : GoodIn wsX3_faultOfDelay wsX6_faultOfController := goodIn_r _ [3, 4, 5, 2, 6] (by decide +kernel) (by decide +kernel)
set_option maxRecDepth 20000 in
theorem gX3_faultOfDelay_X6_faultOfController_n72 : GoodIn wsX3_faultOfDelay (wsX6_faultOfController) := ggX3_faultOfDelay_X6_faultOfController
set_option maxRecDepth 20000 in
theorem ggX3_faultOfDelay_X6_faultOfRange : GoodIn wsX3_faultOfDelay wsX6_faultOfRange := goodIn_r _ [8, 4, 5, 2, 6] (by decide +kernel) (by decide +kernel)
set_option maxRecDepth 20000 in
theorem gX3_faultOfDelay_X6_faultOfRange_n84 : GoodIn wsX3_faultOfDelay (wsX6_faultOfRange) := ggX3_faultOfDelay_X6_faultOfRange
theorem dX3_faultOfDelay_0 : decode cX3_faultOfDelay 0 = .ok (.iload_n 1, 1) := by decide +kernel
theorem dX3_faultOfDelay_1 : decode cX3_faultOfDelay 1 = .ok (.invokestatic 72, 3) := by decide +kernel
theorem dX3_faultOfDelay_4 : decode cX3_faultOfDelay 4 = .ok (.ifCond .eq 5, 3) := by decide +kernel
theorem dX3_faultOfDelay_7 : decode cX3_faultOfDelay 7 = .ok (.iconst 1, 1) := by decide +kernel
theorem dX3_faultOfDelay_8 : decode cX3_faultOfDelay 8 = .ok (.ireturn, 1) := by decide +kernel
theorem dX3_faultOfDelay_9 : decode cX3_faultOfDelay 9 = .ok (.iload_n 2, 1) := by decide +kernel
theorem dX3_faultOfDelay_10 : decode cX3_faultOfDelay 10 = .ok (.iconst 0, 1) := by decide +kernel
theorem dX3_faultOfDelay_11 : decode cX3_faultOfDelay 11 = .ok (.bipush 20, 2) := by decide +kernel
theorem dX3_faultOfDelay_13 : decode cX3_faultOfDelay 13 = .ok (.invokestatic 84, 3) := by decide +kernel
theorem dX3_faultOfDelay_16 : decode cX3_faultOfDelay 16 = .ok (.ireturn, 1) := by decide +kernel
set_option maxRecDepth 20000 in
theorem ggX3_faultOfAlarm_X6_faultOfController : GoodIn wsX3_faultOfAlarm wsX6_faultOfController := goodIn_r _ [3, 4, 5, 2, 6] (by decide +kernel) (by decide +kernel)
set_option maxRecDepth 20000 in
theorem gX3_faultOfAlarm_X6_faultOfController_n72 : GoodIn wsX3_faultOfAlarm (wsX6_faultOfController) := ggX3_faultOfAlarm_X6_faultOfController
set_option maxRecDepth 20000 in
theorem ggX3_faultOfAlarm_X6_faultOfRange : GoodIn wsX3_faultOfAlarm wsX6_faultOfRange := goodIn_r _ [8, 4, 5, 2, 6] (by decide +kernel) (by decide +kernel)
set_option maxRecDepth 20000 in
theorem gX3_faultOfAlarm_X6_faultOfRange_n84 : GoodIn wsX3_faultOfAlarm (wsX6_faultOfRange) := ggX3_faultOfAlarm_X6_faultOfRange
theorem dX3_faultOfAlarm_0 : decode cX3_faultOfAlarm 0 = .ok (.iload_n 1, 1) := by decide +kernel
theorem dX3_faultOfAlarm_1 : decode cX3_faultOfAlarm 1 = .ok (.invokestatic 72, 3) := by decide +kernel
theorem dX3_faultOfAlarm_4 : decode cX3_faultOfAlarm 4 = .ok (.ifCond .eq 5, 3) := by decide +kernel
theorem dX3_faultOfAlarm_7 : decode cX3_faultOfAlarm 7 = .ok (.iconst 1, 1) := by decide +kernel
theorem dX3_faultOfAlarm_8 : decode cX3_faultOfAlarm 8 = .ok (.ireturn, 1) := by decide +kernel
theorem dX3_faultOfAlarm_9 : decode cX3_faultOfAlarm 9 = .ok (.iload_n 2, 1) := by decide +kernel
theorem dX3_faultOfAlarm_10 : decode cX3_faultOfAlarm 10 = .ok (.iconst 0, 1) := by decide +kernel
theorem dX3_faultOfAlarm_11 : decode cX3_faultOfAlarm 11 = .ok (.bipush 20, 2) := by decide +kernel
theorem dX3_faultOfAlarm_13 : decode cX3_faultOfAlarm 13 = .ok (.invokestatic 84, 3) := by decide +kernel
theorem dX3_faultOfAlarm_16 : decode cX3_faultOfAlarm 16 = .ok (.ireturn, 1) := by decide +kernel
set_option maxRecDepth 20000 in
theorem ggX3_faultOfWorking_X6_faultOfController : GoodIn wsX3_faultOfWorking wsX6_faultOfController := goodIn_r _ [3, 4, 5, 2, 6] (by decide +kernel) (by decide +kernel)
set_option maxRecDepth 20000 in
theorem gX3_faultOfWorking_X6_faultOfController_n72 : GoodIn wsX3_faultOfWorking (wsX6_faultOfController) := ggX3_faultOfWorking_X6_faultOfController
set_option maxRecDepth 20000 in
theorem ggX3_faultOfWorking_X6_isWithin : GoodIn wsX3_faultOfWorking wsX6_isWithin := goodIn_r _ [6] (by decide +kernel) (by decide +kernel)
set_option maxRecDepth 20000 in
theorem gX3_faultOfWorking_X6_isWithin_n66 : GoodIn wsX3_faultOfWorking (wsX6_isWithin) := ggX3_faultOfWorking_X6_isWithin
set_option maxRecDepth 20000 in
theorem ggX3_faultOfWorking_X3_faultOfNeedingAwake : GoodIn wsX3_faultOfWorking wsX3_faultOfNeedingAwake := goodIn_r _ [11, 12, 1, 2, 3, 4, 5, 6, 13, 14, 15, 10, 16, 17, 18, 19, 20, 21, 22, 23, 24, 25, 26, 27, 28, 29, 30, 31, 32, 33, 34] (by decide +kernel) (by decide +kernel)
set_option maxRecDepth 20000 in
theorem gX3_faultOfWorking_X3_faultOfNeedingAwake : GoodIn wsX3_faultOfWorking (wsV RX3 88 RX3 yX3_faultOfNeedingAwake wsX3_faultOfNeedingAwake) := goodIn_app (goodIn_of _ (by decide +kernel)) ggX3_faultOfWorking_X3_faultOfNeedingAwake
theorem dX3_faultOfWorking_0 : decode cX3_faultOfWorking 0 = .ok (.iload_n 1, 1) := by decide +kernel
theorem dX3_faultOfWorking_1 : decode cX3_faultOfWorking 1 = .ok (.invokestatic 72, 3) := by decide +kernel
theorem dX3_faultOfWorking_4 : decode cX3_faultOfWorking 4 = .ok (.ifCond .eq 5, 3) := by decide +kernel
theorem dX3_faultOfWorking_7 : decode cX3_faultOfWorking 7 = .ok (.iconst 1, 1) := by decide +kernel
theorem dX3_faultOfWorking_8 : decode cX3_faultOfWorking 8 = .ok (.ireturn, 1) := by decide +kernel
theorem dX3_faultOfWorking_9 : decode cX3_faultOfWorking 9 = .ok (.iload_n 2, 1) := by decide +kernel
theorem dX3_faultOfWorking_10 : decode cX3_faultOfWorking 10 = .ok (.iconst 1, 1) := by decide +kernel
theorem dX3_faultOfWorking_11 : decode cX3_faultOfWorking 11 = .ok (.iconst 3, 1) := by decide +kernel
theorem dX3_faultOfWorking_12 : decode cX3_faultOfWorking 12 = .ok (.invokestatic 66, 3) := by decide +kernel
theorem dX3_faultOfWorking_15 : decode cX3_faultOfWorking 15 = .ok (.ifCond .eq 11, 3) := by decide +kernel
theorem dX3_faultOfWorking_18 : decode cX3_faultOfWorking 18 = .ok (.aload_n 0, 1) := by decide +kernel
theorem dX3_faultOfWorking_19 : decode cX3_faultOfWorking 19 = .ok (.iload_n 1, 1) := by decide +kernel
theorem dX3_faultOfWorking_20 : decode cX3_faultOfWorking 20 = .ok (.invokevirtual 88, 3) := by decide +kernel
theorem dX3_faultOfWorking_23 : decode cX3_faultOfWorking 23 = .ok (.goto 4, 3) := by decide +kernel
theorem dX3_faultOfWorking_26 : decode cX3_faultOfWorking 26 = .ok (.iconst 2, 1) := by decide +kernel
theorem dX3_faultOfWorking_27 : decode cX3_faultOfWorking 27 = .ok (.ireturn, 1) := by decide +kernel
set_option maxRecDepth 20000 in
theorem ggX3_faultOfPassing_X6_isWithin : GoodIn wsX3_faultOfPassing wsX6_isWithin := goodIn_r _ [4] (by decide +kernel) (by decide +kernel)
set_option maxRecDepth 20000 in
theorem gX3_faultOfPassing_X6_isWithin_n66 : GoodIn wsX3_faultOfPassing (wsX6_isWithin) := ggX3_faultOfPassing_X6_isWithin
theorem dX3_faultOfPassing_0 : decode cX3_faultOfPassing 0 = .ok (.iload_n 1, 1) := by decide +kernel
theorem dX3_faultOfPassing_1 : decode cX3_faultOfPassing 1 = .ok (.iconst 1, 1) := by decide +kernel
theorem dX3_faultOfPassing_2 : decode cX3_faultOfPassing 2 = .ok (.bipush 50, 2) := by decide +kernel
theorem dX3_faultOfPassing_4 : decode cX3_faultOfPassing 4 = .ok (.invokestatic 66, 3) := by decide +kernel
theorem dX3_faultOfPassing_7 : decode cX3_faultOfPassing 7 = .ok (.ifCond .ne 5, 3) := by decide +kernel
theorem dX3_faultOfPassing_10 : decode cX3_faultOfPassing 10 = .ok (.iconst 2, 1) := by decide +kernel
theorem dX3_faultOfPassing_11 : decode cX3_faultOfPassing 11 = .ok (.ireturn, 1) := by decide +kernel
theorem dX3_faultOfPassing_12 : decode cX3_faultOfPassing 12 = .ok (.aload_n 0, 1) := by decide +kernel
theorem dX3_faultOfPassing_13 : decode cX3_faultOfPassing 13 = .ok (.getfield 32, 3) := by decide +kernel
theorem dX3_faultOfPassing_16 : decode cX3_faultOfPassing 16 = .ok (.iload_n 1, 1) := by decide +kernel
theorem dX3_faultOfPassing_17 : decode cX3_faultOfPassing 17 = .ok (.iadd, 1) := by decide +kernel
theorem dX3_faultOfPassing_18 : decode cX3_faultOfPassing 18 = .ok (.sipush 9999, 3) := by decide +kernel
theorem dX3_faultOfPassing_21 : decode cX3_faultOfPassing 21 = .ok (.if_icmp .le 7, 3) := by decide +kernel
theorem dX3_faultOfPassing_24 : decode cX3_faultOfPassing 24 = .ok (.iconst 3, 1) := by decide +kernel
theorem dX3_faultOfPassing_25 : decode cX3_faultOfPassing 25 = .ok (.goto 4, 3) := by decide +kernel
theorem dX3_faultOfPassing_28 : decode cX3_faultOfPassing 28 = .ok (.iconst 0, 1) := by decide +kernel
theorem dX3_faultOfPassing_29 : decode cX3_faultOfPassing 29 = .ok (.ireturn, 1) := by decide +kernel
set_option maxRecDepth 20000 in
theorem ggX3_tell_X3_setFact : GoodIn wsX3_tell wsX3_setFact := goodIn_r _ [8, 9, 22, 23, 24, 25, 26, 27, 28, 29] (by decide +kernel) (by decide +kernel)
set_option maxRecDepth 20000 in
theorem gX3_tell_X3_setFact : GoodIn wsX3_tell (wsV RX3 91 RX3 yX3_setFact wsX3_setFact) := goodIn_app (goodIn_of _ (by decide +kernel)) ggX3_tell_X3_setFact
set_option maxRecDepth 20000 in
theorem ggX3_tell_X3_controllerAt : GoodIn wsX3_tell wsX3_controllerAt := goodIn_r _ [13, 14, 15, 22, 23, 24, 25, 26, 27, 28, 29] (by decide +kernel) (by decide +kernel)
set_option maxRecDepth 20000 in
theorem gX3_tell_X3_controllerAt : GoodIn wsX3_tell (wsV RX3 76 RX3 yX3_controllerAt wsX3_controllerAt) := goodIn_app (goodIn_of _ (by decide +kernel)) ggX3_tell_X3_controllerAt
set_option maxRecDepth 20000 in
theorem ggX3_tell_X2_receive : GoodIn wsX3_tell wsX2_receive := goodIn_r _ [20, 21, 30, 31, 32, 33, 34, 35, 36, 37] (by decide +kernel) (by decide +kernel)
set_option maxRecDepth 20000 in
theorem gX3_tell_X2_receive : GoodIn wsX3_tell (wsV RX3 98 RX2 yX2_receive wsX2_receive) := goodIn_app (goodIn_of _ (by decide +kernel)) ggX3_tell_X2_receive
theorem dX3_tell_0 : decode cX3_tell 0 = .ok (.aload_n 0, 1) := by decide +kernel
theorem dX3_tell_1 : decode cX3_tell 1 = .ok (.getfield 28, 3) := by decide +kernel
theorem dX3_tell_4 : decode cX3_tell 4 = .ok (.istore 6, 2) := by decide +kernel
theorem dX3_tell_6 : decode cX3_tell 6 = .ok (.aload_n 0, 1) := by decide +kernel
theorem dX3_tell_7 : decode cX3_tell 7 = .ok (.iload 6, 2) := by decide +kernel
theorem dX3_tell_9 : decode cX3_tell 9 = .ok (.iconst 0, 1) := by decide +kernel
theorem dX3_tell_10 : decode cX3_tell 10 = .ok (.iload_n 1, 1) := by decide +kernel
theorem dX3_tell_11 : decode cX3_tell 11 = .ok (.invokevirtual 91, 3) := by decide +kernel
theorem dX3_tell_14 : decode cX3_tell 14 = .ok (.aload_n 0, 1) := by decide +kernel
theorem dX3_tell_15 : decode cX3_tell 15 = .ok (.iload 6, 2) := by decide +kernel
theorem dX3_tell_17 : decode cX3_tell 17 = .ok (.iconst 1, 1) := by decide +kernel
theorem dX3_tell_18 : decode cX3_tell 18 = .ok (.iload_n 2, 1) := by decide +kernel
theorem dX3_tell_19 : decode cX3_tell 19 = .ok (.invokevirtual 91, 3) := by decide +kernel
theorem dX3_tell_22 : decode cX3_tell 22 = .ok (.aload_n 0, 1) := by decide +kernel
theorem dX3_tell_23 : decode cX3_tell 23 = .ok (.iload 6, 2) := by decide +kernel
theorem dX3_tell_25 : decode cX3_tell 25 = .ok (.iconst 2, 1) := by decide +kernel
theorem dX3_tell_26 : decode cX3_tell 26 = .ok (.iload_n 3, 1) := by decide +kernel
theorem dX3_tell_27 : decode cX3_tell 27 = .ok (.invokevirtual 91, 3) := by decide +kernel
theorem dX3_tell_30 : decode cX3_tell 30 = .ok (.aload_n 0, 1) := by decide +kernel
theorem dX3_tell_31 : decode cX3_tell 31 = .ok (.iload 6, 2) := by decide +kernel
theorem dX3_tell_33 : decode cX3_tell 33 = .ok (.iconst 3, 1) := by decide +kernel
theorem dX3_tell_34 : decode cX3_tell 34 = .ok (.iload 4, 2) := by decide +kernel
theorem dX3_tell_36 : decode cX3_tell 36 = .ok (.invokevirtual 91, 3) := by decide +kernel
theorem dX3_tell_39 : decode cX3_tell 39 = .ok (.aload_n 0, 1) := by decide +kernel
theorem dX3_tell_40 : decode cX3_tell 40 = .ok (.iload 6, 2) := by decide +kernel
theorem dX3_tell_42 : decode cX3_tell 42 = .ok (.iconst 4, 1) := by decide +kernel
theorem dX3_tell_43 : decode cX3_tell 43 = .ok (.iload 5, 2) := by decide +kernel
theorem dX3_tell_45 : decode cX3_tell 45 = .ok (.invokevirtual 91, 3) := by decide +kernel
theorem dX3_tell_48 : decode cX3_tell 48 = .ok (.aload_n 0, 1) := by decide +kernel
theorem dX3_tell_49 : decode cX3_tell 49 = .ok (.iload 6, 2) := by decide +kernel
theorem dX3_tell_51 : decode cX3_tell 51 = .ok (.iconst 5, 1) := by decide +kernel
theorem dX3_tell_52 : decode cX3_tell 52 = .ok (.iconst 0, 1) := by decide +kernel
theorem dX3_tell_53 : decode cX3_tell 53 = .ok (.invokevirtual 91, 3) := by decide +kernel
theorem dX3_tell_56 : decode cX3_tell 56 = .ok (.aload_n 0, 1) := by decide +kernel
theorem dX3_tell_57 : decode cX3_tell 57 = .ok (.iload 6, 2) := by decide +kernel
theorem dX3_tell_59 : decode cX3_tell 59 = .ok (.bipush 6, 2) := by decide +kernel
theorem dX3_tell_61 : decode cX3_tell 61 = .ok (.iconst (-1), 1) := by decide +kernel
theorem dX3_tell_62 : decode cX3_tell 62 = .ok (.invokevirtual 91, 3) := by decide +kernel
theorem dX3_tell_65 : decode cX3_tell 65 = .ok (.aload_n 0, 1) := by decide +kernel
theorem dX3_tell_66 : decode cX3_tell 66 = .ok (.iload 6, 2) := by decide +kernel
theorem dX3_tell_68 : decode cX3_tell 68 = .ok (.bipush 7, 2) := by decide +kernel
theorem dX3_tell_70 : decode cX3_tell 70 = .ok (.aload_n 0, 1) := by decide +kernel
theorem dX3_tell_71 : decode cX3_tell 71 = .ok (.getfield 32, 3) := by decide +kernel
theorem dX3_tell_74 : decode cX3_tell 74 = .ok (.invokevirtual 91, 3) := by decide +kernel
theorem dX3_tell_77 : decode cX3_tell 77 = .ok (.aload_n 0, 1) := by decide +kernel
theorem dX3_tell_78 : decode cX3_tell 78 = .ok (.iload 6, 2) := by decide +kernel
theorem dX3_tell_80 : decode cX3_tell 80 = .ok (.bipush 8, 2) := by decide +kernel
theorem dX3_tell_82 : decode cX3_tell 82 = .ok (.iconst (-1), 1) := by decide +kernel
theorem dX3_tell_83 : decode cX3_tell 83 = .ok (.invokevirtual 91, 3) := by decide +kernel
theorem dX3_tell_86 : decode cX3_tell 86 = .ok (.aload_n 0, 1) := by decide +kernel
theorem dX3_tell_87 : decode cX3_tell 87 = .ok (.iload 6, 2) := by decide +kernel
theorem dX3_tell_89 : decode cX3_tell 89 = .ok (.bipush 9, 2) := by decide +kernel
theorem dX3_tell_91 : decode cX3_tell 91 = .ok (.iconst 0, 1) := by decide +kernel
theorem dX3_tell_92 : decode cX3_tell 92 = .ok (.invokevirtual 91, 3) := by decide +kernel
theorem dX3_tell_95 : decode cX3_tell 95 = .ok (.iconst 0, 1) := by decide +kernel
theorem dX3_tell_96 : decode cX3_tell 96 = .ok (.istore 7, 2) := by decide +kernel
theorem dX3_tell_98 : decode cX3_tell 98 = .ok (.iload 7, 2) := by decide +kernel
theorem dX3_tell_100 : decode cX3_tell 100 = .ok (.iconst 2, 1) := by decide +kernel
theorem dX3_tell_101 : decode cX3_tell 101 = .ok (.if_icmp .ge 45, 3) := by decide +kernel
theorem dX3_tell_104 : decode cX3_tell 104 = .ok (.aload_n 0, 1) := by decide +kernel
theorem dX3_tell_105 : decode cX3_tell 105 = .ok (.iload 6, 2) := by decide +kernel
theorem dX3_tell_107 : decode cX3_tell 107 = .ok (.bipush 10, 2) := by decide +kernel
theorem dX3_tell_109 : decode cX3_tell 109 = .ok (.iload 7, 2) := by decide +kernel
theorem dX3_tell_111 : decode cX3_tell 111 = .ok (.iadd, 1) := by decide +kernel
theorem dX3_tell_112 : decode cX3_tell 112 = .ok (.aload_n 0, 1) := by decide +kernel
theorem dX3_tell_113 : decode cX3_tell 113 = .ok (.getfield 32, 3) := by decide +kernel
theorem dX3_tell_116 : decode cX3_tell 116 = .ok (.aload_n 0, 1) := by decide +kernel
theorem dX3_tell_117 : decode cX3_tell 117 = .ok (.iload 7, 2) := by decide +kernel
theorem dX3_tell_119 : decode cX3_tell 119 = .ok (.invokevirtual 76, 3) := by decide +kernel
theorem dX3_tell_122 : decode cX3_tell 122 = .ok (.getfield 95, 3) := by decide +kernel
theorem dX3_tell_125 : decode cX3_tell 125 = .ok (.iadd, 1) := by decide +kernel
theorem dX3_tell_126 : decode cX3_tell 126 = .ok (.invokevirtual 91, 3) := by decide +kernel
theorem dX3_tell_129 : decode cX3_tell 129 = .ok (.aload_n 0, 1) := by decide +kernel
theorem dX3_tell_130 : decode cX3_tell 130 = .ok (.iload 7, 2) := by decide +kernel
theorem dX3_tell_132 : decode cX3_tell 132 = .ok (.invokevirtual 76, 3) := by decide +kernel
theorem dX3_tell_135 : decode cX3_tell 135 = .ok (.iload 6, 2) := by decide +kernel
theorem dX3_tell_137 : decode cX3_tell 137 = .ok (.invokevirtual 98, 3) := by decide +kernel
theorem dX3_tell_140 : decode cX3_tell 140 = .ok (.iinc 7 1, 3) := by decide +kernel
theorem dX3_tell_143 : decode cX3_tell 143 = .ok (.goto (-45), 3) := by decide +kernel
theorem dX3_tell_146 : decode cX3_tell 146 = .ok (.aload_n 0, 1) := by decide +kernel
theorem dX3_tell_147 : decode cX3_tell 147 = .ok (.dup, 1) := by decide +kernel
theorem dX3_tell_148 : decode cX3_tell 148 = .ok (.getfield 28, 3) := by decide +kernel
theorem dX3_tell_151 : decode cX3_tell 151 = .ok (.iconst 1, 1) := by decide +kernel
theorem dX3_tell_152 : decode cX3_tell 152 = .ok (.iadd, 1) := by decide +kernel
theorem dX3_tell_153 : decode cX3_tell 153 = .ok (.putfield 28, 3) := by decide +kernel
theorem dX3_tell_156 : decode cX3_tell 156 = .ok (.iload 6, 2) := by decide +kernel
theorem dX3_tell_158 : decode cX3_tell 158 = .ok (.ireturn, 1) := by decide +kernel
set_option maxRecDepth 20000 in
theorem ggX3_callOff_X3_latestWith : GoodIn wsX3_callOff wsX3_latestWith := goodIn_r _ [5, 6, 7, 8, 9, 4, 10, 11, 16, 17, 18, 19, 20, 21, 22, 23] (by decide +kernel) (by decide +kernel)
set_option maxRecDepth 20000 in
theorem gX3_callOff_X3_latestWith : GoodIn wsX3_callOff (wsV RX3 59 RX3 yX3_latestWith wsX3_latestWith) := goodIn_app (goodIn_of _ (by decide +kernel)) ggX3_callOff_X3_latestWith
set_option maxRecDepth 20000 in
theorem ggX3_callOff_X3_setFact : GoodIn wsX3_callOff wsX3_setFact := goodIn_r _ [15, 11, 16, 17, 18, 19, 20, 21, 22, 23] (by decide +kernel) (by decide +kernel)
set_option maxRecDepth 20000 in
theorem gX3_callOff_X3_setFact : GoodIn wsX3_callOff (wsV RX3 91 RX3 yX3_setFact wsX3_setFact) := goodIn_app (goodIn_of _ (by decide +kernel)) ggX3_callOff_X3_setFact
theorem dX3_callOff_0 : decode cX3_callOff 0 = .ok (.aload_n 0, 1) := by decide +kernel
theorem dX3_callOff_1 : decode cX3_callOff 1 = .ok (.iload_n 1, 1) := by decide +kernel
theorem dX3_callOff_2 : decode cX3_callOff 2 = .ok (.iload_n 2, 1) := by decide +kernel
theorem dX3_callOff_3 : decode cX3_callOff 3 = .ok (.invokevirtual 59, 3) := by decide +kernel
theorem dX3_callOff_6 : decode cX3_callOff 6 = .ok (.istore_n 3, 1) := by decide +kernel
theorem dX3_callOff_7 : decode cX3_callOff 7 = .ok (.aload_n 0, 1) := by decide +kernel
theorem dX3_callOff_8 : decode cX3_callOff 8 = .ok (.iload_n 3, 1) := by decide +kernel
theorem dX3_callOff_9 : decode cX3_callOff 9 = .ok (.iconst 5, 1) := by decide +kernel
theorem dX3_callOff_10 : decode cX3_callOff 10 = .ok (.iconst 3, 1) := by decide +kernel
theorem dX3_callOff_11 : decode cX3_callOff 11 = .ok (.invokevirtual 91, 3) := by decide +kernel
theorem dX3_callOff_14 : decode cX3_callOff 14 = .ok (.iload_n 3, 1) := by decide +kernel
theorem dX3_callOff_15 : decode cX3_callOff 15 = .ok (.ireturn, 1) := by decide +kernel
set_option maxRecDepth 20000 in
theorem ggX3_rouse_X3_controllerAt : GoodIn wsX3_rouse wsX3_controllerAt := goodIn_r _ [6, 7, 8, 38, 39, 40, 41, 42, 43, 44, 45] (by decide +kernel) (by decide +kernel)
set_option maxRecDepth 20000 in
theorem gX3_rouse_X3_controllerAt : GoodIn wsX3_rouse (wsV RX3 76 RX3 yX3_controllerAt wsX3_controllerAt) := goodIn_app (goodIn_of _ (by decide +kernel)) ggX3_rouse_X3_controllerAt
set_option maxRecDepth 20000 in
theorem ggX3_rouse_X3_arrivedMail : GoodIn wsX3_rouse wsX3_arrivedMail := goodIn_r _ [12, 13, 14, 15, 16, 5, 17, 18, 2, 3, 4, 6, 7, 8, 19, 20, 21, 22, 23, 24, 25, 26, 27, 28, 29, 38, 39, 40, 41, 42, 43, 44, 45, 30, 31, 32, 33, 34, 35, 36, 37] (by decide +kernel) (by decide +kernel)
set_option maxRecDepth 20000 in
theorem gX3_rouse_X3_arrivedMail : GoodIn wsX3_rouse (wsV RX3 102 RX3 yX3_arrivedMail wsX3_arrivedMail) := goodIn_app (goodIn_of _ (by decide +kernel)) ggX3_rouse_X3_arrivedMail
theorem dX3_rouse_0 : decode cX3_rouse 0 = .ok (.aload_n 0, 1) := by decide +kernel
theorem dX3_rouse_1 : decode cX3_rouse 1 = .ok (.iload_n 1, 1) := by decide +kernel
theorem dX3_rouse_2 : decode cX3_rouse 2 = .ok (.invokevirtual 76, 3) := by decide +kernel
theorem dX3_rouse_5 : decode cX3_rouse 5 = .ok (.iconst 1, 1) := by decide +kernel
theorem dX3_rouse_6 : decode cX3_rouse 6 = .ok (.putfield 80, 3) := by decide +kernel
theorem dX3_rouse_9 : decode cX3_rouse 9 = .ok (.aload_n 0, 1) := by decide +kernel
theorem dX3_rouse_10 : decode cX3_rouse 10 = .ok (.iload_n 1, 1) := by decide +kernel
theorem dX3_rouse_11 : decode cX3_rouse 11 = .ok (.invokevirtual 102, 3) := by decide +kernel
theorem dX3_rouse_14 : decode cX3_rouse 14 = .ok (.ireturn, 1) := by decide +kernel
set_option maxRecDepth 20000 in
theorem ggX3_putToSleep_X3_controllerAt : GoodIn wsX3_putToSleep wsX3_controllerAt := goodIn_r _ [6, 7, 8, 38, 39, 40, 41, 42, 43, 44, 45] (by decide +kernel) (by decide +kernel)
set_option maxRecDepth 20000 in
theorem gX3_putToSleep_X3_controllerAt : GoodIn wsX3_putToSleep (wsV RX3 76 RX3 yX3_controllerAt wsX3_controllerAt) := goodIn_app (goodIn_of _ (by decide +kernel)) ggX3_putToSleep_X3_controllerAt
set_option maxRecDepth 20000 in
theorem ggX3_putToSleep_X3_arrivedMail : GoodIn wsX3_putToSleep wsX3_arrivedMail := goodIn_r _ [12, 13, 14, 15, 16, 5, 17, 18, 2, 3, 4, 6, 7, 8, 19, 20, 21, 22, 23, 24, 25, 26, 27, 28, 29, 38, 39, 40, 41, 42, 43, 44, 45, 30, 31, 32, 33, 34, 35, 36, 37] (by decide +kernel) (by decide +kernel)
set_option maxRecDepth 20000 in
theorem gX3_putToSleep_X3_arrivedMail : GoodIn wsX3_putToSleep (wsV RX3 102 RX3 yX3_arrivedMail wsX3_arrivedMail) := goodIn_app (goodIn_of _ (by decide +kernel)) ggX3_putToSleep_X3_arrivedMail
theorem dX3_putToSleep_0 : decode cX3_putToSleep 0 = .ok (.aload_n 0, 1) := by decide +kernel
theorem dX3_putToSleep_1 : decode cX3_putToSleep 1 = .ok (.iload_n 1, 1) := by decide +kernel
theorem dX3_putToSleep_2 : decode cX3_putToSleep 2 = .ok (.invokevirtual 76, 3) := by decide +kernel
theorem dX3_putToSleep_5 : decode cX3_putToSleep 5 = .ok (.iconst 0, 1) := by decide +kernel
theorem dX3_putToSleep_6 : decode cX3_putToSleep 6 = .ok (.putfield 80, 3) := by decide +kernel
theorem dX3_putToSleep_9 : decode cX3_putToSleep 9 = .ok (.aload_n 0, 1) := by decide +kernel
theorem dX3_putToSleep_10 : decode cX3_putToSleep 10 = .ok (.iload_n 1, 1) := by decide +kernel
theorem dX3_putToSleep_11 : decode cX3_putToSleep 11 = .ok (.invokevirtual 102, 3) := by decide +kernel
theorem dX3_putToSleep_14 : decode cX3_putToSleep 14 = .ok (.ireturn, 1) := by decide +kernel
set_option maxRecDepth 20000 in
theorem ggX3_changeDelay_X3_controllerAt : GoodIn wsX3_changeDelay wsX3_controllerAt := goodIn_r _ [6, 7, 8, 17, 18, 19, 20, 21, 22, 23, 24] (by decide +kernel) (by decide +kernel)
set_option maxRecDepth 20000 in
theorem gX3_changeDelay_X3_controllerAt : GoodIn wsX3_changeDelay (wsV RX3 76 RX3 yX3_controllerAt wsX3_controllerAt) := goodIn_app (goodIn_of _ (by decide +kernel)) ggX3_changeDelay_X3_controllerAt
theorem dX3_changeDelay_0 : decode cX3_changeDelay 0 = .ok (.aload_n 0, 1) := by decide +kernel
theorem dX3_changeDelay_1 : decode cX3_changeDelay 1 = .ok (.iload_n 1, 1) := by decide +kernel
theorem dX3_changeDelay_2 : decode cX3_changeDelay 2 = .ok (.invokevirtual 76, 3) := by decide +kernel
theorem dX3_changeDelay_5 : decode cX3_changeDelay 5 = .ok (.getfield 95, 3) := by decide +kernel
theorem dX3_changeDelay_8 : decode cX3_changeDelay 8 = .ok (.istore_n 3, 1) := by decide +kernel
theorem dX3_changeDelay_9 : decode cX3_changeDelay 9 = .ok (.aload_n 0, 1) := by decide +kernel
theorem dX3_changeDelay_10 : decode cX3_changeDelay 10 = .ok (.iload_n 1, 1) := by decide +kernel
theorem dX3_changeDelay_11 : decode cX3_changeDelay 11 = .ok (.invokevirtual 76, 3) := by decide +kernel
theorem dX3_changeDelay_14 : decode cX3_changeDelay 14 = .ok (.iload_n 2, 1) := by decide +kernel
theorem dX3_changeDelay_15 : decode cX3_changeDelay 15 = .ok (.putfield 95, 3) := by decide +kernel
theorem dX3_changeDelay_18 : decode cX3_changeDelay 18 = .ok (.iload_n 3, 1) := by decide +kernel
theorem dX3_changeDelay_19 : decode cX3_changeDelay 19 = .ok (.ireturn, 1) := by decide +kernel
set_option maxRecDepth 20000 in
theorem ggX3_changeAlarm_X3_controllerAt : GoodIn wsX3_changeAlarm wsX3_controllerAt := goodIn_r _ [6, 7, 8, 17, 18, 19, 20, 21, 22, 23, 24] (by decide +kernel) (by decide +kernel)
set_option maxRecDepth 20000 in
theorem gX3_changeAlarm_X3_controllerAt : GoodIn wsX3_changeAlarm (wsV RX3 76 RX3 yX3_controllerAt wsX3_controllerAt) := goodIn_app (goodIn_of _ (by decide +kernel)) ggX3_changeAlarm_X3_controllerAt
theorem dX3_changeAlarm_0 : decode cX3_changeAlarm 0 = .ok (.aload_n 0, 1) := by decide +kernel
theorem dX3_changeAlarm_1 : decode cX3_changeAlarm 1 = .ok (.iload_n 1, 1) := by decide +kernel
theorem dX3_changeAlarm_2 : decode cX3_changeAlarm 2 = .ok (.invokevirtual 76, 3) := by decide +kernel
theorem dX3_changeAlarm_5 : decode cX3_changeAlarm 5 = .ok (.getfield 105, 3) := by decide +kernel
theorem dX3_changeAlarm_8 : decode cX3_changeAlarm 8 = .ok (.istore_n 3, 1) := by decide +kernel
theorem dX3_changeAlarm_9 : decode cX3_changeAlarm 9 = .ok (.aload_n 0, 1) := by decide +kernel
theorem dX3_changeAlarm_10 : decode cX3_changeAlarm 10 = .ok (.iload_n 1, 1) := by decide +kernel
theorem dX3_changeAlarm_11 : decode cX3_changeAlarm 11 = .ok (.invokevirtual 76, 3) := by decide +kernel
theorem dX3_changeAlarm_14 : decode cX3_changeAlarm 14 = .ok (.iload_n 2, 1) := by decide +kernel
theorem dX3_changeAlarm_15 : decode cX3_changeAlarm 15 = .ok (.putfield 105, 3) := by decide +kernel
theorem dX3_changeAlarm_18 : decode cX3_changeAlarm 18 = .ok (.iload_n 3, 1) := by decide +kernel
theorem dX3_changeAlarm_19 : decode cX3_changeAlarm 19 = .ok (.ireturn, 1) := by decide +kernel
set_option maxRecDepth 20000 in
theorem ggX3_takeMailboxAway_X3_controllerAt : GoodIn wsX3_takeMailboxAway wsX3_controllerAt := goodIn_r _ [6, 7, 8, 30, 31, 32, 33, 34, 35, 36, 37] (by decide +kernel) (by decide +kernel)
set_option maxRecDepth 20000 in
theorem gX3_takeMailboxAway_X3_controllerAt : GoodIn wsX3_takeMailboxAway (wsV RX3 76 RX3 yX3_controllerAt wsX3_controllerAt) := goodIn_app (goodIn_of _ (by decide +kernel)) ggX3_takeMailboxAway_X3_controllerAt
set_option maxRecDepth 20000 in
theorem ggX3_takeMailboxAway_X2_mailSize : GoodIn wsX3_takeMailboxAway wsX2_mailSize := goodIn_r _ [13, 14, 15, 16, 17, 18, 19, 20, 21, 22, 23, 24, 25, 26, 27, 28, 29] (by decide +kernel) (by decide +kernel)
set_option maxRecDepth 20000 in
theorem gX3_takeMailboxAway_X2_mailSize : GoodIn wsX3_takeMailboxAway (wsV RX3 108 RX2 yX2_mailSize wsX2_mailSize) := goodIn_app (goodIn_of _ (by decide +kernel)) ggX3_takeMailboxAway_X2_mailSize
theorem dX3_takeMailboxAway_0 : decode cX3_takeMailboxAway 0 = .ok (.aload_n 0, 1) := by decide +kernel
theorem dX3_takeMailboxAway_1 : decode cX3_takeMailboxAway 1 = .ok (.iload_n 1, 1) := by decide +kernel
theorem dX3_takeMailboxAway_2 : decode cX3_takeMailboxAway 2 = .ok (.invokevirtual 76, 3) := by decide +kernel
theorem dX3_takeMailboxAway_5 : decode cX3_takeMailboxAway 5 = .ok (.invokevirtual 108, 3) := by decide +kernel
theorem dX3_takeMailboxAway_8 : decode cX3_takeMailboxAway 8 = .ok (.istore_n 2, 1) := by decide +kernel
theorem dX3_takeMailboxAway_9 : decode cX3_takeMailboxAway 9 = .ok (.aload_n 0, 1) := by decide +kernel
theorem dX3_takeMailboxAway_10 : decode cX3_takeMailboxAway 10 = .ok (.iload_n 1, 1) := by decide +kernel
theorem dX3_takeMailboxAway_11 : decode cX3_takeMailboxAway 11 = .ok (.invokevirtual 76, 3) := by decide +kernel
theorem dX3_takeMailboxAway_14 : decode cX3_takeMailboxAway 14 = .ok (.lconst 0, 1) := by decide +kernel
theorem dX3_takeMailboxAway_15 : decode cX3_takeMailboxAway 15 = .ok (.putfield 112, 3) := by decide +kernel
theorem dX3_takeMailboxAway_18 : decode cX3_takeMailboxAway 18 = .ok (.iload_n 2, 1) := by decide +kernel
theorem dX3_takeMailboxAway_19 : decode cX3_takeMailboxAway 19 = .ok (.ireturn, 1) := by decide +kernel
set_option maxRecDepth 20000 in
theorem ggX3_letPass_X2_heedAlarm : GoodIn wsX3_letPass wsX2_heedAlarm := goodIn_r _ [9, 10, 11, 110, 111, 112, 113, 114, 115, 116, 117] (by decide +kernel) (by decide +kernel)
set_option maxRecDepth 20000 in
theorem gX3_letPass_X2_heedAlarm : GoodIn wsX3_letPass (wsV RX3 116 RX2 yX2_heedAlarm wsX2_heedAlarm) := goodIn_app (goodIn_of _ (by decide +kernel)) ggX3_letPass_X2_heedAlarm
set_option maxRecDepth 20000 in
theorem ggX3_letPass_X3_controllerAt : GoodIn wsX3_letPass wsX3_controllerAt := goodIn_r _ [16, 1, 3, 102, 103, 104, 105, 106, 107, 108, 109] (by decide +kernel) (by decide +kernel)
set_option maxRecDepth 20000 in
theorem gX3_letPass_X3_controllerAt : GoodIn wsX3_letPass (wsV RX3 76 RX3 yX3_controllerAt wsX3_controllerAt) := goodIn_app (goodIn_of _ (by decide +kernel)) ggX3_letPass_X3_controllerAt
set_option maxRecDepth 20000 in
theorem ggX3_letPass_X3_letWork : GoodIn wsX3_letPass wsX3_letWork := goodIn_r _ [20, 21, 22, 23, 24, 15, 25, 26, 27, 28, 29, 30, 31, 32, 33, 34, 35, 36, 37, 38, 39, 40, 41, 42, 43, 44, 45, 46, 47, 48, 49, 50, 51, 2, 52, 53, 54, 55, 56, 12, 13, 14, 16, 1, 3, 57, 58, 59, 60, 61, 62, 63, 64, 65, 66, 67, 68, 69, 70, 71, 72, 73, 74, 75, 76, 8, 77, 78, 79, 80, 81, 82, 83, 84, 85, 86, 87, 88, 89, 90, 91, 92, 93, 94, 95, 96, 97, 98, 99, 100, 11, 101, 102, 103, 104, 105, 106, 107, 108, 109, 110, 111, 112, 113, 114, 115, 116, 117] (by decide +kernel) (by decide +kernel)
set_option maxRecDepth 20000 in
theorem gX3_letPass_X3_letWork : GoodIn wsX3_letPass (wsV RX3 119 RX3 yX3_letWork wsX3_letWork) := goodIn_app (goodIn_of _ (by decide +kernel)) ggX3_letPass_X3_letWork
theorem dX3_letPass_0 : decode cX3_letPass 0 = .ok (.iconst 0, 1) := by decide +kernel
theorem dX3_letPass_1 : decode cX3_letPass 1 = .ok (.istore_n 2, 1) := by decide +kernel
theorem dX3_letPass_2 : decode cX3_letPass 2 = .ok (.iconst 0, 1) := by decide +kernel
theorem dX3_letPass_3 : decode cX3_letPass 3 = .ok (.istore_n 3, 1) := by decide +kernel
theorem dX3_letPass_4 : decode cX3_letPass 4 = .ok (.iload_n 3, 1) := by decide +kernel
theorem dX3_letPass_5 : decode cX3_letPass 5 = .ok (.iload_n 1, 1) := by decide +kernel
theorem dX3_letPass_6 : decode cX3_letPass 6 = .ok (.if_icmp .ge 92, 3) := by decide +kernel
theorem dX3_letPass_9 : decode cX3_letPass 9 = .ok (.aload_n 0, 1) := by decide +kernel
theorem dX3_letPass_10 : decode cX3_letPass 10 = .ok (.getfield 21, 3) := by decide +kernel
theorem dX3_letPass_13 : decode cX3_letPass 13 = .ok (.aload_n 0, 1) := by decide +kernel
theorem dX3_letPass_14 : decode cX3_letPass 14 = .ok (.getfield 32, 3) := by decide +kernel
theorem dX3_letPass_17 : decode cX3_letPass 17 = .ok (.invokevirtual 116, 3) := by decide +kernel
theorem dX3_letPass_20 : decode cX3_letPass 20 = .ok (.aload_n 0, 1) := by decide +kernel
theorem dX3_letPass_21 : decode cX3_letPass 21 = .ok (.getfield 25, 3) := by decide +kernel
theorem dX3_letPass_24 : decode cX3_letPass 24 = .ok (.aload_n 0, 1) := by decide +kernel
theorem dX3_letPass_25 : decode cX3_letPass 25 = .ok (.getfield 32, 3) := by decide +kernel
theorem dX3_letPass_28 : decode cX3_letPass 28 = .ok (.invokevirtual 116, 3) := by decide +kernel
theorem dX3_letPass_31 : decode cX3_letPass 31 = .ok (.iconst 0, 1) := by decide +kernel
theorem dX3_letPass_32 : decode cX3_letPass 32 = .ok (.istore 4, 2) := by decide +kernel
theorem dX3_letPass_34 : decode cX3_letPass 34 = .ok (.iload 4, 2) := by decide +kernel
theorem dX3_letPass_36 : decode cX3_letPass 36 = .ok (.iconst 2, 1) := by decide +kernel
theorem dX3_letPass_37 : decode cX3_letPass 37 = .ok (.if_icmp .ge 45, 3) := by decide +kernel
theorem dX3_letPass_40 : decode cX3_letPass 40 = .ok (.aload_n 0, 1) := by decide +kernel
theorem dX3_letPass_41 : decode cX3_letPass 41 = .ok (.getfield 32, 3) := by decide +kernel
theorem dX3_letPass_44 : decode cX3_letPass 44 = .ok (.iload 4, 2) := by decide +kernel
theorem dX3_letPass_46 : decode cX3_letPass 46 = .ok (.iadd, 1) := by decide +kernel
theorem dX3_letPass_47 : decode cX3_letPass 47 = .ok (.iconst 2, 1) := by decide +kernel
theorem dX3_letPass_48 : decode cX3_letPass 48 = .ok (.irem, 1) := by decide +kernel
theorem dX3_letPass_49 : decode cX3_letPass 49 = .ok (.istore 5, 2) := by decide +kernel
theorem dX3_letPass_51 : decode cX3_letPass 51 = .ok (.aload_n 0, 1) := by decide +kernel
theorem dX3_letPass_52 : decode cX3_letPass 52 = .ok (.iload 5, 2) := by decide +kernel
theorem dX3_letPass_54 : decode cX3_letPass 54 = .ok (.invokevirtual 76, 3) := by decide +kernel
theorem dX3_letPass_57 : decode cX3_letPass 57 = .ok (.getfield 80, 3) := by decide +kernel
theorem dX3_letPass_60 : decode cX3_letPass 60 = .ok (.ifCond .eq 16, 3) := by decide +kernel
theorem dX3_letPass_63 : decode cX3_letPass 63 = .ok (.aload_n 0, 1) := by decide +kernel
theorem dX3_letPass_64 : decode cX3_letPass 64 = .ok (.iload 5, 2) := by decide +kernel
theorem dX3_letPass_66 : decode cX3_letPass 66 = .ok (.iconst 3, 1) := by decide +kernel
theorem dX3_letPass_67 : decode cX3_letPass 67 = .ok (.invokevirtual 119, 3) := by decide +kernel
theorem dX3_letPass_70 : decode cX3_letPass 70 = .ok (.ifCond .eq 6, 3) := by decide +kernel
theorem dX3_letPass_73 : decode cX3_letPass 73 = .ok (.iinc 2 1, 3) := by decide +kernel
theorem dX3_letPass_76 : decode cX3_letPass 76 = .ok (.iinc 4 1, 3) := by decide +kernel
theorem dX3_letPass_79 : decode cX3_letPass 79 = .ok (.goto (-45), 3) := by decide +kernel
theorem dX3_letPass_82 : decode cX3_letPass 82 = .ok (.aload_n 0, 1) := by decide +kernel
theorem dX3_letPass_83 : decode cX3_letPass 83 = .ok (.dup, 1) := by decide +kernel
theorem dX3_letPass_84 : decode cX3_letPass 84 = .ok (.getfield 32, 3) := by decide +kernel
theorem dX3_letPass_87 : decode cX3_letPass 87 = .ok (.iconst 1, 1) := by decide +kernel
theorem dX3_letPass_88 : decode cX3_letPass 88 = .ok (.iadd, 1) := by decide +kernel
theorem dX3_letPass_89 : decode cX3_letPass 89 = .ok (.putfield 32, 3) := by decide +kernel
theorem dX3_letPass_92 : decode cX3_letPass 92 = .ok (.iinc 3 1, 3) := by decide +kernel
theorem dX3_letPass_95 : decode cX3_letPass 95 = .ok (.goto (-91), 3) := by decide +kernel
theorem dX3_letPass_98 : decode cX3_letPass 98 = .ok (.iload_n 2, 1) := by decide +kernel
theorem dX3_letPass_99 : decode cX3_letPass 99 = .ok (.ireturn, 1) := by decide +kernel
set_option maxRecDepth 20000 in
theorem ggX3_letWork_X3_isTorn : GoodIn wsX3_letWork wsX3_isTorn := goodIn_r _ [6, 7, 8, 9, 10, 5, 11, 12, 92, 93, 94, 95, 96, 97, 98, 99] (by decide +kernel) (by decide +kernel)
set_option maxRecDepth 20000 in
theorem gX3_letWork_X3_isTorn : GoodIn wsX3_letWork (wsV RX3 122 RX3 yX3_isTorn wsX3_isTorn) := goodIn_app (goodIn_of _ (by decide +kernel)) ggX3_letWork_X3_isTorn
set_option maxRecDepth 20000 in
theorem ggX3_letWork_X3_finishTorn : GoodIn wsX3_letWork wsX3_finishTorn := goodIn_r _ [16, 17, 7, 18, 8, 9, 10, 5, 11, 12, 19, 20, 21, 22, 23, 24, 25, 26, 27, 28, 29, 30, 31, 32, 33, 34, 35, 36, 37, 38, 39, 40, 41, 42, 43, 44, 92, 93, 94, 95, 96, 97, 98, 99, 100, 101, 102, 103, 104, 105, 106, 107] (by decide +kernel) (by decide +kernel)
set_option maxRecDepth 20000 in
theorem gX3_letWork_X3_finishTorn : GoodIn wsX3_letWork (wsV RX3 126 RX3 yX3_finishTorn wsX3_finishTorn) := goodIn_app (goodIn_of _ (by decide +kernel)) ggX3_letWork_X3_finishTorn
set_option maxRecDepth 20000 in
theorem ggX3_letWork_X3_firstTakeable : GoodIn wsX3_letWork wsX3_firstTakeable := goodIn_r _ [48, 1, 49, 50, 51, 5, 52, 8, 9, 10, 11, 12, 53, 54, 55, 56, 57, 58, 59, 60, 61, 33, 39, 40, 41, 42, 43, 44, 62, 63, 64, 65, 66, 67, 92, 93, 94, 95, 96, 97, 98, 99, 100, 101, 102, 103, 104, 105, 106, 107] (by decide +kernel) (by decide +kernel)
set_option maxRecDepth 20000 in
theorem gX3_letWork_X3_firstTakeable : GoodIn wsX3_letWork (wsV RX3 129 RX3 yX3_firstTakeable wsX3_firstTakeable) := goodIn_app (goodIn_of _ (by decide +kernel)) ggX3_letWork_X3_firstTakeable
set_option maxRecDepth 20000 in
theorem ggX3_letWork_X3_sortOutMail : GoodIn wsX3_letWork wsX3_sortOutMail := goodIn_r _ [71, 72, 39, 40, 41, 5, 42, 43, 44, 58, 59, 60, 61, 33, 62, 63, 64, 65, 66, 67, 8, 9, 10, 11, 12, 49, 50, 51, 52, 73, 74, 75, 76, 77, 100, 101, 102, 103, 104, 105, 106, 107, 92, 93, 94, 95, 96, 97, 98, 99] (by decide +kernel) (by decide +kernel)
set_option maxRecDepth 20000 in
theorem gX3_letWork_X3_sortOutMail : GoodIn wsX3_letWork (wsV RX3 132 RX3 yX3_sortOutMail wsX3_sortOutMail) := goodIn_app (goodIn_of _ (by decide +kernel)) ggX3_letWork_X3_sortOutMail
set_option maxRecDepth 20000 in
theorem ggX3_letWork_X3_makeSteps : GoodIn wsX3_letWork wsX3_makeSteps := goodIn_r _ [81, 17, 82, 83, 84, 5, 85, 7, 23, 8, 9, 10, 11, 12, 24, 25, 26, 35, 36, 37, 38, 19, 20, 21, 22, 27, 28, 39, 40, 41, 42, 43, 44, 86, 87, 88, 65, 89, 90, 91, 29, 30, 31, 32, 33, 34, 73, 74, 75, 76, 67, 77, 92, 93, 94, 95, 96, 97, 98, 99, 100, 101, 102, 103, 104, 105, 106, 107] (by decide +kernel) (by decide +kernel)
set_option maxRecDepth 20000 in
theorem gX3_letWork_X3_makeSteps : GoodIn wsX3_letWork (wsV RX3 136 RX3 yX3_makeSteps wsX3_makeSteps) := goodIn_app (goodIn_of _ (by decide +kernel)) ggX3_letWork_X3_makeSteps
theorem dX3_letWork_0 : decode cX3_letWork 0 = .ok (.aload_n 0, 1) := by decide +kernel
theorem dX3_letWork_1 : decode cX3_letWork 1 = .ok (.invokevirtual 122, 3) := by decide +kernel
theorem dX3_letWork_4 : decode cX3_letWork 4 = .ok (.ifCond .eq 10, 3) := by decide +kernel
theorem dX3_letWork_7 : decode cX3_letWork 7 = .ok (.aload_n 0, 1) := by decide +kernel
theorem dX3_letWork_8 : decode cX3_letWork 8 = .ok (.iload_n 1, 1) := by decide +kernel
theorem dX3_letWork_9 : decode cX3_letWork 9 = .ok (.invokevirtual 126, 3) := by decide +kernel
theorem dX3_letWork_12 : decode cX3_letWork 12 = .ok (.iconst 1, 1) := by decide +kernel
theorem dX3_letWork_13 : decode cX3_letWork 13 = .ok (.ireturn, 1) := by decide +kernel
theorem dX3_letWork_14 : decode cX3_letWork 14 = .ok (.aload_n 0, 1) := by decide +kernel
theorem dX3_letWork_15 : decode cX3_letWork 15 = .ok (.iload_n 1, 1) := by decide +kernel
theorem dX3_letWork_16 : decode cX3_letWork 16 = .ok (.invokevirtual 129, 3) := by decide +kernel
theorem dX3_letWork_19 : decode cX3_letWork 19 = .ok (.istore_n 3, 1) := by decide +kernel
theorem dX3_letWork_20 : decode cX3_letWork 20 = .ok (.aload_n 0, 1) := by decide +kernel
theorem dX3_letWork_21 : decode cX3_letWork 21 = .ok (.iload_n 1, 1) := by decide +kernel
theorem dX3_letWork_22 : decode cX3_letWork 22 = .ok (.iload_n 3, 1) := by decide +kernel
theorem dX3_letWork_23 : decode cX3_letWork 23 = .ok (.iconst (-1), 1) := by decide +kernel
theorem dX3_letWork_24 : decode cX3_letWork 24 = .ok (.if_icmp .ne 10, 3) := by decide +kernel
theorem dX3_letWork_27 : decode cX3_letWork 27 = .ok (.aload_n 0, 1) := by decide +kernel
theorem dX3_letWork_28 : decode cX3_letWork 28 = .ok (.getfield 28, 3) := by decide +kernel
theorem dX3_letWork_31 : decode cX3_letWork 31 = .ok (.goto 4, 3) := by decide +kernel
theorem dX3_letWork_34 : decode cX3_letWork 34 = .ok (.iload_n 3, 1) := by decide +kernel
theorem dX3_letWork_35 : decode cX3_letWork 35 = .ok (.invokevirtual 132, 3) := by decide +kernel
theorem dX3_letWork_38 : decode cX3_letWork 38 = .ok (.iload_n 3, 1) := by decide +kernel
theorem dX3_letWork_39 : decode cX3_letWork 39 = .ok (.iconst (-1), 1) := by decide +kernel
theorem dX3_letWork_40 : decode cX3_letWork 40 = .ok (.if_icmp .ne 7, 3) := by decide +kernel
theorem dX3_letWork_43 : decode cX3_letWork 43 = .ok (.iconst 0, 1) := by decide +kernel
theorem dX3_letWork_44 : decode cX3_letWork 44 = .ok (.goto 10, 3) := by decide +kernel
theorem dX3_letWork_47 : decode cX3_letWork 47 = .ok (.aload_n 0, 1) := by decide +kernel
theorem dX3_letWork_48 : decode cX3_letWork 48 = .ok (.iload_n 1, 1) := by decide +kernel
theorem dX3_letWork_49 : decode cX3_letWork 49 = .ok (.iload_n 3, 1) := by decide +kernel
theorem dX3_letWork_50 : decode cX3_letWork 50 = .ok (.iload_n 2, 1) := by decide +kernel
theorem dX3_letWork_51 : decode cX3_letWork 51 = .ok (.invokevirtual 136, 3) := by decide +kernel
theorem dX3_letWork_54 : decode cX3_letWork 54 = .ok (.ireturn, 1) := by decide +kernel
set_option maxRecDepth 20000 in
theorem ggX3_finishTorn_X3_fact : GoodIn wsX3_finishTorn wsX3_fact := goodIn_r _ [8, 9, 36, 37, 38, 39, 40, 41, 42, 43] (by decide +kernel) (by decide +kernel)
set_option maxRecDepth 20000 in
theorem gX3_finishTorn_X3_fact : GoodIn wsX3_finishTorn (wsV RX3 69 RX3 yX3_fact wsX3_fact) := goodIn_app (goodIn_of _ (by decide +kernel)) ggX3_finishTorn_X3_fact
set_option maxRecDepth 20000 in
theorem ggX3_finishTorn_X3_resultOn : GoodIn wsX3_finishTorn wsX3_resultOn := goodIn_r _ [13, 14, 4, 5, 6, 7, 8, 9, 15, 16, 17, 36, 37, 38, 39, 40, 41, 42, 43] (by decide +kernel) (by decide +kernel)
set_option maxRecDepth 20000 in
theorem gX3_finishTorn_X3_resultOn : GoodIn wsX3_finishTorn (wsV RX3 139 RX3 yX3_resultOn wsX3_resultOn) := goodIn_app (goodIn_of _ (by decide +kernel)) ggX3_finishTorn_X3_resultOn
set_option maxRecDepth 20000 in
theorem ggX3_finishTorn_X6_put : GoodIn wsX3_finishTorn wsX6_put := goodIn_r _ [19] (by decide +kernel) (by decide +kernel)
set_option maxRecDepth 20000 in
theorem gX3_finishTorn_X6_put_n143 : GoodIn wsX3_finishTorn (wsX6_put) := ggX3_finishTorn_X6_put
set_option maxRecDepth 20000 in
theorem ggX3_finishTorn_X3_complete : GoodIn wsX3_finishTorn wsX3_complete := goodIn_r _ [23, 24, 25, 26, 27, 28, 7, 29, 9, 30, 31, 32, 33, 34, 35, 36, 37, 38, 39, 40, 41, 42, 43, 44, 45, 46, 47, 48, 49, 50, 51] (by decide +kernel) (by decide +kernel)
set_option maxRecDepth 20000 in
theorem gX3_finishTorn_X3_complete : GoodIn wsX3_finishTorn (wsV RX3 147 RX3 yX3_complete wsX3_complete) := goodIn_app (goodIn_of _ (by decide +kernel)) ggX3_finishTorn_X3_complete
set_option maxRecDepth 20000 in
theorem ggX3_finishTorn_X3_setFact : GoodIn wsX3_finishTorn wsX3_setFact := goodIn_r _ [29, 9, 36, 37, 38, 39, 40, 41, 42, 43] (by decide +kernel) (by decide +kernel)
set_option maxRecDepth 20000 in
theorem gX3_finishTorn_X3_setFact : GoodIn wsX3_finishTorn (wsV RX3 91 RX3 yX3_setFact wsX3_setFact) := goodIn_app (goodIn_of _ (by decide +kernel)) ggX3_finishTorn_X3_setFact
set_option maxRecDepth 20000 in
theorem ggX3_finishTorn_X3_controllerAt : GoodIn wsX3_finishTorn wsX3_controllerAt := goodIn_r _ [33, 34, 35, 36, 37, 38, 39, 40, 41, 42, 43] (by decide +kernel) (by decide +kernel)
set_option maxRecDepth 20000 in
theorem gX3_finishTorn_X3_controllerAt : GoodIn wsX3_finishTorn (wsV RX3 76 RX3 yX3_controllerAt wsX3_controllerAt) := goodIn_app (goodIn_of _ (by decide +kernel)) ggX3_finishTorn_X3_controllerAt
theorem dX3_finishTorn_0 : decode cX3_finishTorn 0 = .ok (.aload_n 0, 1) := by decide +kernel
theorem dX3_finishTorn_1 : decode cX3_finishTorn 1 = .ok (.getfield 9, 3) := by decide +kernel
theorem dX3_finishTorn_4 : decode cX3_finishTorn 4 = .ok (.aload_n 0, 1) := by decide +kernel
theorem dX3_finishTorn_5 : decode cX3_finishTorn 5 = .ok (.aload_n 0, 1) := by decide +kernel
theorem dX3_finishTorn_6 : decode cX3_finishTorn 6 = .ok (.getfield 35, 3) := by decide +kernel
theorem dX3_finishTorn_9 : decode cX3_finishTorn 9 = .ok (.iconst 3, 1) := by decide +kernel
theorem dX3_finishTorn_10 : decode cX3_finishTorn 10 = .ok (.invokevirtual 69, 3) := by decide +kernel
theorem dX3_finishTorn_13 : decode cX3_finishTorn 13 = .ok (.aload_n 0, 1) := by decide +kernel
theorem dX3_finishTorn_14 : decode cX3_finishTorn 14 = .ok (.aload_n 0, 1) := by decide +kernel
theorem dX3_finishTorn_15 : decode cX3_finishTorn 15 = .ok (.getfield 9, 3) := by decide +kernel
theorem dX3_finishTorn_18 : decode cX3_finishTorn 18 = .ok (.aload_n 0, 1) := by decide +kernel
theorem dX3_finishTorn_19 : decode cX3_finishTorn 19 = .ok (.getfield 35, 3) := by decide +kernel
theorem dX3_finishTorn_22 : decode cX3_finishTorn 22 = .ok (.invokevirtual 139, 3) := by decide +kernel
theorem dX3_finishTorn_25 : decode cX3_finishTorn 25 = .ok (.invokestatic 143, 3) := by decide +kernel
theorem dX3_finishTorn_28 : decode cX3_finishTorn 28 = .ok (.aload_n 0, 1) := by decide +kernel
theorem dX3_finishTorn_29 : decode cX3_finishTorn 29 = .ok (.iload_n 1, 1) := by decide +kernel
theorem dX3_finishTorn_30 : decode cX3_finishTorn 30 = .ok (.aload_n 0, 1) := by decide +kernel
theorem dX3_finishTorn_31 : decode cX3_finishTorn 31 = .ok (.getfield 35, 3) := by decide +kernel
theorem dX3_finishTorn_34 : decode cX3_finishTorn 34 = .ok (.invokevirtual 147, 3) := by decide +kernel
theorem dX3_finishTorn_37 : decode cX3_finishTorn 37 = .ok (.aload_n 0, 1) := by decide +kernel
theorem dX3_finishTorn_38 : decode cX3_finishTorn 38 = .ok (.aload_n 0, 1) := by decide +kernel
theorem dX3_finishTorn_39 : decode cX3_finishTorn 39 = .ok (.getfield 35, 3) := by decide +kernel
theorem dX3_finishTorn_42 : decode cX3_finishTorn 42 = .ok (.bipush 9, 2) := by decide +kernel
theorem dX3_finishTorn_44 : decode cX3_finishTorn 44 = .ok (.iconst 1, 1) := by decide +kernel
theorem dX3_finishTorn_45 : decode cX3_finishTorn 45 = .ok (.invokevirtual 91, 3) := by decide +kernel
theorem dX3_finishTorn_48 : decode cX3_finishTorn 48 = .ok (.aload_n 0, 1) := by decide +kernel
theorem dX3_finishTorn_49 : decode cX3_finishTorn 49 = .ok (.iload_n 1, 1) := by decide +kernel
theorem dX3_finishTorn_50 : decode cX3_finishTorn 50 = .ok (.invokevirtual 76, 3) := by decide +kernel
theorem dX3_finishTorn_53 : decode cX3_finishTorn 53 = .ok (.dup, 1) := by decide +kernel
theorem dX3_finishTorn_54 : decode cX3_finishTorn 54 = .ok (.getfield 150, 3) := by decide +kernel
theorem dX3_finishTorn_57 : decode cX3_finishTorn 57 = .ok (.iconst 1, 1) := by decide +kernel
theorem dX3_finishTorn_58 : decode cX3_finishTorn 58 = .ok (.iadd, 1) := by decide +kernel
theorem dX3_finishTorn_59 : decode cX3_finishTorn 59 = .ok (.putfield 150, 3) := by decide +kernel
theorem dX3_finishTorn_62 : decode cX3_finishTorn 62 = .ok (.return_, 1) := by decide +kernel
set_option maxRecDepth 20000 in
theorem ggX3_makeSteps_X3_begin : GoodIn wsX3_makeSteps wsX3_begin := goodIn_r _ [6, 7, 1, 8, 9, 10, 11, 5, 12, 13, 14, 15, 16, 17, 18, 19, 20, 52, 53, 54, 55, 56, 57, 58, 59] (by decide +kernel) (by decide +kernel)
set_option maxRecDepth 20000 in
theorem gX3_makeSteps_X3_begin : GoodIn wsX3_makeSteps (wsV RX3 153 RX3 yX3_begin wsX3_begin) := goodIn_app (goodIn_of _ (by decide +kernel)) ggX3_makeSteps_X3_begin
set_option maxRecDepth 20000 in
theorem ggX3_makeSteps_X3_fact : GoodIn wsX3_makeSteps wsX3_fact := goodIn_r _ [12, 13, 52, 53, 54, 55, 56, 57, 58, 59] (by decide +kernel) (by decide +kernel)
set_option maxRecDepth 20000 in
theorem gX3_makeSteps_X3_fact : GoodIn wsX3_makeSteps (wsV RX3 69 RX3 yX3_fact wsX3_fact) := goodIn_app (goodIn_of _ (by decide +kernel)) ggX3_makeSteps_X3_fact
set_option maxRecDepth 20000 in
theorem ggX3_makeSteps_X3_resultOn : GoodIn wsX3_makeSteps wsX3_resultOn := goodIn_r _ [24, 8, 9, 10, 11, 5, 12, 13, 14, 15, 16, 52, 53, 54, 55, 56, 57, 58, 59] (by decide +kernel) (by decide +kernel)
set_option maxRecDepth 20000 in
theorem gX3_makeSteps_X3_resultOn : GoodIn wsX3_makeSteps (wsV RX3 139 RX3 yX3_resultOn wsX3_resultOn) := goodIn_app (goodIn_of _ (by decide +kernel)) ggX3_makeSteps_X3_resultOn
set_option maxRecDepth 20000 in
theorem ggX3_makeSteps_X6_put : GoodIn wsX3_makeSteps wsX6_put := goodIn_r _ [26] (by decide +kernel) (by decide +kernel)
set_option maxRecDepth 20000 in
theorem gX3_makeSteps_X6_put_n143 : GoodIn wsX3_makeSteps (wsX6_put) := ggX3_makeSteps_X6_put
set_option maxRecDepth 20000 in
theorem ggX3_makeSteps_X3_controllerAt : GoodIn wsX3_makeSteps wsX3_controllerAt := goodIn_r _ [30, 31, 32, 52, 53, 54, 55, 56, 57, 58, 59] (by decide +kernel) (by decide +kernel)
set_option maxRecDepth 20000 in
theorem gX3_makeSteps_X3_controllerAt : GoodIn wsX3_makeSteps (wsV RX3 76 RX3 yX3_controllerAt wsX3_controllerAt) := goodIn_app (goodIn_of _ (by decide +kernel)) ggX3_makeSteps_X3_controllerAt
set_option maxRecDepth 20000 in
theorem ggX3_makeSteps_X2_fallAsleepTorn : GoodIn wsX3_makeSteps wsX2_fallAsleepTorn := goodIn_r _ [37, 38, 39, 60, 61, 62, 63, 64, 65, 66, 67] (by decide +kernel) (by decide +kernel)
set_option maxRecDepth 20000 in
theorem gX3_makeSteps_X2_fallAsleepTorn : GoodIn wsX3_makeSteps (wsV RX3 156 RX2 yX2_fallAsleepTorn wsX2_fallAsleepTorn) := goodIn_app (goodIn_of _ (by decide +kernel)) ggX3_makeSteps_X2_fallAsleepTorn
set_option maxRecDepth 20000 in
theorem ggX3_makeSteps_X3_complete : GoodIn wsX3_makeSteps wsX3_complete := goodIn_r _ [43, 44, 45, 17, 18, 19, 5, 20, 13, 27, 28, 29, 30, 31, 32, 52, 53, 54, 55, 56, 57, 58, 59, 60, 61, 62, 63, 64, 65, 66, 67] (by decide +kernel) (by decide +kernel)
set_option maxRecDepth 20000 in
theorem gX3_makeSteps_X3_complete : GoodIn wsX3_makeSteps (wsV RX3 147 RX3 yX3_complete wsX3_complete) := goodIn_app (goodIn_of _ (by decide +kernel)) ggX3_makeSteps_X3_complete
set_option maxRecDepth 20000 in
theorem ggX3_makeSteps_X2_drop : GoodIn wsX3_makeSteps wsX2_drop := goodIn_r _ [49, 50, 51, 60, 61, 62, 63, 64, 65, 66, 67] (by decide +kernel) (by decide +kernel)
set_option maxRecDepth 20000 in
theorem gX3_makeSteps_X2_drop : GoodIn wsX3_makeSteps (wsV RX3 159 RX2 yX2_drop wsX2_drop) := goodIn_app (goodIn_of _ (by decide +kernel)) ggX3_makeSteps_X2_drop
theorem dX3_makeSteps_0 : decode cX3_makeSteps 0 = .ok (.aload_n 0, 1) := by decide +kernel
theorem dX3_makeSteps_1 : decode cX3_makeSteps 1 = .ok (.iload_n 2, 1) := by decide +kernel
theorem dX3_makeSteps_2 : decode cX3_makeSteps 2 = .ok (.invokevirtual 153, 3) := by decide +kernel
theorem dX3_makeSteps_5 : decode cX3_makeSteps 5 = .ok (.iload_n 3, 1) := by decide +kernel
theorem dX3_makeSteps_6 : decode cX3_makeSteps 6 = .ok (.iconst 1, 1) := by decide +kernel
theorem dX3_makeSteps_7 : decode cX3_makeSteps 7 = .ok (.if_icmp .le 25, 3) := by decide +kernel
theorem dX3_makeSteps_10 : decode cX3_makeSteps 10 = .ok (.aload_n 0, 1) := by decide +kernel
theorem dX3_makeSteps_11 : decode cX3_makeSteps 11 = .ok (.getfield 9, 3) := by decide +kernel
theorem dX3_makeSteps_14 : decode cX3_makeSteps 14 = .ok (.aload_n 0, 1) := by decide +kernel
theorem dX3_makeSteps_15 : decode cX3_makeSteps 15 = .ok (.iload_n 2, 1) := by decide +kernel
theorem dX3_makeSteps_16 : decode cX3_makeSteps 16 = .ok (.iconst 3, 1) := by decide +kernel
theorem dX3_makeSteps_17 : decode cX3_makeSteps 17 = .ok (.invokevirtual 69, 3) := by decide +kernel
theorem dX3_makeSteps_20 : decode cX3_makeSteps 20 = .ok (.aload_n 0, 1) := by decide +kernel
theorem dX3_makeSteps_21 : decode cX3_makeSteps 21 = .ok (.aload_n 0, 1) := by decide +kernel
theorem dX3_makeSteps_22 : decode cX3_makeSteps 22 = .ok (.getfield 9, 3) := by decide +kernel
theorem dX3_makeSteps_25 : decode cX3_makeSteps 25 = .ok (.iload_n 2, 1) := by decide +kernel
theorem dX3_makeSteps_26 : decode cX3_makeSteps 26 = .ok (.invokevirtual 139, 3) := by decide +kernel
theorem dX3_makeSteps_29 : decode cX3_makeSteps 29 = .ok (.invokestatic 143, 3) := by decide +kernel
theorem dX3_makeSteps_32 : decode cX3_makeSteps 32 = .ok (.iload_n 3, 1) := by decide +kernel
theorem dX3_makeSteps_33 : decode cX3_makeSteps 33 = .ok (.iconst 3, 1) := by decide +kernel
theorem dX3_makeSteps_34 : decode cX3_makeSteps 34 = .ok (.if_icmp .ge 13, 3) := by decide +kernel
theorem dX3_makeSteps_37 : decode cX3_makeSteps 37 = .ok (.aload_n 0, 1) := by decide +kernel
theorem dX3_makeSteps_38 : decode cX3_makeSteps 38 = .ok (.iload_n 1, 1) := by decide +kernel
theorem dX3_makeSteps_39 : decode cX3_makeSteps 39 = .ok (.invokevirtual 76, 3) := by decide +kernel
theorem dX3_makeSteps_42 : decode cX3_makeSteps 42 = .ok (.invokevirtual 156, 3) := by decide +kernel
theorem dX3_makeSteps_45 : decode cX3_makeSteps 45 = .ok (.iconst 3, 1) := by decide +kernel
theorem dX3_makeSteps_46 : decode cX3_makeSteps 46 = .ok (.ireturn, 1) := by decide +kernel
theorem dX3_makeSteps_47 : decode cX3_makeSteps 47 = .ok (.aload_n 0, 1) := by decide +kernel
theorem dX3_makeSteps_48 : decode cX3_makeSteps 48 = .ok (.iload_n 1, 1) := by decide +kernel
theorem dX3_makeSteps_49 : decode cX3_makeSteps 49 = .ok (.iload_n 2, 1) := by decide +kernel
theorem dX3_makeSteps_50 : decode cX3_makeSteps 50 = .ok (.invokevirtual 147, 3) := by decide +kernel
theorem dX3_makeSteps_53 : decode cX3_makeSteps 53 = .ok (.aload_n 0, 1) := by decide +kernel
theorem dX3_makeSteps_54 : decode cX3_makeSteps 54 = .ok (.iload_n 1, 1) := by decide +kernel
theorem dX3_makeSteps_55 : decode cX3_makeSteps 55 = .ok (.invokevirtual 76, 3) := by decide +kernel
theorem dX3_makeSteps_58 : decode cX3_makeSteps 58 = .ok (.iload_n 2, 1) := by decide +kernel
theorem dX3_makeSteps_59 : decode cX3_makeSteps 59 = .ok (.invokevirtual 159, 3) := by decide +kernel
theorem dX3_makeSteps_62 : decode cX3_makeSteps 62 = .ok (.iconst 2, 1) := by decide +kernel
theorem dX3_makeSteps_63 : decode cX3_makeSteps 63 = .ok (.ireturn, 1) := by decide +kernel
set_option maxRecDepth 20000 in
theorem ggX3_begin_X3_fact : GoodIn wsX3_begin wsX3_fact := goodIn_r _ [8, 9, 17, 18, 19, 20, 21, 22, 23, 24] (by decide +kernel) (by decide +kernel)
set_option maxRecDepth 20000 in
theorem gX3_begin_X3_fact : GoodIn wsX3_begin (wsV RX3 69 RX3 yX3_fact wsX3_fact) := goodIn_app (goodIn_of _ (by decide +kernel)) ggX3_begin_X3_fact
set_option maxRecDepth 20000 in
theorem ggX3_begin_X6_at : GoodIn wsX3_begin wsX6_at := goodIn_r _ [12] (by decide +kernel) (by decide +kernel)
set_option maxRecDepth 20000 in
theorem gX3_begin_X6_at_n162 : GoodIn wsX3_begin (wsX6_at) := ggX3_begin_X6_at
set_option maxRecDepth 20000 in
theorem ggX3_begin_X3_setFact : GoodIn wsX3_begin wsX3_setFact := goodIn_r _ [16, 9, 17, 18, 19, 20, 21, 22, 23, 24] (by decide +kernel) (by decide +kernel)
set_option maxRecDepth 20000 in
theorem gX3_begin_X3_setFact : GoodIn wsX3_begin (wsV RX3 91 RX3 yX3_setFact wsX3_setFact) := goodIn_app (goodIn_of _ (by decide +kernel)) ggX3_begin_X3_setFact
theorem dX3_begin_0 : decode cX3_begin 0 = .ok (.aload_n 0, 1) := by decide +kernel
theorem dX3_begin_1 : decode cX3_begin 1 = .ok (.iload_n 1, 1) := by decide +kernel
theorem dX3_begin_2 : decode cX3_begin 2 = .ok (.putfield 35, 3) := by decide +kernel
theorem dX3_begin_5 : decode cX3_begin 5 = .ok (.aload_n 0, 1) := by decide +kernel
theorem dX3_begin_6 : decode cX3_begin 6 = .ok (.aload_n 0, 1) := by decide +kernel
theorem dX3_begin_7 : decode cX3_begin 7 = .ok (.getfield 9, 3) := by decide +kernel
theorem dX3_begin_10 : decode cX3_begin 10 = .ok (.aload_n 0, 1) := by decide +kernel
theorem dX3_begin_11 : decode cX3_begin 11 = .ok (.iload_n 1, 1) := by decide +kernel
theorem dX3_begin_12 : decode cX3_begin 12 = .ok (.iconst 3, 1) := by decide +kernel
theorem dX3_begin_13 : decode cX3_begin 13 = .ok (.invokevirtual 69, 3) := by decide +kernel
theorem dX3_begin_16 : decode cX3_begin 16 = .ok (.invokestatic 162, 3) := by decide +kernel
theorem dX3_begin_19 : decode cX3_begin 19 = .ok (.putfield 38, 3) := by decide +kernel
theorem dX3_begin_22 : decode cX3_begin 22 = .ok (.aload_n 0, 1) := by decide +kernel
theorem dX3_begin_23 : decode cX3_begin 23 = .ok (.iload_n 1, 1) := by decide +kernel
theorem dX3_begin_24 : decode cX3_begin 24 = .ok (.iconst 5, 1) := by decide +kernel
theorem dX3_begin_25 : decode cX3_begin 25 = .ok (.iconst 1, 1) := by decide +kernel
theorem dX3_begin_26 : decode cX3_begin 26 = .ok (.invokevirtual 91, 3) := by decide +kernel
theorem dX3_begin_29 : decode cX3_begin 29 = .ok (.return_, 1) := by decide +kernel
set_option maxRecDepth 20000 in
theorem ggX3_complete_X3_setFact : GoodIn wsX3_complete wsX3_setFact := goodIn_r _ [7, 8, 15, 16, 17, 18, 19, 20, 21, 22] (by decide +kernel) (by decide +kernel)
set_option maxRecDepth 20000 in
theorem gX3_complete_X3_setFact : GoodIn wsX3_complete (wsV RX3 91 RX3 yX3_setFact wsX3_setFact) := goodIn_app (goodIn_of _ (by decide +kernel)) ggX3_complete_X3_setFact
set_option maxRecDepth 20000 in
theorem ggX3_complete_X3_controllerAt : GoodIn wsX3_complete wsX3_controllerAt := goodIn_r _ [12, 13, 14, 15, 16, 17, 18, 19, 20, 21, 22] (by decide +kernel) (by decide +kernel)
set_option maxRecDepth 20000 in
theorem gX3_complete_X3_controllerAt : GoodIn wsX3_complete (wsV RX3 76 RX3 yX3_controllerAt wsX3_controllerAt) := goodIn_app (goodIn_of _ (by decide +kernel)) ggX3_complete_X3_controllerAt
theorem dX3_complete_0 : decode cX3_complete 0 = .ok (.aload_n 0, 1) := by decide +kernel
theorem dX3_complete_1 : decode cX3_complete 1 = .ok (.iload_n 2, 1) := by decide +kernel
theorem dX3_complete_2 : decode cX3_complete 2 = .ok (.iconst 5, 1) := by decide +kernel
theorem dX3_complete_3 : decode cX3_complete 3 = .ok (.iconst 2, 1) := by decide +kernel
theorem dX3_complete_4 : decode cX3_complete 4 = .ok (.invokevirtual 91, 3) := by decide +kernel
theorem dX3_complete_7 : decode cX3_complete 7 = .ok (.aload_n 0, 1) := by decide +kernel
theorem dX3_complete_8 : decode cX3_complete 8 = .ok (.iload_n 2, 1) := by decide +kernel
theorem dX3_complete_9 : decode cX3_complete 9 = .ok (.bipush 6, 2) := by decide +kernel
theorem dX3_complete_11 : decode cX3_complete 11 = .ok (.iload_n 1, 1) := by decide +kernel
theorem dX3_complete_12 : decode cX3_complete 12 = .ok (.invokevirtual 91, 3) := by decide +kernel
theorem dX3_complete_15 : decode cX3_complete 15 = .ok (.aload_n 0, 1) := by decide +kernel
theorem dX3_complete_16 : decode cX3_complete 16 = .ok (.iload_n 2, 1) := by decide +kernel
theorem dX3_complete_17 : decode cX3_complete 17 = .ok (.bipush 8, 2) := by decide +kernel
theorem dX3_complete_19 : decode cX3_complete 19 = .ok (.aload_n 0, 1) := by decide +kernel
theorem dX3_complete_20 : decode cX3_complete 20 = .ok (.getfield 32, 3) := by decide +kernel
theorem dX3_complete_23 : decode cX3_complete 23 = .ok (.invokevirtual 91, 3) := by decide +kernel
theorem dX3_complete_26 : decode cX3_complete 26 = .ok (.aload_n 0, 1) := by decide +kernel
theorem dX3_complete_27 : decode cX3_complete 27 = .ok (.iload_n 1, 1) := by decide +kernel
theorem dX3_complete_28 : decode cX3_complete 28 = .ok (.invokevirtual 76, 3) := by decide +kernel
theorem dX3_complete_31 : decode cX3_complete 31 = .ok (.dup, 1) := by decide +kernel
theorem dX3_complete_32 : decode cX3_complete 32 = .ok (.getfield 165, 3) := by decide +kernel
theorem dX3_complete_35 : decode cX3_complete 35 = .ok (.iconst 1, 1) := by decide +kernel
theorem dX3_complete_36 : decode cX3_complete 36 = .ok (.iadd, 1) := by decide +kernel
theorem dX3_complete_37 : decode cX3_complete 37 = .ok (.putfield 165, 3) := by decide +kernel
theorem dX3_complete_40 : decode cX3_complete 40 = .ok (.return_, 1) := by decide +kernel
set_option maxRecDepth 20000 in
theorem ggX3_sortOutMail_X3_controllerAt : GoodIn wsX3_sortOutMail wsX3_controllerAt := goodIn_r _ [6, 7, 8, 42, 43, 44, 45, 46, 47, 48, 49] (by decide +kernel) (by decide +kernel)
set_option maxRecDepth 20000 in
theorem gX3_sortOutMail_X3_controllerAt : GoodIn wsX3_sortOutMail (wsV RX3 76 RX3 yX3_controllerAt wsX3_controllerAt) := goodIn_app (goodIn_of _ (by decide +kernel)) ggX3_sortOutMail_X3_controllerAt
set_option maxRecDepth 20000 in
theorem ggX3_sortOutMail_X3_hasArrivedMail : GoodIn wsX3_sortOutMail wsX3_hasArrivedMail := goodIn_r _ [12, 13, 2, 3, 4, 5, 6, 7, 8, 14, 15, 16, 17, 18, 19, 20, 21, 22, 23, 24, 42, 43, 44, 45, 46, 47, 48, 49, 34, 35, 36, 37, 38, 39, 40, 41] (by decide +kernel) (by decide +kernel)
set_option maxRecDepth 20000 in
theorem gX3_sortOutMail_X3_hasArrivedMail : GoodIn wsX3_sortOutMail (wsV RX3 168 RX3 yX3_hasArrivedMail wsX3_hasArrivedMail) := goodIn_app (goodIn_of _ (by decide +kernel)) ggX3_sortOutMail_X3_hasArrivedMail
set_option maxRecDepth 20000 in
theorem ggX3_sortOutMail_X3_isOpen : GoodIn wsX3_sortOutMail wsX3_isOpen := goodIn_r _ [28, 20, 21, 22, 5, 23, 24, 42, 43, 44, 45, 46, 47, 48, 49] (by decide +kernel) (by decide +kernel)
set_option maxRecDepth 20000 in
theorem gX3_sortOutMail_X3_isOpen : GoodIn wsX3_sortOutMail (wsV RX3 62 RX3 yX3_isOpen wsX3_isOpen) := goodIn_app (goodIn_of _ (by decide +kernel)) ggX3_sortOutMail_X3_isOpen
set_option maxRecDepth 20000 in
theorem ggX3_sortOutMail_X2_drop : GoodIn wsX3_sortOutMail wsX2_drop := goodIn_r _ [32, 19, 33, 34, 35, 36, 37, 38, 39, 40, 41] (by decide +kernel) (by decide +kernel)
set_option maxRecDepth 20000 in
theorem gX3_sortOutMail_X2_drop : GoodIn wsX3_sortOutMail (wsV RX3 159 RX2 yX2_drop wsX2_drop) := goodIn_app (goodIn_of _ (by decide +kernel)) ggX3_sortOutMail_X2_drop
set_option maxRecDepth 20000 in
theorem ggX3_sortOutMail_X3_fact : GoodIn wsX3_sortOutMail wsX3_fact := goodIn_r _ [23, 24, 42, 43, 44, 45, 46, 47, 48, 49] (by decide +kernel) (by decide +kernel)
set_option maxRecDepth 20000 in
theorem gX3_sortOutMail_X3_fact : GoodIn wsX3_sortOutMail (wsV RX3 69 RX3 yX3_fact wsX3_fact) := goodIn_app (goodIn_of _ (by decide +kernel)) ggX3_sortOutMail_X3_fact
theorem dX3_sortOutMail_0 : decode cX3_sortOutMail 0 = .ok (.aload_n 0, 1) := by decide +kernel
theorem dX3_sortOutMail_1 : decode cX3_sortOutMail 1 = .ok (.iload_n 1, 1) := by decide +kernel
theorem dX3_sortOutMail_2 : decode cX3_sortOutMail 2 = .ok (.invokevirtual 76, 3) := by decide +kernel
theorem dX3_sortOutMail_5 : decode cX3_sortOutMail 5 = .ok (.astore_n 3, 1) := by decide +kernel
theorem dX3_sortOutMail_6 : decode cX3_sortOutMail 6 = .ok (.iconst 0, 1) := by decide +kernel
theorem dX3_sortOutMail_7 : decode cX3_sortOutMail 7 = .ok (.istore 4, 2) := by decide +kernel
theorem dX3_sortOutMail_9 : decode cX3_sortOutMail 9 = .ok (.iload 4, 2) := by decide +kernel
theorem dX3_sortOutMail_11 : decode cX3_sortOutMail 11 = .ok (.iload_n 2, 1) := by decide +kernel
theorem dX3_sortOutMail_12 : decode cX3_sortOutMail 12 = .ok (.if_icmp .ge 67, 3) := by decide +kernel
theorem dX3_sortOutMail_15 : decode cX3_sortOutMail 15 = .ok (.aload_n 0, 1) := by decide +kernel
theorem dX3_sortOutMail_16 : decode cX3_sortOutMail 16 = .ok (.iload_n 1, 1) := by decide +kernel
theorem dX3_sortOutMail_17 : decode cX3_sortOutMail 17 = .ok (.iload 4, 2) := by decide +kernel
theorem dX3_sortOutMail_19 : decode cX3_sortOutMail 19 = .ok (.invokevirtual 168, 3) := by decide +kernel
theorem dX3_sortOutMail_22 : decode cX3_sortOutMail 22 = .ok (.ifCond .eq 51, 3) := by decide +kernel
theorem dX3_sortOutMail_25 : decode cX3_sortOutMail 25 = .ok (.aload_n 0, 1) := by decide +kernel
theorem dX3_sortOutMail_26 : decode cX3_sortOutMail 26 = .ok (.iload 4, 2) := by decide +kernel
theorem dX3_sortOutMail_28 : decode cX3_sortOutMail 28 = .ok (.invokevirtual 62, 3) := by decide +kernel
theorem dX3_sortOutMail_31 : decode cX3_sortOutMail 31 = .ok (.ifCond .ne 42, 3) := by decide +kernel
theorem dX3_sortOutMail_34 : decode cX3_sortOutMail 34 = .ok (.aload_n 3, 1) := by decide +kernel
theorem dX3_sortOutMail_35 : decode cX3_sortOutMail 35 = .ok (.iload 4, 2) := by decide +kernel
theorem dX3_sortOutMail_37 : decode cX3_sortOutMail 37 = .ok (.invokevirtual 159, 3) := by decide +kernel
theorem dX3_sortOutMail_40 : decode cX3_sortOutMail 40 = .ok (.aload_n 0, 1) := by decide +kernel
theorem dX3_sortOutMail_41 : decode cX3_sortOutMail 41 = .ok (.iload 4, 2) := by decide +kernel
theorem dX3_sortOutMail_43 : decode cX3_sortOutMail 43 = .ok (.iconst 5, 1) := by decide +kernel
theorem dX3_sortOutMail_44 : decode cX3_sortOutMail 44 = .ok (.invokevirtual 69, 3) := by decide +kernel
theorem dX3_sortOutMail_47 : decode cX3_sortOutMail 47 = .ok (.iconst 2, 1) := by decide +kernel
theorem dX3_sortOutMail_48 : decode cX3_sortOutMail 48 = .ok (.if_icmp .ne 25, 3) := by decide +kernel
theorem dX3_sortOutMail_51 : decode cX3_sortOutMail 51 = .ok (.aload_n 0, 1) := by decide +kernel
theorem dX3_sortOutMail_52 : decode cX3_sortOutMail 52 = .ok (.iload 4, 2) := by decide +kernel
theorem dX3_sortOutMail_54 : decode cX3_sortOutMail 54 = .ok (.bipush 6, 2) := by decide +kernel
theorem dX3_sortOutMail_56 : decode cX3_sortOutMail 56 = .ok (.invokevirtual 69, 3) := by decide +kernel
theorem dX3_sortOutMail_59 : decode cX3_sortOutMail 59 = .ok (.iload_n 1, 1) := by decide +kernel
theorem dX3_sortOutMail_60 : decode cX3_sortOutMail 60 = .ok (.if_icmp .eq 13, 3) := by decide +kernel
theorem dX3_sortOutMail_63 : decode cX3_sortOutMail 63 = .ok (.aload_n 3, 1) := by decide +kernel
theorem dX3_sortOutMail_64 : decode cX3_sortOutMail 64 = .ok (.dup, 1) := by decide +kernel
theorem dX3_sortOutMail_65 : decode cX3_sortOutMail 65 = .ok (.getfield 172, 3) := by decide +kernel
theorem dX3_sortOutMail_68 : decode cX3_sortOutMail 68 = .ok (.iconst 1, 1) := by decide +kernel
theorem dX3_sortOutMail_69 : decode cX3_sortOutMail 69 = .ok (.iadd, 1) := by decide +kernel
theorem dX3_sortOutMail_70 : decode cX3_sortOutMail 70 = .ok (.putfield 172, 3) := by decide +kernel
theorem dX3_sortOutMail_73 : decode cX3_sortOutMail 73 = .ok (.iinc 4 1, 3) := by decide +kernel
theorem dX3_sortOutMail_76 : decode cX3_sortOutMail 76 = .ok (.goto (-67), 3) := by decide +kernel
theorem dX3_sortOutMail_79 : decode cX3_sortOutMail 79 = .ok (.return_, 1) := by decide +kernel
set_option maxRecDepth 20000 in
theorem ggX3_isOpen_X3_fact : GoodIn wsX3_isOpen wsX3_fact := goodIn_r _ [5, 6, 7, 8, 9, 10, 11, 12, 13, 14] (by decide +kernel) (by decide +kernel)
set_option maxRecDepth 20000 in
theorem gX3_isOpen_X3_fact : GoodIn wsX3_isOpen (wsV RX3 69 RX3 yX3_fact wsX3_fact) := goodIn_app (goodIn_of _ (by decide +kernel)) ggX3_isOpen_X3_fact
theorem dX3_isOpen_0 : decode cX3_isOpen 0 = .ok (.aload_n 0, 1) := by decide +kernel
theorem dX3_isOpen_1 : decode cX3_isOpen 1 = .ok (.iload_n 1, 1) := by decide +kernel
theorem dX3_isOpen_2 : decode cX3_isOpen 2 = .ok (.iconst 5, 1) := by decide +kernel
theorem dX3_isOpen_3 : decode cX3_isOpen 3 = .ok (.invokevirtual 69, 3) := by decide +kernel
theorem dX3_isOpen_6 : decode cX3_isOpen 6 = .ok (.istore_n 2, 1) := by decide +kernel
theorem dX3_isOpen_7 : decode cX3_isOpen 7 = .ok (.iload_n 2, 1) := by decide +kernel
theorem dX3_isOpen_8 : decode cX3_isOpen 8 = .ok (.ifCond .eq 8, 3) := by decide +kernel
theorem dX3_isOpen_11 : decode cX3_isOpen 11 = .ok (.iload_n 2, 1) := by decide +kernel
theorem dX3_isOpen_12 : decode cX3_isOpen 12 = .ok (.iconst 1, 1) := by decide +kernel
theorem dX3_isOpen_13 : decode cX3_isOpen 13 = .ok (.if_icmp .ne 7, 3) := by decide +kernel
theorem dX3_isOpen_16 : decode cX3_isOpen 16 = .ok (.iconst 1, 1) := by decide +kernel
theorem dX3_isOpen_17 : decode cX3_isOpen 17 = .ok (.goto 4, 3) := by decide +kernel
theorem dX3_isOpen_20 : decode cX3_isOpen 20 = .ok (.iconst 0, 1) := by decide +kernel
theorem dX3_isOpen_21 : decode cX3_isOpen 21 = .ok (.ireturn, 1) := by decide +kernel
set_option maxRecDepth 20000 in
theorem ggX3_hasOpenOrder_X3_countIn : GoodIn wsX3_hasOpenOrder wsX3_countIn := goodIn_r _ [5, 6, 7, 8, 9, 4, 10, 11, 12, 13, 14, 15, 16, 17, 18, 19] (by decide +kernel) (by decide +kernel)
set_option maxRecDepth 20000 in
theorem gX3_hasOpenOrder_X3_countIn : GoodIn wsX3_hasOpenOrder (wsV RX3 175 RX3 yX3_countIn wsX3_countIn) := goodIn_app (goodIn_of _ (by decide +kernel)) ggX3_hasOpenOrder_X3_countIn
theorem dX3_hasOpenOrder_0 : decode cX3_hasOpenOrder 0 = .ok (.aload_n 0, 1) := by decide +kernel
theorem dX3_hasOpenOrder_1 : decode cX3_hasOpenOrder 1 = .ok (.iconst 0, 1) := by decide +kernel
theorem dX3_hasOpenOrder_2 : decode cX3_hasOpenOrder 2 = .ok (.invokevirtual 175, 3) := by decide +kernel
theorem dX3_hasOpenOrder_5 : decode cX3_hasOpenOrder 5 = .ok (.aload_n 0, 1) := by decide +kernel
theorem dX3_hasOpenOrder_6 : decode cX3_hasOpenOrder 6 = .ok (.iconst 1, 1) := by decide +kernel
theorem dX3_hasOpenOrder_7 : decode cX3_hasOpenOrder 7 = .ok (.invokevirtual 175, 3) := by decide +kernel
theorem dX3_hasOpenOrder_10 : decode cX3_hasOpenOrder 10 = .ok (.iadd, 1) := by decide +kernel
theorem dX3_hasOpenOrder_11 : decode cX3_hasOpenOrder 11 = .ok (.ifCond .le 7, 3) := by decide +kernel
theorem dX3_hasOpenOrder_14 : decode cX3_hasOpenOrder 14 = .ok (.iconst 1, 1) := by decide +kernel
theorem dX3_hasOpenOrder_15 : decode cX3_hasOpenOrder 15 = .ok (.goto 4, 3) := by decide +kernel
theorem dX3_hasOpenOrder_18 : decode cX3_hasOpenOrder 18 = .ok (.iconst 0, 1) := by decide +kernel
theorem dX3_hasOpenOrder_19 : decode cX3_hasOpenOrder 19 = .ok (.ireturn, 1) := by decide +kernel
set_option maxRecDepth 20000 in
theorem ggX3_isTorn_X3_fact : GoodIn wsX3_isTorn wsX3_fact := goodIn_r _ [6, 7, 8, 9, 10, 11, 12, 13, 14, 15] (by decide +kernel) (by decide +kernel)
set_option maxRecDepth 20000 in
theorem gX3_isTorn_X3_fact : GoodIn wsX3_isTorn (wsV RX3 69 RX3 yX3_fact wsX3_fact) := goodIn_app (goodIn_of _ (by decide +kernel)) ggX3_isTorn_X3_fact
theorem dX3_isTorn_0 : decode cX3_isTorn 0 = .ok (.aload_n 0, 1) := by decide +kernel
theorem dX3_isTorn_1 : decode cX3_isTorn 1 = .ok (.getfield 35, 3) := by decide +kernel
theorem dX3_isTorn_4 : decode cX3_isTorn 4 = .ok (.iconst (-1), 1) := by decide +kernel
theorem dX3_isTorn_5 : decode cX3_isTorn 5 = .ok (.if_icmp .eq 20, 3) := by decide +kernel
theorem dX3_isTorn_8 : decode cX3_isTorn 8 = .ok (.aload_n 0, 1) := by decide +kernel
theorem dX3_isTorn_9 : decode cX3_isTorn 9 = .ok (.aload_n 0, 1) := by decide +kernel
theorem dX3_isTorn_10 : decode cX3_isTorn 10 = .ok (.getfield 35, 3) := by decide +kernel
theorem dX3_isTorn_13 : decode cX3_isTorn 13 = .ok (.iconst 5, 1) := by decide +kernel
theorem dX3_isTorn_14 : decode cX3_isTorn 14 = .ok (.invokevirtual 69, 3) := by decide +kernel
theorem dX3_isTorn_17 : decode cX3_isTorn 17 = .ok (.iconst 1, 1) := by decide +kernel
theorem dX3_isTorn_18 : decode cX3_isTorn 18 = .ok (.if_icmp .ne 7, 3) := by decide +kernel
theorem dX3_isTorn_21 : decode cX3_isTorn 21 = .ok (.iconst 1, 1) := by decide +kernel
theorem dX3_isTorn_22 : decode cX3_isTorn 22 = .ok (.goto 4, 3) := by decide +kernel
theorem dX3_isTorn_25 : decode cX3_isTorn 25 = .ok (.iconst 0, 1) := by decide +kernel
theorem dX3_isTorn_26 : decode cX3_isTorn 26 = .ok (.ireturn, 1) := by decide +kernel
set_option maxRecDepth 20000 in
theorem ggX3_hasArrivedMail_X3_controllerAt : GoodIn wsX3_hasArrivedMail wsX3_controllerAt := goodIn_r _ [6, 7, 8, 20, 21, 22, 23, 24, 25, 26, 27] (by decide +kernel) (by decide +kernel)
set_option maxRecDepth 20000 in
theorem gX3_hasArrivedMail_X3_controllerAt : GoodIn wsX3_hasArrivedMail (wsV RX3 76 RX3 yX3_controllerAt wsX3_controllerAt) := goodIn_app (goodIn_of _ (by decide +kernel)) ggX3_hasArrivedMail_X3_controllerAt
set_option maxRecDepth 20000 in
theorem ggX3_hasArrivedMail_X2_holds : GoodIn wsX3_hasArrivedMail wsX2_holds := goodIn_r _ [13, 14, 28, 29, 30, 31, 32, 33, 34, 35] (by decide +kernel) (by decide +kernel)
set_option maxRecDepth 20000 in
theorem gX3_hasArrivedMail_X2_holds : GoodIn wsX3_hasArrivedMail (wsV RX3 178 RX2 yX2_holds wsX2_holds) := goodIn_app (goodIn_of _ (by decide +kernel)) ggX3_hasArrivedMail_X2_holds
set_option maxRecDepth 20000 in
theorem ggX3_hasArrivedMail_X3_fact : GoodIn wsX3_hasArrivedMail wsX3_fact := goodIn_r _ [18, 19, 20, 21, 22, 23, 24, 25, 26, 27] (by decide +kernel) (by decide +kernel)
set_option maxRecDepth 20000 in
theorem gX3_hasArrivedMail_X3_fact : GoodIn wsX3_hasArrivedMail (wsV RX3 69 RX3 yX3_fact wsX3_fact) := goodIn_app (goodIn_of _ (by decide +kernel)) ggX3_hasArrivedMail_X3_fact
theorem dX3_hasArrivedMail_0 : decode cX3_hasArrivedMail 0 = .ok (.aload_n 0, 1) := by decide +kernel
theorem dX3_hasArrivedMail_1 : decode cX3_hasArrivedMail 1 = .ok (.iload_n 1, 1) := by decide +kernel
theorem dX3_hasArrivedMail_2 : decode cX3_hasArrivedMail 2 = .ok (.invokevirtual 76, 3) := by decide +kernel
theorem dX3_hasArrivedMail_5 : decode cX3_hasArrivedMail 5 = .ok (.iload_n 2, 1) := by decide +kernel
theorem dX3_hasArrivedMail_6 : decode cX3_hasArrivedMail 6 = .ok (.invokevirtual 178, 3) := by decide +kernel
theorem dX3_hasArrivedMail_9 : decode cX3_hasArrivedMail 9 = .ok (.ifCond .eq 23, 3) := by decide +kernel
theorem dX3_hasArrivedMail_12 : decode cX3_hasArrivedMail 12 = .ok (.aload_n 0, 1) := by decide +kernel
theorem dX3_hasArrivedMail_13 : decode cX3_hasArrivedMail 13 = .ok (.iload_n 2, 1) := by decide +kernel
theorem dX3_hasArrivedMail_14 : decode cX3_hasArrivedMail 14 = .ok (.bipush 10, 2) := by decide +kernel
theorem dX3_hasArrivedMail_16 : decode cX3_hasArrivedMail 16 = .ok (.iload_n 1, 1) := by decide +kernel
theorem dX3_hasArrivedMail_17 : decode cX3_hasArrivedMail 17 = .ok (.iadd, 1) := by decide +kernel
theorem dX3_hasArrivedMail_18 : decode cX3_hasArrivedMail 18 = .ok (.invokevirtual 69, 3) := by decide +kernel
theorem dX3_hasArrivedMail_21 : decode cX3_hasArrivedMail 21 = .ok (.aload_n 0, 1) := by decide +kernel
theorem dX3_hasArrivedMail_22 : decode cX3_hasArrivedMail 22 = .ok (.getfield 32, 3) := by decide +kernel
theorem dX3_hasArrivedMail_25 : decode cX3_hasArrivedMail 25 = .ok (.if_icmp .gt 7, 3) := by decide +kernel
theorem dX3_hasArrivedMail_28 : decode cX3_hasArrivedMail 28 = .ok (.iconst 1, 1) := by decide +kernel
theorem dX3_hasArrivedMail_29 : decode cX3_hasArrivedMail 29 = .ok (.goto 4, 3) := by decide +kernel
theorem dX3_hasArrivedMail_32 : decode cX3_hasArrivedMail 32 = .ok (.iconst 0, 1) := by decide +kernel
theorem dX3_hasArrivedMail_33 : decode cX3_hasArrivedMail 33 = .ok (.ireturn, 1) := by decide +kernel
set_option maxRecDepth 20000 in
theorem ggX3_latestWith_X3_fact : GoodIn wsX3_latestWith wsX3_fact := goodIn_r _ [6, 7, 8, 9, 10, 11, 12, 13, 14, 15] (by decide +kernel) (by decide +kernel)
set_option maxRecDepth 20000 in
theorem gX3_latestWith_X3_fact : GoodIn wsX3_latestWith (wsV RX3 69 RX3 yX3_fact wsX3_fact) := goodIn_app (goodIn_of _ (by decide +kernel)) ggX3_latestWith_X3_fact
theorem dX3_latestWith_0 : decode cX3_latestWith 0 = .ok (.aload_n 0, 1) := by decide +kernel
theorem dX3_latestWith_1 : decode cX3_latestWith 1 = .ok (.getfield 28, 3) := by decide +kernel
theorem dX3_latestWith_4 : decode cX3_latestWith 4 = .ok (.iconst 1, 1) := by decide +kernel
theorem dX3_latestWith_5 : decode cX3_latestWith 5 = .ok (.isub, 1) := by decide +kernel
theorem dX3_latestWith_6 : decode cX3_latestWith 6 = .ok (.istore_n 3, 1) := by decide +kernel
theorem dX3_latestWith_7 : decode cX3_latestWith 7 = .ok (.iload_n 3, 1) := by decide +kernel
theorem dX3_latestWith_8 : decode cX3_latestWith 8 = .ok (.ifCond .lt 31, 3) := by decide +kernel
theorem dX3_latestWith_11 : decode cX3_latestWith 11 = .ok (.aload_n 0, 1) := by decide +kernel
theorem dX3_latestWith_12 : decode cX3_latestWith 12 = .ok (.iload_n 3, 1) := by decide +kernel
theorem dX3_latestWith_13 : decode cX3_latestWith 13 = .ok (.iconst 0, 1) := by decide +kernel
theorem dX3_latestWith_14 : decode cX3_latestWith 14 = .ok (.invokevirtual 69, 3) := by decide +kernel
theorem dX3_latestWith_17 : decode cX3_latestWith 17 = .ok (.iload_n 1, 1) := by decide +kernel
theorem dX3_latestWith_18 : decode cX3_latestWith 18 = .ok (.if_icmp .ne 15, 3) := by decide +kernel
theorem dX3_latestWith_21 : decode cX3_latestWith 21 = .ok (.aload_n 0, 1) := by decide +kernel
theorem dX3_latestWith_22 : decode cX3_latestWith 22 = .ok (.iload_n 3, 1) := by decide +kernel
theorem dX3_latestWith_23 : decode cX3_latestWith 23 = .ok (.iconst 1, 1) := by decide +kernel
theorem dX3_latestWith_24 : decode cX3_latestWith 24 = .ok (.invokevirtual 69, 3) := by decide +kernel
theorem dX3_latestWith_27 : decode cX3_latestWith 27 = .ok (.iload_n 2, 1) := by decide +kernel
theorem dX3_latestWith_28 : decode cX3_latestWith 28 = .ok (.if_icmp .ne 5, 3) := by decide +kernel
theorem dX3_latestWith_31 : decode cX3_latestWith 31 = .ok (.iload_n 3, 1) := by decide +kernel
theorem dX3_latestWith_32 : decode cX3_latestWith 32 = .ok (.ireturn, 1) := by decide +kernel
theorem dX3_latestWith_33 : decode cX3_latestWith 33 = .ok (.iinc 3 (-1), 3) := by decide +kernel
theorem dX3_latestWith_36 : decode cX3_latestWith 36 = .ok (.goto (-29), 3) := by decide +kernel
theorem dX3_latestWith_39 : decode cX3_latestWith 39 = .ok (.iconst (-1), 1) := by decide +kernel
theorem dX3_latestWith_40 : decode cX3_latestWith 40 = .ok (.ireturn, 1) := by decide +kernel
set_option maxRecDepth 20000 in
theorem ggX3_claimOf_X3_fact : GoodIn wsX3_claimOf wsX3_fact := goodIn_r _ [6, 7, 8, 9, 10, 11, 12, 13, 14, 15] (by decide +kernel) (by decide +kernel)
set_option maxRecDepth 20000 in
theorem gX3_claimOf_X3_fact : GoodIn wsX3_claimOf (wsV RX3 69 RX3 yX3_fact wsX3_fact) := goodIn_app (goodIn_of _ (by decide +kernel)) ggX3_claimOf_X3_fact
theorem dX3_claimOf_0 : decode cX3_claimOf 0 = .ok (.aload_n 0, 1) := by decide +kernel
theorem dX3_claimOf_1 : decode cX3_claimOf 1 = .ok (.iload_n 1, 1) := by decide +kernel
theorem dX3_claimOf_2 : decode cX3_claimOf 2 = .ok (.iconst 2, 1) := by decide +kernel
theorem dX3_claimOf_3 : decode cX3_claimOf 3 = .ok (.invokevirtual 69, 3) := by decide +kernel
theorem dX3_claimOf_6 : decode cX3_claimOf 6 = .ok (.istore_n 2, 1) := by decide +kernel
theorem dX3_claimOf_7 : decode cX3_claimOf 7 = .ok (.iload_n 2, 1) := by decide +kernel
theorem dX3_claimOf_8 : decode cX3_claimOf 8 = .ok (.iconst 3, 1) := by decide +kernel
theorem dX3_claimOf_9 : decode cX3_claimOf 9 = .ok (.if_icmp .ne 6, 3) := by decide +kernel
theorem dX3_claimOf_12 : decode cX3_claimOf 12 = .ok (.ldc 181, 2) := by decide +kernel
theorem dX3_claimOf_14 : decode cX3_claimOf 14 = .ok (.ireturn, 1) := by decide +kernel
theorem dX3_claimOf_15 : decode cX3_claimOf 15 = .ok (.iconst 1, 1) := by decide +kernel
theorem dX3_claimOf_16 : decode cX3_claimOf 16 = .ok (.aload_n 0, 1) := by decide +kernel
theorem dX3_claimOf_17 : decode cX3_claimOf 17 = .ok (.iload_n 1, 1) := by decide +kernel
theorem dX3_claimOf_18 : decode cX3_claimOf 18 = .ok (.iconst 3, 1) := by decide +kernel
theorem dX3_claimOf_19 : decode cX3_claimOf 19 = .ok (.invokevirtual 69, 3) := by decide +kernel
theorem dX3_claimOf_22 : decode cX3_claimOf 22 = .ok (.ishl, 1) := by decide +kernel
theorem dX3_claimOf_23 : decode cX3_claimOf 23 = .ok (.istore_n 3, 1) := by decide +kernel
theorem dX3_claimOf_24 : decode cX3_claimOf 24 = .ok (.iload_n 2, 1) := by decide +kernel
theorem dX3_claimOf_25 : decode cX3_claimOf 25 = .ok (.iconst 2, 1) := by decide +kernel
theorem dX3_claimOf_26 : decode cX3_claimOf 26 = .ok (.if_icmp .ne 16, 3) := by decide +kernel
theorem dX3_claimOf_29 : decode cX3_claimOf 29 = .ok (.iload_n 3, 1) := by decide +kernel
theorem dX3_claimOf_30 : decode cX3_claimOf 30 = .ok (.iconst 1, 1) := by decide +kernel
theorem dX3_claimOf_31 : decode cX3_claimOf 31 = .ok (.aload_n 0, 1) := by decide +kernel
theorem dX3_claimOf_32 : decode cX3_claimOf 32 = .ok (.iload_n 1, 1) := by decide +kernel
theorem dX3_claimOf_33 : decode cX3_claimOf 33 = .ok (.iconst 4, 1) := by decide +kernel
theorem dX3_claimOf_34 : decode cX3_claimOf 34 = .ok (.invokevirtual 69, 3) := by decide +kernel
theorem dX3_claimOf_37 : decode cX3_claimOf 37 = .ok (.ishl, 1) := by decide +kernel
theorem dX3_claimOf_38 : decode cX3_claimOf 38 = .ok (.ior, 1) := by decide +kernel
theorem dX3_claimOf_39 : decode cX3_claimOf 39 = .ok (.goto 4, 3) := by decide +kernel
theorem dX3_claimOf_42 : decode cX3_claimOf 42 = .ok (.iload_n 3, 1) := by decide +kernel
theorem dX3_claimOf_43 : decode cX3_claimOf 43 = .ok (.ireturn, 1) := by decide +kernel
set_option maxRecDepth 20000 in
theorem ggX3_isAwaited_X3_isOpen : GoodIn wsX3_isAwaited wsX3_isOpen := goodIn_r _ [5, 6, 7, 8, 4, 9, 10, 16, 17, 18, 19, 20, 21, 22, 23] (by decide +kernel) (by decide +kernel)
set_option maxRecDepth 20000 in
theorem gX3_isAwaited_X3_isOpen : GoodIn wsX3_isAwaited (wsV RX3 62 RX3 yX3_isOpen wsX3_isOpen) := goodIn_app (goodIn_of _ (by decide +kernel)) ggX3_isAwaited_X3_isOpen
set_option maxRecDepth 20000 in
theorem ggX3_isAwaited_X3_claimOf : GoodIn wsX3_isAwaited wsX3_claimOf := goodIn_r _ [14, 15, 6, 7, 8, 4, 9, 10, 16, 17, 18, 19, 20, 21, 22, 23] (by decide +kernel) (by decide +kernel)
set_option maxRecDepth 20000 in
theorem gX3_isAwaited_X3_claimOf : GoodIn wsX3_isAwaited (wsV RX3 182 RX3 yX3_claimOf wsX3_claimOf) := goodIn_app (goodIn_of _ (by decide +kernel)) ggX3_isAwaited_X3_claimOf
theorem dX3_isAwaited_0 : decode cX3_isAwaited 0 = .ok (.aload_n 0, 1) := by decide +kernel
theorem dX3_isAwaited_1 : decode cX3_isAwaited 1 = .ok (.iload_n 1, 1) := by decide +kernel
theorem dX3_isAwaited_2 : decode cX3_isAwaited 2 = .ok (.invokevirtual 62, 3) := by decide +kernel
theorem dX3_isAwaited_5 : decode cX3_isAwaited 5 = .ok (.ifCond .eq 21, 3) := by decide +kernel
theorem dX3_isAwaited_8 : decode cX3_isAwaited 8 = .ok (.aload_n 0, 1) := by decide +kernel
theorem dX3_isAwaited_9 : decode cX3_isAwaited 9 = .ok (.iload_n 1, 1) := by decide +kernel
theorem dX3_isAwaited_10 : decode cX3_isAwaited 10 = .ok (.invokevirtual 182, 3) := by decide +kernel
theorem dX3_isAwaited_13 : decode cX3_isAwaited 13 = .ok (.aload_n 0, 1) := by decide +kernel
theorem dX3_isAwaited_14 : decode cX3_isAwaited 14 = .ok (.iload_n 2, 1) := by decide +kernel
theorem dX3_isAwaited_15 : decode cX3_isAwaited 15 = .ok (.invokevirtual 182, 3) := by decide +kernel
theorem dX3_isAwaited_18 : decode cX3_isAwaited 18 = .ok (.iand, 1) := by decide +kernel
theorem dX3_isAwaited_19 : decode cX3_isAwaited 19 = .ok (.ifCond .eq 7, 3) := by decide +kernel
theorem dX3_isAwaited_22 : decode cX3_isAwaited 22 = .ok (.iconst 1, 1) := by decide +kernel
theorem dX3_isAwaited_23 : decode cX3_isAwaited 23 = .ok (.goto 4, 3) := by decide +kernel
theorem dX3_isAwaited_26 : decode cX3_isAwaited 26 = .ok (.iconst 0, 1) := by decide +kernel
theorem dX3_isAwaited_27 : decode cX3_isAwaited 27 = .ok (.ireturn, 1) := by decide +kernel
set_option maxRecDepth 20000 in
theorem ggX3_firstAwaited_X3_isOpen : GoodIn wsX3_firstAwaited wsX3_isOpen := goodIn_r _ [5, 6, 7, 8, 4, 9, 10, 20, 21, 22, 23, 24, 25, 26, 27] (by decide +kernel) (by decide +kernel)
set_option maxRecDepth 20000 in
theorem gX3_firstAwaited_X3_isOpen : GoodIn wsX3_firstAwaited (wsV RX3 62 RX3 yX3_isOpen wsX3_isOpen) := goodIn_app (goodIn_of _ (by decide +kernel)) ggX3_firstAwaited_X3_isOpen
set_option maxRecDepth 20000 in
theorem ggX3_firstAwaited_X3_isAwaited : GoodIn wsX3_firstAwaited wsX3_isAwaited := goodIn_r _ [14, 1, 2, 3, 4, 5, 6, 7, 8, 9, 10, 15, 16, 17, 18, 19, 20, 21, 22, 23, 24, 25, 26, 27] (by decide +kernel) (by decide +kernel)
set_option maxRecDepth 20000 in
theorem gX3_firstAwaited_X3_isAwaited : GoodIn wsX3_firstAwaited (wsV RX3 185 RX3 yX3_isAwaited wsX3_isAwaited) := goodIn_app (goodIn_of _ (by decide +kernel)) ggX3_firstAwaited_X3_isAwaited
theorem dX3_firstAwaited_0 : decode cX3_firstAwaited 0 = .ok (.aload_n 0, 1) := by decide +kernel
theorem dX3_firstAwaited_1 : decode cX3_firstAwaited 1 = .ok (.iload_n 1, 1) := by decide +kernel
theorem dX3_firstAwaited_2 : decode cX3_firstAwaited 2 = .ok (.invokevirtual 62, 3) := by decide +kernel
theorem dX3_firstAwaited_5 : decode cX3_firstAwaited 5 = .ok (.ifCond .ne 5, 3) := by decide +kernel
theorem dX3_firstAwaited_8 : decode cX3_firstAwaited 8 = .ok (.iconst (-1), 1) := by decide +kernel
theorem dX3_firstAwaited_9 : decode cX3_firstAwaited 9 = .ok (.ireturn, 1) := by decide +kernel
theorem dX3_firstAwaited_10 : decode cX3_firstAwaited 10 = .ok (.iconst 0, 1) := by decide +kernel
theorem dX3_firstAwaited_11 : decode cX3_firstAwaited 11 = .ok (.istore_n 2, 1) := by decide +kernel
theorem dX3_firstAwaited_12 : decode cX3_firstAwaited 12 = .ok (.iload_n 2, 1) := by decide +kernel
theorem dX3_firstAwaited_13 : decode cX3_firstAwaited 13 = .ok (.iload_n 1, 1) := by decide +kernel
theorem dX3_firstAwaited_14 : decode cX3_firstAwaited 14 = .ok (.if_icmp .ge 20, 3) := by decide +kernel
theorem dX3_firstAwaited_17 : decode cX3_firstAwaited 17 = .ok (.aload_n 0, 1) := by decide +kernel
theorem dX3_firstAwaited_18 : decode cX3_firstAwaited 18 = .ok (.iload_n 2, 1) := by decide +kernel
theorem dX3_firstAwaited_19 : decode cX3_firstAwaited 19 = .ok (.iload_n 1, 1) := by decide +kernel
theorem dX3_firstAwaited_20 : decode cX3_firstAwaited 20 = .ok (.invokevirtual 185, 3) := by decide +kernel
theorem dX3_firstAwaited_23 : decode cX3_firstAwaited 23 = .ok (.ifCond .eq 5, 3) := by decide +kernel
theorem dX3_firstAwaited_26 : decode cX3_firstAwaited 26 = .ok (.iload_n 2, 1) := by decide +kernel
theorem dX3_firstAwaited_27 : decode cX3_firstAwaited 27 = .ok (.ireturn, 1) := by decide +kernel
theorem dX3_firstAwaited_28 : decode cX3_firstAwaited 28 = .ok (.iinc 2 1, 3) := by decide +kernel
theorem dX3_firstAwaited_31 : decode cX3_firstAwaited 31 = .ok (.goto (-19), 3) := by decide +kernel
theorem dX3_firstAwaited_34 : decode cX3_firstAwaited 34 = .ok (.iconst (-1), 1) := by decide +kernel
theorem dX3_firstAwaited_35 : decode cX3_firstAwaited 35 = .ok (.ireturn, 1) := by decide +kernel
set_option maxRecDepth 20000 in
theorem ggX3_firstTakeable_X3_isOpen : GoodIn wsX3_firstTakeable wsX3_isOpen := goodIn_r _ [6, 7, 8, 9, 5, 10, 11, 34, 35, 36, 37, 38, 39, 40, 41] (by decide +kernel) (by decide +kernel)
set_option maxRecDepth 20000 in
theorem gX3_firstTakeable_X3_isOpen : GoodIn wsX3_firstTakeable (wsV RX3 62 RX3 yX3_isOpen wsX3_isOpen) := goodIn_app (goodIn_of _ (by decide +kernel)) ggX3_firstTakeable_X3_isOpen
set_option maxRecDepth 20000 in
theorem ggX3_firstTakeable_X3_claimOf : GoodIn wsX3_firstTakeable wsX3_claimOf := goodIn_r _ [15, 16, 7, 8, 9, 5, 10, 11, 34, 35, 36, 37, 38, 39, 40, 41] (by decide +kernel) (by decide +kernel)
set_option maxRecDepth 20000 in
theorem gX3_firstTakeable_X3_claimOf : GoodIn wsX3_firstTakeable (wsV RX3 182 RX3 yX3_claimOf wsX3_claimOf) := goodIn_app (goodIn_of _ (by decide +kernel)) ggX3_firstTakeable_X3_claimOf
set_option maxRecDepth 20000 in
theorem ggX3_firstTakeable_X3_hasArrivedMail : GoodIn wsX3_firstTakeable wsX3_hasArrivedMail := goodIn_r _ [20, 21, 22, 23, 24, 5, 25, 26, 27, 28, 29, 30, 31, 32, 33, 7, 8, 9, 10, 11, 34, 35, 36, 37, 38, 39, 40, 41, 42, 43, 44, 45, 46, 47, 48, 49] (by decide +kernel) (by decide +kernel)
set_option maxRecDepth 20000 in
theorem gX3_firstTakeable_X3_hasArrivedMail : GoodIn wsX3_firstTakeable (wsV RX3 168 RX3 yX3_hasArrivedMail wsX3_hasArrivedMail) := goodIn_app (goodIn_of _ (by decide +kernel)) ggX3_firstTakeable_X3_hasArrivedMail
theorem dX3_firstTakeable_0 : decode cX3_firstTakeable 0 = .ok (.iconst 0, 1) := by decide +kernel
theorem dX3_firstTakeable_1 : decode cX3_firstTakeable 1 = .ok (.istore_n 2, 1) := by decide +kernel
theorem dX3_firstTakeable_2 : decode cX3_firstTakeable 2 = .ok (.iconst 0, 1) := by decide +kernel
theorem dX3_firstTakeable_3 : decode cX3_firstTakeable 3 = .ok (.istore_n 3, 1) := by decide +kernel
theorem dX3_firstTakeable_4 : decode cX3_firstTakeable 4 = .ok (.iload_n 3, 1) := by decide +kernel
theorem dX3_firstTakeable_5 : decode cX3_firstTakeable 5 = .ok (.aload_n 0, 1) := by decide +kernel
theorem dX3_firstTakeable_6 : decode cX3_firstTakeable 6 = .ok (.getfield 28, 3) := by decide +kernel
theorem dX3_firstTakeable_9 : decode cX3_firstTakeable 9 = .ok (.if_icmp .ge 47, 3) := by decide +kernel
theorem dX3_firstTakeable_12 : decode cX3_firstTakeable 12 = .ok (.aload_n 0, 1) := by decide +kernel
theorem dX3_firstTakeable_13 : decode cX3_firstTakeable 13 = .ok (.iload_n 3, 1) := by decide +kernel
theorem dX3_firstTakeable_14 : decode cX3_firstTakeable 14 = .ok (.invokevirtual 62, 3) := by decide +kernel
theorem dX3_firstTakeable_17 : decode cX3_firstTakeable 17 = .ok (.ifCond .eq 33, 3) := by decide +kernel
theorem dX3_firstTakeable_20 : decode cX3_firstTakeable 20 = .ok (.aload_n 0, 1) := by decide +kernel
theorem dX3_firstTakeable_21 : decode cX3_firstTakeable 21 = .ok (.iload_n 3, 1) := by decide +kernel
theorem dX3_firstTakeable_22 : decode cX3_firstTakeable 22 = .ok (.invokevirtual 182, 3) := by decide +kernel
theorem dX3_firstTakeable_25 : decode cX3_firstTakeable 25 = .ok (.istore 4, 2) := by decide +kernel
theorem dX3_firstTakeable_27 : decode cX3_firstTakeable 27 = .ok (.iload 4, 2) := by decide +kernel
theorem dX3_firstTakeable_29 : decode cX3_firstTakeable 29 = .ok (.iload_n 2, 1) := by decide +kernel
theorem dX3_firstTakeable_30 : decode cX3_firstTakeable 30 = .ok (.iand, 1) := by decide +kernel
theorem dX3_firstTakeable_31 : decode cX3_firstTakeable 31 = .ok (.ifCond .ne 14, 3) := by decide +kernel
theorem dX3_firstTakeable_34 : decode cX3_firstTakeable 34 = .ok (.aload_n 0, 1) := by decide +kernel
theorem dX3_firstTakeable_35 : decode cX3_firstTakeable 35 = .ok (.iload_n 1, 1) := by decide +kernel
theorem dX3_firstTakeable_36 : decode cX3_firstTakeable 36 = .ok (.iload_n 3, 1) := by decide +kernel
theorem dX3_firstTakeable_37 : decode cX3_firstTakeable 37 = .ok (.invokevirtual 168, 3) := by decide +kernel
theorem dX3_firstTakeable_40 : decode cX3_firstTakeable 40 = .ok (.ifCond .eq 5, 3) := by decide +kernel
theorem dX3_firstTakeable_43 : decode cX3_firstTakeable 43 = .ok (.iload_n 3, 1) := by decide +kernel
theorem dX3_firstTakeable_44 : decode cX3_firstTakeable 44 = .ok (.ireturn, 1) := by decide +kernel
theorem dX3_firstTakeable_45 : decode cX3_firstTakeable 45 = .ok (.iload_n 2, 1) := by decide +kernel
theorem dX3_firstTakeable_46 : decode cX3_firstTakeable 46 = .ok (.iload 4, 2) := by decide +kernel
theorem dX3_firstTakeable_48 : decode cX3_firstTakeable 48 = .ok (.ior, 1) := by decide +kernel
theorem dX3_firstTakeable_49 : decode cX3_firstTakeable 49 = .ok (.istore_n 2, 1) := by decide +kernel
theorem dX3_firstTakeable_50 : decode cX3_firstTakeable 50 = .ok (.iinc 3 1, 3) := by decide +kernel
theorem dX3_firstTakeable_53 : decode cX3_firstTakeable 53 = .ok (.goto (-49), 3) := by decide +kernel
theorem dX3_firstTakeable_56 : decode cX3_firstTakeable 56 = .ok (.iconst (-1), 1) := by decide +kernel
theorem dX3_firstTakeable_57 : decode cX3_firstTakeable 57 = .ok (.ireturn, 1) := by decide +kernel
set_option maxRecDepth 20000 in
theorem ggX3_nextOf_X3_isTorn : GoodIn wsX3_nextOf wsX3_isTorn := goodIn_r _ [6, 1, 7, 8, 9, 5, 10, 11, 43, 44, 45, 46, 47, 48, 49, 50] (by decide +kernel) (by decide +kernel)
set_option maxRecDepth 20000 in
theorem gX3_nextOf_X3_isTorn : GoodIn wsX3_nextOf (wsV RX3 122 RX3 yX3_isTorn wsX3_isTorn) := goodIn_app (goodIn_of _ (by decide +kernel)) ggX3_nextOf_X3_isTorn
set_option maxRecDepth 20000 in
theorem ggX3_nextOf_X3_firstTakeable : GoodIn wsX3_nextOf wsX3_firstTakeable := goodIn_r _ [15, 16, 17, 18, 19, 5, 20, 7, 8, 9, 10, 11, 21, 22, 23, 24, 25, 26, 27, 28, 29, 30, 31, 32, 33, 34, 35, 36, 37, 38, 39, 40, 41, 42, 43, 44, 45, 46, 47, 48, 49, 50, 51, 52, 53, 54, 55, 56, 57, 58] (by decide +kernel) (by decide +kernel)
set_option maxRecDepth 20000 in
theorem gX3_nextOf_X3_firstTakeable : GoodIn wsX3_nextOf (wsV RX3 129 RX3 yX3_firstTakeable wsX3_firstTakeable) := goodIn_app (goodIn_of _ (by decide +kernel)) ggX3_nextOf_X3_firstTakeable
theorem dX3_nextOf_0 : decode cX3_nextOf 0 = .ok (.aload_n 0, 1) := by decide +kernel
theorem dX3_nextOf_1 : decode cX3_nextOf 1 = .ok (.invokevirtual 122, 3) := by decide +kernel
theorem dX3_nextOf_4 : decode cX3_nextOf 4 = .ok (.ifCond .eq 10, 3) := by decide +kernel
theorem dX3_nextOf_7 : decode cX3_nextOf 7 = .ok (.aload_n 0, 1) := by decide +kernel
theorem dX3_nextOf_8 : decode cX3_nextOf 8 = .ok (.getfield 35, 3) := by decide +kernel
theorem dX3_nextOf_11 : decode cX3_nextOf 11 = .ok (.goto 8, 3) := by decide +kernel
theorem dX3_nextOf_14 : decode cX3_nextOf 14 = .ok (.aload_n 0, 1) := by decide +kernel
theorem dX3_nextOf_15 : decode cX3_nextOf 15 = .ok (.iload_n 1, 1) := by decide +kernel
theorem dX3_nextOf_16 : decode cX3_nextOf 16 = .ok (.invokevirtual 129, 3) := by decide +kernel
theorem dX3_nextOf_19 : decode cX3_nextOf 19 = .ok (.ireturn, 1) := by decide +kernel
set_option maxRecDepth 20000 in
theorem ggX3_whyNot_X3_nextOf : GoodIn wsX3_whyNot wsX3_nextOf := goodIn_r _ [5, 6, 7, 8, 9, 4, 10, 11, 12, 13, 14, 15, 16, 17, 18, 19, 20, 21, 22, 23, 24, 25, 26, 27, 28, 29, 30, 31, 32, 33, 34, 35, 36, 37, 38, 39, 40, 41, 42, 43, 44, 45, 46, 55, 56, 57, 58, 59, 60, 61, 62, 63, 64, 65, 66, 67, 68, 69, 70] (by decide +kernel) (by decide +kernel)
set_option maxRecDepth 20000 in
theorem gX3_whyNot_X3_nextOf : GoodIn wsX3_whyNot (wsV RX3 188 RX3 yX3_nextOf wsX3_nextOf) := goodIn_app (goodIn_of _ (by decide +kernel)) ggX3_whyNot_X3_nextOf
set_option maxRecDepth 20000 in
theorem ggX3_whyNot_X3_isOpen : GoodIn wsX3_whyNot wsX3_isOpen := goodIn_r _ [24, 11, 12, 13, 4, 14, 15, 55, 56, 57, 58, 59, 60, 61, 62] (by decide +kernel) (by decide +kernel)
set_option maxRecDepth 20000 in
theorem gX3_whyNot_X3_isOpen : GoodIn wsX3_whyNot (wsV RX3 62 RX3 yX3_isOpen wsX3_isOpen) := goodIn_app (goodIn_of _ (by decide +kernel)) ggX3_whyNot_X3_isOpen
set_option maxRecDepth 20000 in
theorem ggX3_whyNot_X3_isTorn : GoodIn wsX3_whyNot wsX3_isTorn := goodIn_r _ [10, 6, 11, 12, 13, 4, 14, 15, 55, 56, 57, 58, 59, 60, 61, 62] (by decide +kernel) (by decide +kernel)
set_option maxRecDepth 20000 in
theorem gX3_whyNot_X3_isTorn : GoodIn wsX3_whyNot (wsV RX3 122 RX3 yX3_isTorn wsX3_isTorn) := goodIn_app (goodIn_of _ (by decide +kernel)) ggX3_whyNot_X3_isTorn
set_option maxRecDepth 20000 in
theorem ggX3_whyNot_X3_controllerAt : GoodIn wsX3_whyNot wsX3_controllerAt := goodIn_r _ [38, 39, 40, 55, 56, 57, 58, 59, 60, 61, 62] (by decide +kernel) (by decide +kernel)
set_option maxRecDepth 20000 in
theorem gX3_whyNot_X3_controllerAt : GoodIn wsX3_whyNot (wsV RX3 76 RX3 yX3_controllerAt wsX3_controllerAt) := goodIn_app (goodIn_of _ (by decide +kernel)) ggX3_whyNot_X3_controllerAt
set_option maxRecDepth 20000 in
theorem ggX3_whyNot_X2_holds : GoodIn wsX3_whyNot wsX2_holds := goodIn_r _ [45, 46, 63, 64, 65, 66, 67, 68, 69, 70] (by decide +kernel) (by decide +kernel)
set_option maxRecDepth 20000 in
theorem gX3_whyNot_X2_holds : GoodIn wsX3_whyNot (wsV RX3 178 RX2 yX2_holds wsX2_holds) := goodIn_app (goodIn_of _ (by decide +kernel)) ggX3_whyNot_X2_holds
set_option maxRecDepth 20000 in
theorem ggX3_whyNot_X3_hasArrivedMail : GoodIn wsX3_whyNot wsX3_hasArrivedMail := goodIn_r _ [33, 34, 35, 36, 37, 4, 38, 39, 40, 41, 42, 43, 44, 45, 46, 11, 12, 13, 14, 15, 55, 56, 57, 58, 59, 60, 61, 62, 63, 64, 65, 66, 67, 68, 69, 70] (by decide +kernel) (by decide +kernel)
set_option maxRecDepth 20000 in
theorem gX3_whyNot_X3_hasArrivedMail : GoodIn wsX3_whyNot (wsV RX3 168 RX3 yX3_hasArrivedMail wsX3_hasArrivedMail) := goodIn_app (goodIn_of _ (by decide +kernel)) ggX3_whyNot_X3_hasArrivedMail
set_option maxRecDepth 20000 in
theorem ggX3_whyNot_X3_firstAwaited : GoodIn wsX3_whyNot wsX3_firstAwaited := goodIn_r _ [50, 21, 22, 23, 4, 24, 11, 12, 13, 14, 15, 51, 52, 53, 54, 25, 26, 27, 28, 29, 55, 56, 57, 58, 59, 60, 61, 62] (by decide +kernel) (by decide +kernel)
set_option maxRecDepth 20000 in
theorem gX3_whyNot_X3_firstAwaited : GoodIn wsX3_whyNot (wsV RX3 191 RX3 yX3_firstAwaited wsX3_firstAwaited) := goodIn_app (goodIn_of _ (by decide +kernel)) ggX3_whyNot_X3_firstAwaited
theorem dX3_whyNot_0 : decode cX3_whyNot 0 = .ok (.aload_n 0, 1) := by decide +kernel
theorem dX3_whyNot_1 : decode cX3_whyNot 1 = .ok (.iload_n 1, 1) := by decide +kernel
theorem dX3_whyNot_2 : decode cX3_whyNot 2 = .ok (.invokevirtual 188, 3) := by decide +kernel
theorem dX3_whyNot_5 : decode cX3_whyNot 5 = .ok (.iload_n 2, 1) := by decide +kernel
theorem dX3_whyNot_6 : decode cX3_whyNot 6 = .ok (.if_icmp .ne 5, 3) := by decide +kernel
theorem dX3_whyNot_9 : decode cX3_whyNot 9 = .ok (.iconst 0, 1) := by decide +kernel
theorem dX3_whyNot_10 : decode cX3_whyNot 10 = .ok (.ireturn, 1) := by decide +kernel
theorem dX3_whyNot_11 : decode cX3_whyNot 11 = .ok (.aload_n 0, 1) := by decide +kernel
theorem dX3_whyNot_12 : decode cX3_whyNot 12 = .ok (.iload_n 2, 1) := by decide +kernel
theorem dX3_whyNot_13 : decode cX3_whyNot 13 = .ok (.invokevirtual 62, 3) := by decide +kernel
theorem dX3_whyNot_16 : decode cX3_whyNot 16 = .ok (.ifCond .ne 5, 3) := by decide +kernel
theorem dX3_whyNot_19 : decode cX3_whyNot 19 = .ok (.iconst 1, 1) := by decide +kernel
theorem dX3_whyNot_20 : decode cX3_whyNot 20 = .ok (.ireturn, 1) := by decide +kernel
theorem dX3_whyNot_21 : decode cX3_whyNot 21 = .ok (.aload_n 0, 1) := by decide +kernel
theorem dX3_whyNot_22 : decode cX3_whyNot 22 = .ok (.invokevirtual 122, 3) := by decide +kernel
theorem dX3_whyNot_25 : decode cX3_whyNot 25 = .ok (.ifCond .eq 5, 3) := by decide +kernel
theorem dX3_whyNot_28 : decode cX3_whyNot 28 = .ok (.iconst 2, 1) := by decide +kernel
theorem dX3_whyNot_29 : decode cX3_whyNot 29 = .ok (.ireturn, 1) := by decide +kernel
theorem dX3_whyNot_30 : decode cX3_whyNot 30 = .ok (.aload_n 0, 1) := by decide +kernel
theorem dX3_whyNot_31 : decode cX3_whyNot 31 = .ok (.iload_n 1, 1) := by decide +kernel
theorem dX3_whyNot_32 : decode cX3_whyNot 32 = .ok (.invokevirtual 76, 3) := by decide +kernel
theorem dX3_whyNot_35 : decode cX3_whyNot 35 = .ok (.iload_n 2, 1) := by decide +kernel
theorem dX3_whyNot_36 : decode cX3_whyNot 36 = .ok (.invokevirtual 178, 3) := by decide +kernel
theorem dX3_whyNot_39 : decode cX3_whyNot 39 = .ok (.ifCond .ne 5, 3) := by decide +kernel
theorem dX3_whyNot_42 : decode cX3_whyNot 42 = .ok (.iconst 3, 1) := by decide +kernel
theorem dX3_whyNot_43 : decode cX3_whyNot 43 = .ok (.ireturn, 1) := by decide +kernel
theorem dX3_whyNot_44 : decode cX3_whyNot 44 = .ok (.aload_n 0, 1) := by decide +kernel
theorem dX3_whyNot_45 : decode cX3_whyNot 45 = .ok (.iload_n 1, 1) := by decide +kernel
theorem dX3_whyNot_46 : decode cX3_whyNot 46 = .ok (.iload_n 2, 1) := by decide +kernel
theorem dX3_whyNot_47 : decode cX3_whyNot 47 = .ok (.invokevirtual 168, 3) := by decide +kernel
theorem dX3_whyNot_50 : decode cX3_whyNot 50 = .ok (.ifCond .ne 5, 3) := by decide +kernel
theorem dX3_whyNot_53 : decode cX3_whyNot 53 = .ok (.iconst 4, 1) := by decide +kernel
theorem dX3_whyNot_54 : decode cX3_whyNot 54 = .ok (.ireturn, 1) := by decide +kernel
theorem dX3_whyNot_55 : decode cX3_whyNot 55 = .ok (.aload_n 0, 1) := by decide +kernel
theorem dX3_whyNot_56 : decode cX3_whyNot 56 = .ok (.iload_n 2, 1) := by decide +kernel
theorem dX3_whyNot_57 : decode cX3_whyNot 57 = .ok (.invokevirtual 191, 3) := by decide +kernel
theorem dX3_whyNot_60 : decode cX3_whyNot 60 = .ok (.iconst (-1), 1) := by decide +kernel
theorem dX3_whyNot_61 : decode cX3_whyNot 61 = .ok (.if_icmp .ne 8, 3) := by decide +kernel
theorem dX3_whyNot_64 : decode cX3_whyNot 64 = .ok (.bipush 6, 2) := by decide +kernel
theorem dX3_whyNot_66 : decode cX3_whyNot 66 = .ok (.goto 4, 3) := by decide +kernel
theorem dX3_whyNot_69 : decode cX3_whyNot 69 = .ok (.iconst 5, 1) := by decide +kernel
theorem dX3_whyNot_70 : decode cX3_whyNot 70 = .ok (.ireturn, 1) := by decide +kernel
set_option maxRecDepth 20000 in
theorem ggX3_reckonDepths_X3_isOpen : GoodIn wsX3_reckonDepths wsX3_isOpen := goodIn_r _ [10, 11, 12, 13, 9, 14, 15, 30, 31, 32, 33, 34, 35, 36, 37] (by decide +kernel) (by decide +kernel)
set_option maxRecDepth 20000 in
theorem gX3_reckonDepths_X3_isOpen : GoodIn wsX3_reckonDepths (wsV RX3 62 RX3 yX3_isOpen wsX3_isOpen) := goodIn_app (goodIn_of _ (by decide +kernel)) ggX3_reckonDepths_X3_isOpen
set_option maxRecDepth 20000 in
theorem ggX3_reckonDepths_X3_isAwaited : GoodIn wsX3_reckonDepths wsX3_isAwaited := goodIn_r _ [19, 6, 7, 8, 9, 10, 11, 12, 13, 14, 15, 20, 21, 22, 23, 24, 30, 31, 32, 33, 34, 35, 36, 37] (by decide +kernel) (by decide +kernel)
set_option maxRecDepth 20000 in
theorem gX3_reckonDepths_X3_isAwaited : GoodIn wsX3_reckonDepths (wsV RX3 185 RX3 yX3_isAwaited wsX3_isAwaited) := goodIn_app (goodIn_of _ (by decide +kernel)) ggX3_reckonDepths_X3_isAwaited
set_option maxRecDepth 20000 in
theorem ggX3_reckonDepths_X6_at : GoodIn wsX3_reckonDepths wsX6_at := goodIn_r _ [27] (by decide +kernel) (by decide +kernel)
set_option maxRecDepth 20000 in
theorem gX3_reckonDepths_X6_at_n162 : GoodIn wsX3_reckonDepths (wsX6_at) := ggX3_reckonDepths_X6_at
set_option maxRecDepth 20000 in
theorem ggX3_reckonDepths_X6_put : GoodIn wsX3_reckonDepths wsX6_put := goodIn_r _ [29] (by decide +kernel) (by decide +kernel)
set_option maxRecDepth 20000 in
theorem gX3_reckonDepths_X6_put_n143 : GoodIn wsX3_reckonDepths (wsX6_put) := ggX3_reckonDepths_X6_put
theorem dX3_reckonDepths_0 : decode cX3_reckonDepths 0 = .ok (.iconst 0, 1) := by decide +kernel
theorem dX3_reckonDepths_1 : decode cX3_reckonDepths 1 = .ok (.istore_n 2, 1) := by decide +kernel
theorem dX3_reckonDepths_2 : decode cX3_reckonDepths 2 = .ok (.iload_n 2, 1) := by decide +kernel
theorem dX3_reckonDepths_3 : decode cX3_reckonDepths 3 = .ok (.aload_n 0, 1) := by decide +kernel
theorem dX3_reckonDepths_4 : decode cX3_reckonDepths 4 = .ok (.getfield 28, 3) := by decide +kernel
theorem dX3_reckonDepths_7 : decode cX3_reckonDepths 7 = .ok (.if_icmp .ge 72, 3) := by decide +kernel
theorem dX3_reckonDepths_10 : decode cX3_reckonDepths 10 = .ok (.aload_n 0, 1) := by decide +kernel
theorem dX3_reckonDepths_11 : decode cX3_reckonDepths 11 = .ok (.iload_n 2, 1) := by decide +kernel
theorem dX3_reckonDepths_12 : decode cX3_reckonDepths 12 = .ok (.invokevirtual 62, 3) := by decide +kernel
theorem dX3_reckonDepths_15 : decode cX3_reckonDepths 15 = .ok (.ifCond .eq 7, 3) := by decide +kernel
theorem dX3_reckonDepths_18 : decode cX3_reckonDepths 18 = .ok (.iconst 0, 1) := by decide +kernel
theorem dX3_reckonDepths_19 : decode cX3_reckonDepths 19 = .ok (.goto 4, 3) := by decide +kernel
theorem dX3_reckonDepths_22 : decode cX3_reckonDepths 22 = .ok (.iconst (-1), 1) := by decide +kernel
theorem dX3_reckonDepths_23 : decode cX3_reckonDepths 23 = .ok (.istore_n 3, 1) := by decide +kernel
theorem dX3_reckonDepths_24 : decode cX3_reckonDepths 24 = .ok (.iconst 0, 1) := by decide +kernel
theorem dX3_reckonDepths_25 : decode cX3_reckonDepths 25 = .ok (.istore 4, 2) := by decide +kernel
theorem dX3_reckonDepths_27 : decode cX3_reckonDepths 27 = .ok (.iload 4, 2) := by decide +kernel
theorem dX3_reckonDepths_29 : decode cX3_reckonDepths 29 = .ok (.iload_n 2, 1) := by decide +kernel
theorem dX3_reckonDepths_30 : decode cX3_reckonDepths 30 = .ok (.if_icmp .ge 37, 3) := by decide +kernel
theorem dX3_reckonDepths_33 : decode cX3_reckonDepths 33 = .ok (.iload_n 3, 1) := by decide +kernel
theorem dX3_reckonDepths_34 : decode cX3_reckonDepths 34 = .ok (.iconst (-1), 1) := by decide +kernel
theorem dX3_reckonDepths_35 : decode cX3_reckonDepths 35 = .ok (.if_icmp .eq 32, 3) := by decide +kernel
theorem dX3_reckonDepths_38 : decode cX3_reckonDepths 38 = .ok (.aload_n 0, 1) := by decide +kernel
theorem dX3_reckonDepths_39 : decode cX3_reckonDepths 39 = .ok (.iload 4, 2) := by decide +kernel
theorem dX3_reckonDepths_41 : decode cX3_reckonDepths 41 = .ok (.iload_n 2, 1) := by decide +kernel
theorem dX3_reckonDepths_42 : decode cX3_reckonDepths 42 = .ok (.invokevirtual 185, 3) := by decide +kernel
theorem dX3_reckonDepths_45 : decode cX3_reckonDepths 45 = .ok (.ifCond .eq 16, 3) := by decide +kernel
theorem dX3_reckonDepths_48 : decode cX3_reckonDepths 48 = .ok (.iload_n 3, 1) := by decide +kernel
theorem dX3_reckonDepths_49 : decode cX3_reckonDepths 49 = .ok (.iconst 1, 1) := by decide +kernel
theorem dX3_reckonDepths_50 : decode cX3_reckonDepths 50 = .ok (.aload_n 1, 1) := by decide +kernel
theorem dX3_reckonDepths_51 : decode cX3_reckonDepths 51 = .ok (.iload 4, 2) := by decide +kernel
theorem dX3_reckonDepths_53 : decode cX3_reckonDepths 53 = .ok (.invokestatic 162, 3) := by decide +kernel
theorem dX3_reckonDepths_56 : decode cX3_reckonDepths 56 = .ok (.iadd, 1) := by decide +kernel
theorem dX3_reckonDepths_57 : decode cX3_reckonDepths 57 = .ok (.invokestatic 194, 3) := by decide +kernel
theorem dX3_reckonDepths_60 : decode cX3_reckonDepths 60 = .ok (.istore_n 3, 1) := by decide +kernel
theorem dX3_reckonDepths_61 : decode cX3_reckonDepths 61 = .ok (.iinc 4 1, 3) := by decide +kernel
theorem dX3_reckonDepths_64 : decode cX3_reckonDepths 64 = .ok (.goto (-37), 3) := by decide +kernel
theorem dX3_reckonDepths_67 : decode cX3_reckonDepths 67 = .ok (.aload_n 1, 1) := by decide +kernel
theorem dX3_reckonDepths_68 : decode cX3_reckonDepths 68 = .ok (.iload_n 2, 1) := by decide +kernel
theorem dX3_reckonDepths_69 : decode cX3_reckonDepths 69 = .ok (.iload_n 3, 1) := by decide +kernel
theorem dX3_reckonDepths_70 : decode cX3_reckonDepths 70 = .ok (.invokestatic 143, 3) := by decide +kernel
theorem dX3_reckonDepths_73 : decode cX3_reckonDepths 73 = .ok (.iinc 2 1, 3) := by decide +kernel
theorem dX3_reckonDepths_76 : decode cX3_reckonDepths 76 = .ok (.goto (-74), 3) := by decide +kernel
theorem dX3_reckonDepths_79 : decode cX3_reckonDepths 79 = .ok (.return_, 1) := by decide +kernel
set_option maxRecDepth 20000 in
theorem ggX3_reckonFinals_X6_at : GoodIn wsX3_reckonFinals wsX6_at := goodIn_r _ [5] (by decide +kernel) (by decide +kernel)
set_option maxRecDepth 20000 in
theorem gX3_reckonFinals_X6_at_n162 : GoodIn wsX3_reckonFinals (wsX6_at) := ggX3_reckonFinals_X6_at
set_option maxRecDepth 20000 in
theorem ggX3_reckonFinals_X6_put : GoodIn wsX3_reckonFinals wsX6_put := goodIn_r _ [7] (by decide +kernel) (by decide +kernel)
set_option maxRecDepth 20000 in
theorem gX3_reckonFinals_X6_put_n143 : GoodIn wsX3_reckonFinals (wsX6_put) := ggX3_reckonFinals_X6_put
set_option maxRecDepth 20000 in
theorem ggX3_reckonFinals_X3_isOpen : GoodIn wsX3_reckonFinals wsX3_isOpen := goodIn_r _ [12, 13, 14, 15, 11, 16, 17, 23, 24, 25, 26, 27, 28, 29, 30] (by decide +kernel) (by decide +kernel)
set_option maxRecDepth 20000 in
theorem gX3_reckonFinals_X3_isOpen : GoodIn wsX3_reckonFinals (wsV RX3 62 RX3 yX3_isOpen wsX3_isOpen) := goodIn_app (goodIn_of _ (by decide +kernel)) ggX3_reckonFinals_X3_isOpen
set_option maxRecDepth 20000 in
theorem ggX3_reckonFinals_X3_fact : GoodIn wsX3_reckonFinals wsX3_fact := goodIn_r _ [16, 17, 23, 24, 25, 26, 27, 28, 29, 30] (by decide +kernel) (by decide +kernel)
set_option maxRecDepth 20000 in
theorem gX3_reckonFinals_X3_fact : GoodIn wsX3_reckonFinals (wsV RX3 69 RX3 yX3_fact wsX3_fact) := goodIn_app (goodIn_of _ (by decide +kernel)) ggX3_reckonFinals_X3_fact
set_option maxRecDepth 20000 in
theorem ggX3_reckonFinals_X3_resultOn : GoodIn wsX3_reckonFinals wsX3_resultOn := goodIn_r _ [21, 22, 13, 14, 15, 11, 16, 17, 3, 4, 5, 23, 24, 25, 26, 27, 28, 29, 30] (by decide +kernel) (by decide +kernel)
set_option maxRecDepth 20000 in
theorem gX3_reckonFinals_X3_resultOn : GoodIn wsX3_reckonFinals (wsV RX3 139 RX3 yX3_resultOn wsX3_resultOn) := goodIn_app (goodIn_of _ (by decide +kernel)) ggX3_reckonFinals_X3_resultOn
theorem dX3_reckonFinals_0 : decode cX3_reckonFinals 0 = .ok (.iconst 0, 1) := by decide +kernel
theorem dX3_reckonFinals_1 : decode cX3_reckonFinals 1 = .ok (.istore_n 2, 1) := by decide +kernel
theorem dX3_reckonFinals_2 : decode cX3_reckonFinals 2 = .ok (.iload_n 2, 1) := by decide +kernel
theorem dX3_reckonFinals_3 : decode cX3_reckonFinals 3 = .ok (.bipush 16, 2) := by decide +kernel
theorem dX3_reckonFinals_5 : decode cX3_reckonFinals 5 = .ok (.if_icmp .ge 22, 3) := by decide +kernel
theorem dX3_reckonFinals_8 : decode cX3_reckonFinals 8 = .ok (.aload_n 1, 1) := by decide +kernel
theorem dX3_reckonFinals_9 : decode cX3_reckonFinals 9 = .ok (.iload_n 2, 1) := by decide +kernel
theorem dX3_reckonFinals_10 : decode cX3_reckonFinals 10 = .ok (.aload_n 0, 1) := by decide +kernel
theorem dX3_reckonFinals_11 : decode cX3_reckonFinals 11 = .ok (.getfield 9, 3) := by decide +kernel
theorem dX3_reckonFinals_14 : decode cX3_reckonFinals 14 = .ok (.iload_n 2, 1) := by decide +kernel
theorem dX3_reckonFinals_15 : decode cX3_reckonFinals 15 = .ok (.invokestatic 162, 3) := by decide +kernel
theorem dX3_reckonFinals_18 : decode cX3_reckonFinals 18 = .ok (.invokestatic 143, 3) := by decide +kernel
theorem dX3_reckonFinals_21 : decode cX3_reckonFinals 21 = .ok (.iinc 2 1, 3) := by decide +kernel
theorem dX3_reckonFinals_24 : decode cX3_reckonFinals 24 = .ok (.goto (-22), 3) := by decide +kernel
theorem dX3_reckonFinals_27 : decode cX3_reckonFinals 27 = .ok (.iconst 0, 1) := by decide +kernel
theorem dX3_reckonFinals_28 : decode cX3_reckonFinals 28 = .ok (.istore_n 2, 1) := by decide +kernel
theorem dX3_reckonFinals_29 : decode cX3_reckonFinals 29 = .ok (.iload_n 2, 1) := by decide +kernel
theorem dX3_reckonFinals_30 : decode cX3_reckonFinals 30 = .ok (.aload_n 0, 1) := by decide +kernel
theorem dX3_reckonFinals_31 : decode cX3_reckonFinals 31 = .ok (.getfield 28, 3) := by decide +kernel
theorem dX3_reckonFinals_34 : decode cX3_reckonFinals 34 = .ok (.if_icmp .ge 33, 3) := by decide +kernel
theorem dX3_reckonFinals_37 : decode cX3_reckonFinals 37 = .ok (.aload_n 0, 1) := by decide +kernel
theorem dX3_reckonFinals_38 : decode cX3_reckonFinals 38 = .ok (.iload_n 2, 1) := by decide +kernel
theorem dX3_reckonFinals_39 : decode cX3_reckonFinals 39 = .ok (.invokevirtual 62, 3) := by decide +kernel
theorem dX3_reckonFinals_42 : decode cX3_reckonFinals 42 = .ok (.ifCond .eq 19, 3) := by decide +kernel
theorem dX3_reckonFinals_45 : decode cX3_reckonFinals 45 = .ok (.aload_n 1, 1) := by decide +kernel
theorem dX3_reckonFinals_46 : decode cX3_reckonFinals 46 = .ok (.aload_n 0, 1) := by decide +kernel
theorem dX3_reckonFinals_47 : decode cX3_reckonFinals 47 = .ok (.iload_n 2, 1) := by decide +kernel
theorem dX3_reckonFinals_48 : decode cX3_reckonFinals 48 = .ok (.iconst 3, 1) := by decide +kernel
theorem dX3_reckonFinals_49 : decode cX3_reckonFinals 49 = .ok (.invokevirtual 69, 3) := by decide +kernel
theorem dX3_reckonFinals_52 : decode cX3_reckonFinals 52 = .ok (.aload_n 0, 1) := by decide +kernel
theorem dX3_reckonFinals_53 : decode cX3_reckonFinals 53 = .ok (.aload_n 1, 1) := by decide +kernel
theorem dX3_reckonFinals_54 : decode cX3_reckonFinals 54 = .ok (.iload_n 2, 1) := by decide +kernel
theorem dX3_reckonFinals_55 : decode cX3_reckonFinals 55 = .ok (.invokevirtual 139, 3) := by decide +kernel
theorem dX3_reckonFinals_58 : decode cX3_reckonFinals 58 = .ok (.invokestatic 143, 3) := by decide +kernel
theorem dX3_reckonFinals_61 : decode cX3_reckonFinals 61 = .ok (.iinc 2 1, 3) := by decide +kernel
theorem dX3_reckonFinals_64 : decode cX3_reckonFinals 64 = .ok (.goto (-35), 3) := by decide +kernel
theorem dX3_reckonFinals_67 : decode cX3_reckonFinals 67 = .ok (.return_, 1) := by decide +kernel
set_option maxRecDepth 20000 in
theorem ggX3_resultOn_X3_fact : GoodIn wsX3_resultOn wsX3_fact := goodIn_r _ [6, 7, 11, 12, 13, 14, 15, 16, 17, 18] (by decide +kernel) (by decide +kernel)
set_option maxRecDepth 20000 in
theorem gX3_resultOn_X3_fact : GoodIn wsX3_resultOn (wsV RX3 69 RX3 yX3_fact wsX3_fact) := goodIn_app (goodIn_of _ (by decide +kernel)) ggX3_resultOn_X3_fact
set_option maxRecDepth 20000 in
theorem ggX3_resultOn_X6_at : GoodIn wsX3_resultOn wsX6_at := goodIn_r _ [10] (by decide +kernel) (by decide +kernel)
set_option maxRecDepth 20000 in
theorem gX3_resultOn_X6_at_n162 : GoodIn wsX3_resultOn (wsX6_at) := ggX3_resultOn_X6_at
theorem dX3_resultOn_0 : decode cX3_resultOn 0 = .ok (.aload_n 0, 1) := by decide +kernel
theorem dX3_resultOn_1 : decode cX3_resultOn 1 = .ok (.iload_n 2, 1) := by decide +kernel
theorem dX3_resultOn_2 : decode cX3_resultOn 2 = .ok (.iconst 3, 1) := by decide +kernel
theorem dX3_resultOn_3 : decode cX3_resultOn 3 = .ok (.invokevirtual 69, 3) := by decide +kernel
theorem dX3_resultOn_6 : decode cX3_resultOn 6 = .ok (.istore_n 3, 1) := by decide +kernel
theorem dX3_resultOn_7 : decode cX3_resultOn 7 = .ok (.aload_n 0, 1) := by decide +kernel
theorem dX3_resultOn_8 : decode cX3_resultOn 8 = .ok (.iload_n 2, 1) := by decide +kernel
theorem dX3_resultOn_9 : decode cX3_resultOn 9 = .ok (.iconst 4, 1) := by decide +kernel
theorem dX3_resultOn_10 : decode cX3_resultOn 10 = .ok (.invokevirtual 69, 3) := by decide +kernel
theorem dX3_resultOn_13 : decode cX3_resultOn 13 = .ok (.istore 4, 2) := by decide +kernel
theorem dX3_resultOn_15 : decode cX3_resultOn 15 = .ok (.aload_n 0, 1) := by decide +kernel
theorem dX3_resultOn_16 : decode cX3_resultOn 16 = .ok (.iload_n 2, 1) := by decide +kernel
theorem dX3_resultOn_17 : decode cX3_resultOn 17 = .ok (.iconst 2, 1) := by decide +kernel
theorem dX3_resultOn_18 : decode cX3_resultOn 18 = .ok (.invokevirtual 69, 3) := by decide +kernel
theorem dX3_resultOn_21 : decode cX3_resultOn 21 = .ok (.tableswitch 63 0 2 #[27, 30, 56], 27) := by decide +kernel
theorem dX3_resultOn_48 : decode cX3_resultOn 48 = .ok (.iload 4, 2) := by decide +kernel
theorem dX3_resultOn_50 : decode cX3_resultOn 50 = .ok (.ireturn, 1) := by decide +kernel
theorem dX3_resultOn_51 : decode cX3_resultOn 51 = .ok (.aload_n 0, 1) := by decide +kernel
theorem dX3_resultOn_52 : decode cX3_resultOn 52 = .ok (.iload_n 2, 1) := by decide +kernel
theorem dX3_resultOn_53 : decode cX3_resultOn 53 = .ok (.iconst 5, 1) := by decide +kernel
theorem dX3_resultOn_54 : decode cX3_resultOn 54 = .ok (.invokevirtual 69, 3) := by decide +kernel
theorem dX3_resultOn_57 : decode cX3_resultOn 57 = .ok (.iconst 1, 1) := by decide +kernel
theorem dX3_resultOn_58 : decode cX3_resultOn 58 = .ok (.if_icmp .ne 10, 3) := by decide +kernel
theorem dX3_resultOn_61 : decode cX3_resultOn 61 = .ok (.aload_n 0, 1) := by decide +kernel
theorem dX3_resultOn_62 : decode cX3_resultOn 62 = .ok (.getfield 38, 3) := by decide +kernel
theorem dX3_resultOn_65 : decode cX3_resultOn 65 = .ok (.goto 8, 3) := by decide +kernel
theorem dX3_resultOn_68 : decode cX3_resultOn 68 = .ok (.aload_n 1, 1) := by decide +kernel
theorem dX3_resultOn_69 : decode cX3_resultOn 69 = .ok (.iload_n 3, 1) := by decide +kernel
theorem dX3_resultOn_70 : decode cX3_resultOn 70 = .ok (.invokestatic 162, 3) := by decide +kernel
theorem dX3_resultOn_73 : decode cX3_resultOn 73 = .ok (.iload 4, 2) := by decide +kernel
theorem dX3_resultOn_75 : decode cX3_resultOn 75 = .ok (.iadd, 1) := by decide +kernel
theorem dX3_resultOn_76 : decode cX3_resultOn 76 = .ok (.ireturn, 1) := by decide +kernel
theorem dX3_resultOn_77 : decode cX3_resultOn 77 = .ok (.aload_n 1, 1) := by decide +kernel
theorem dX3_resultOn_78 : decode cX3_resultOn 78 = .ok (.iload 4, 2) := by decide +kernel
theorem dX3_resultOn_80 : decode cX3_resultOn 80 = .ok (.invokestatic 162, 3) := by decide +kernel
theorem dX3_resultOn_83 : decode cX3_resultOn 83 = .ok (.ireturn, 1) := by decide +kernel
theorem dX3_resultOn_84 : decode cX3_resultOn 84 = .ok (.aload_n 1, 1) := by decide +kernel
theorem dX3_resultOn_85 : decode cX3_resultOn 85 = .ok (.iload_n 3, 1) := by decide +kernel
theorem dX3_resultOn_86 : decode cX3_resultOn 86 = .ok (.invokestatic 162, 3) := by decide +kernel
theorem dX3_resultOn_89 : decode cX3_resultOn 89 = .ok (.ireturn, 1) := by decide +kernel
set_option maxRecDepth 20000 in
theorem ggX3_arrivedMail_X3_hasArrivedMail : GoodIn wsX3_arrivedMail wsX3_hasArrivedMail := goodIn_r _ [6, 7, 8, 9, 10, 5, 11, 12, 13, 14, 15, 16, 17, 18, 19, 20, 21, 22, 23, 24, 25, 26, 27, 28, 29, 30, 31, 32, 33, 34, 35, 36, 37, 38, 39, 40] (by decide +kernel) (by decide +kernel)
set_option maxRecDepth 20000 in
theorem gX3_arrivedMail_X3_hasArrivedMail : GoodIn wsX3_arrivedMail (wsV RX3 168 RX3 yX3_hasArrivedMail wsX3_hasArrivedMail) := goodIn_app (goodIn_of _ (by decide +kernel)) ggX3_arrivedMail_X3_hasArrivedMail
theorem dX3_arrivedMail_0 : decode cX3_arrivedMail 0 = .ok (.iconst 0, 1) := by decide +kernel
theorem dX3_arrivedMail_1 : decode cX3_arrivedMail 1 = .ok (.istore_n 2, 1) := by decide +kernel
theorem dX3_arrivedMail_2 : decode cX3_arrivedMail 2 = .ok (.iconst 0, 1) := by decide +kernel
theorem dX3_arrivedMail_3 : decode cX3_arrivedMail 3 = .ok (.istore_n 3, 1) := by decide +kernel
theorem dX3_arrivedMail_4 : decode cX3_arrivedMail 4 = .ok (.iload_n 3, 1) := by decide +kernel
theorem dX3_arrivedMail_5 : decode cX3_arrivedMail 5 = .ok (.aload_n 0, 1) := by decide +kernel
theorem dX3_arrivedMail_6 : decode cX3_arrivedMail 6 = .ok (.getfield 28, 3) := by decide +kernel
theorem dX3_arrivedMail_9 : decode cX3_arrivedMail 9 = .ok (.if_icmp .ge 21, 3) := by decide +kernel
theorem dX3_arrivedMail_12 : decode cX3_arrivedMail 12 = .ok (.aload_n 0, 1) := by decide +kernel
theorem dX3_arrivedMail_13 : decode cX3_arrivedMail 13 = .ok (.iload_n 1, 1) := by decide +kernel
theorem dX3_arrivedMail_14 : decode cX3_arrivedMail 14 = .ok (.iload_n 3, 1) := by decide +kernel
theorem dX3_arrivedMail_15 : decode cX3_arrivedMail 15 = .ok (.invokevirtual 168, 3) := by decide +kernel
theorem dX3_arrivedMail_18 : decode cX3_arrivedMail 18 = .ok (.ifCond .eq 6, 3) := by decide +kernel
theorem dX3_arrivedMail_21 : decode cX3_arrivedMail 21 = .ok (.iinc 2 1, 3) := by decide +kernel
theorem dX3_arrivedMail_24 : decode cX3_arrivedMail 24 = .ok (.iinc 3 1, 3) := by decide +kernel
theorem dX3_arrivedMail_27 : decode cX3_arrivedMail 27 = .ok (.goto (-23), 3) := by decide +kernel
theorem dX3_arrivedMail_30 : decode cX3_arrivedMail 30 = .ok (.iload_n 2, 1) := by decide +kernel
theorem dX3_arrivedMail_31 : decode cX3_arrivedMail 31 = .ok (.ireturn, 1) := by decide +kernel
set_option maxRecDepth 20000 in
theorem ggX3_mailAt_X3_controllerAt : GoodIn wsX3_mailAt wsX3_controllerAt := goodIn_r _ [6, 7, 8, 15, 16, 17, 18, 19, 20, 21, 22] (by decide +kernel) (by decide +kernel)
set_option maxRecDepth 20000 in
theorem gX3_mailAt_X3_controllerAt : GoodIn wsX3_mailAt (wsV RX3 76 RX3 yX3_controllerAt wsX3_controllerAt) := goodIn_app (goodIn_of _ (by decide +kernel)) ggX3_mailAt_X3_controllerAt
set_option maxRecDepth 20000 in
theorem ggX3_mailAt_X2_holds : GoodIn wsX3_mailAt wsX2_holds := goodIn_r _ [13, 14, 23, 24, 25, 26, 27, 28, 29, 30] (by decide +kernel) (by decide +kernel)
set_option maxRecDepth 20000 in
theorem gX3_mailAt_X2_holds : GoodIn wsX3_mailAt (wsV RX3 178 RX2 yX2_holds wsX2_holds) := goodIn_app (goodIn_of _ (by decide +kernel)) ggX3_mailAt_X2_holds
theorem dX3_mailAt_0 : decode cX3_mailAt 0 = .ok (.iconst 0, 1) := by decide +kernel
theorem dX3_mailAt_1 : decode cX3_mailAt 1 = .ok (.istore_n 3, 1) := by decide +kernel
theorem dX3_mailAt_2 : decode cX3_mailAt 2 = .ok (.iconst 0, 1) := by decide +kernel
theorem dX3_mailAt_3 : decode cX3_mailAt 3 = .ok (.istore 4, 2) := by decide +kernel
theorem dX3_mailAt_5 : decode cX3_mailAt 5 = .ok (.iload 4, 2) := by decide +kernel
theorem dX3_mailAt_7 : decode cX3_mailAt 7 = .ok (.aload_n 0, 1) := by decide +kernel
theorem dX3_mailAt_8 : decode cX3_mailAt 8 = .ok (.getfield 28, 3) := by decide +kernel
theorem dX3_mailAt_11 : decode cX3_mailAt 11 = .ok (.if_icmp .ge 33, 3) := by decide +kernel
theorem dX3_mailAt_14 : decode cX3_mailAt 14 = .ok (.aload_n 0, 1) := by decide +kernel
theorem dX3_mailAt_15 : decode cX3_mailAt 15 = .ok (.iload_n 1, 1) := by decide +kernel
theorem dX3_mailAt_16 : decode cX3_mailAt 16 = .ok (.invokevirtual 76, 3) := by decide +kernel
theorem dX3_mailAt_19 : decode cX3_mailAt 19 = .ok (.iload 4, 2) := by decide +kernel
theorem dX3_mailAt_21 : decode cX3_mailAt 21 = .ok (.invokevirtual 178, 3) := by decide +kernel
theorem dX3_mailAt_24 : decode cX3_mailAt 24 = .ok (.ifCond .eq 14, 3) := by decide +kernel
theorem dX3_mailAt_27 : decode cX3_mailAt 27 = .ok (.iload_n 3, 1) := by decide +kernel
theorem dX3_mailAt_28 : decode cX3_mailAt 28 = .ok (.iload_n 2, 1) := by decide +kernel
theorem dX3_mailAt_29 : decode cX3_mailAt 29 = .ok (.if_icmp .ne 6, 3) := by decide +kernel
theorem dX3_mailAt_32 : decode cX3_mailAt 32 = .ok (.iload 4, 2) := by decide +kernel
theorem dX3_mailAt_34 : decode cX3_mailAt 34 = .ok (.ireturn, 1) := by decide +kernel
theorem dX3_mailAt_35 : decode cX3_mailAt 35 = .ok (.iinc 3 1, 3) := by decide +kernel
theorem dX3_mailAt_38 : decode cX3_mailAt 38 = .ok (.iinc 4 1, 3) := by decide +kernel
theorem dX3_mailAt_41 : decode cX3_mailAt 41 = .ok (.goto (-36), 3) := by decide +kernel
theorem dX3_mailAt_44 : decode cX3_mailAt 44 = .ok (.iconst (-1), 1) := by decide +kernel
theorem dX3_mailAt_45 : decode cX3_mailAt 45 = .ok (.ireturn, 1) := by decide +kernel
set_option maxRecDepth 20000 in
theorem ggX3_controllerFact_X3_arrivedMail : GoodIn wsX3_controllerFact wsX3_arrivedMail := goodIn_r _ [5, 6, 7, 8, 9, 4, 10, 11, 12, 13, 14, 15, 16, 17, 18, 19, 20, 21, 22, 23, 24, 25, 26, 27, 28, 51, 52, 53, 54, 55, 56, 57, 58, 59, 60, 61, 62, 63, 64, 65, 66] (by decide +kernel) (by decide +kernel)
set_option maxRecDepth 20000 in
theorem gX3_controllerFact_X3_arrivedMail : GoodIn wsX3_controllerFact (wsV RX3 102 RX3 yX3_arrivedMail wsX3_arrivedMail) := goodIn_app (goodIn_of _ (by decide +kernel)) ggX3_controllerFact_X3_arrivedMail
set_option maxRecDepth 20000 in
theorem ggX3_controllerFact_X3_controllerAt : GoodIn wsX3_controllerFact wsX3_controllerAt := goodIn_r _ [15, 16, 17, 51, 52, 53, 54, 55, 56, 57, 58] (by decide +kernel) (by decide +kernel)
set_option maxRecDepth 20000 in
theorem gX3_controllerFact_X3_controllerAt : GoodIn wsX3_controllerFact (wsV RX3 76 RX3 yX3_controllerAt wsX3_controllerAt) := goodIn_app (goodIn_of _ (by decide +kernel)) ggX3_controllerFact_X3_controllerAt
set_option maxRecDepth 20000 in
theorem ggX3_controllerFact_X2_ownFact : GoodIn wsX3_controllerFact wsX2_ownFact := goodIn_r _ [32, 33, 34, 35, 36, 37, 38, 39, 40, 41, 42, 21, 43, 23, 44, 45, 46, 47, 48, 49, 50, 59, 60, 61, 62, 63, 64, 65, 66] (by decide +kernel) (by decide +kernel)
set_option maxRecDepth 20000 in
theorem gX3_controllerFact_X2_ownFact : GoodIn wsX3_controllerFact (wsV RX3 199 RX2 yX2_ownFact wsX2_ownFact) := goodIn_app (goodIn_of _ (by decide +kernel)) ggX3_controllerFact_X2_ownFact
theorem dX3_controllerFact_0 : decode cX3_controllerFact 0 = .ok (.iload_n 2, 1) := by decide +kernel
theorem dX3_controllerFact_1 : decode cX3_controllerFact 1 = .ok (.iconst 4, 1) := by decide +kernel
theorem dX3_controllerFact_2 : decode cX3_controllerFact 2 = .ok (.if_icmp .ne 11, 3) := by decide +kernel
theorem dX3_controllerFact_5 : decode cX3_controllerFact 5 = .ok (.aload_n 0, 1) := by decide +kernel
theorem dX3_controllerFact_6 : decode cX3_controllerFact 6 = .ok (.iload_n 1, 1) := by decide +kernel
theorem dX3_controllerFact_7 : decode cX3_controllerFact 7 = .ok (.invokevirtual 102, 3) := by decide +kernel
theorem dX3_controllerFact_10 : decode cX3_controllerFact 10 = .ok (.goto 12, 3) := by decide +kernel
theorem dX3_controllerFact_13 : decode cX3_controllerFact 13 = .ok (.aload_n 0, 1) := by decide +kernel
theorem dX3_controllerFact_14 : decode cX3_controllerFact 14 = .ok (.iload_n 1, 1) := by decide +kernel
theorem dX3_controllerFact_15 : decode cX3_controllerFact 15 = .ok (.invokevirtual 76, 3) := by decide +kernel
theorem dX3_controllerFact_18 : decode cX3_controllerFact 18 = .ok (.iload_n 2, 1) := by decide +kernel
theorem dX3_controllerFact_19 : decode cX3_controllerFact 19 = .ok (.invokevirtual 199, 3) := by decide +kernel
theorem dX3_controllerFact_22 : decode cX3_controllerFact 22 = .ok (.ireturn, 1) := by decide +kernel
set_option maxRecDepth 20000 in
theorem ggX3_wholeFact_X3_countIn : GoodIn wsX3_wholeFact wsX3_countIn := goodIn_r _ [13, 1, 14, 15, 16, 12, 17, 18, 27, 28, 29, 30, 31, 32, 33, 34] (by decide +kernel) (by decide +kernel)
set_option maxRecDepth 20000 in
theorem gX3_wholeFact_X3_countIn : GoodIn wsX3_wholeFact (wsV RX3 175 RX3 yX3_countIn wsX3_countIn) := goodIn_app (goodIn_of _ (by decide +kernel)) ggX3_wholeFact_X3_countIn
set_option maxRecDepth 20000 in
theorem ggX3_wholeFact_X3_sumOfValues : GoodIn wsX3_wholeFact wsX3_sumOfValues := goodIn_r _ [22, 23, 24, 25, 26, 27, 28, 29, 30, 31, 32, 33, 34] (by decide +kernel) (by decide +kernel)
set_option maxRecDepth 20000 in
theorem gX3_wholeFact_X3_sumOfValues : GoodIn wsX3_wholeFact (wsV RX3 202 RX3 yX3_sumOfValues wsX3_sumOfValues) := goodIn_app (goodIn_of _ (by decide +kernel)) ggX3_wholeFact_X3_sumOfValues
theorem dX3_wholeFact_0 : decode cX3_wholeFact 0 = .ok (.iload_n 1, 1) := by decide +kernel
theorem dX3_wholeFact_1 : decode cX3_wholeFact 1 = .ok (.tableswitch 147 0 9 #[55, 60, 66, 72, 78, 84, 89, 94, 99, 115], 55) := by decide +kernel
theorem dX3_wholeFact_56 : decode cX3_wholeFact 56 = .ok (.aload_n 0, 1) := by decide +kernel
theorem dX3_wholeFact_57 : decode cX3_wholeFact 57 = .ok (.getfield 28, 3) := by decide +kernel
theorem dX3_wholeFact_60 : decode cX3_wholeFact 60 = .ok (.ireturn, 1) := by decide +kernel
theorem dX3_wholeFact_61 : decode cX3_wholeFact 61 = .ok (.aload_n 0, 1) := by decide +kernel
theorem dX3_wholeFact_62 : decode cX3_wholeFact 62 = .ok (.iconst 0, 1) := by decide +kernel
theorem dX3_wholeFact_63 : decode cX3_wholeFact 63 = .ok (.invokevirtual 175, 3) := by decide +kernel
theorem dX3_wholeFact_66 : decode cX3_wholeFact 66 = .ok (.ireturn, 1) := by decide +kernel
theorem dX3_wholeFact_67 : decode cX3_wholeFact 67 = .ok (.aload_n 0, 1) := by decide +kernel
theorem dX3_wholeFact_68 : decode cX3_wholeFact 68 = .ok (.iconst 1, 1) := by decide +kernel
theorem dX3_wholeFact_69 : decode cX3_wholeFact 69 = .ok (.invokevirtual 175, 3) := by decide +kernel
theorem dX3_wholeFact_72 : decode cX3_wholeFact 72 = .ok (.ireturn, 1) := by decide +kernel
theorem dX3_wholeFact_73 : decode cX3_wholeFact 73 = .ok (.aload_n 0, 1) := by decide +kernel
theorem dX3_wholeFact_74 : decode cX3_wholeFact 74 = .ok (.iconst 2, 1) := by decide +kernel
theorem dX3_wholeFact_75 : decode cX3_wholeFact 75 = .ok (.invokevirtual 175, 3) := by decide +kernel
theorem dX3_wholeFact_78 : decode cX3_wholeFact 78 = .ok (.ireturn, 1) := by decide +kernel
theorem dX3_wholeFact_79 : decode cX3_wholeFact 79 = .ok (.aload_n 0, 1) := by decide +kernel
theorem dX3_wholeFact_80 : decode cX3_wholeFact 80 = .ok (.iconst 3, 1) := by decide +kernel
theorem dX3_wholeFact_81 : decode cX3_wholeFact 81 = .ok (.invokevirtual 175, 3) := by decide +kernel
theorem dX3_wholeFact_84 : decode cX3_wholeFact 84 = .ok (.ireturn, 1) := by decide +kernel
theorem dX3_wholeFact_85 : decode cX3_wholeFact 85 = .ok (.aload_n 0, 1) := by decide +kernel
theorem dX3_wholeFact_86 : decode cX3_wholeFact 86 = .ok (.getfield 32, 3) := by decide +kernel
theorem dX3_wholeFact_89 : decode cX3_wholeFact 89 = .ok (.ireturn, 1) := by decide +kernel
theorem dX3_wholeFact_90 : decode cX3_wholeFact 90 = .ok (.aload_n 0, 1) := by decide +kernel
theorem dX3_wholeFact_91 : decode cX3_wholeFact 91 = .ok (.getfield 35, 3) := by decide +kernel
theorem dX3_wholeFact_94 : decode cX3_wholeFact 94 = .ok (.ireturn, 1) := by decide +kernel
theorem dX3_wholeFact_95 : decode cX3_wholeFact 95 = .ok (.aload_n 0, 1) := by decide +kernel
theorem dX3_wholeFact_96 : decode cX3_wholeFact 96 = .ok (.getfield 38, 3) := by decide +kernel
theorem dX3_wholeFact_99 : decode cX3_wholeFact 99 = .ok (.ireturn, 1) := by decide +kernel
theorem dX3_wholeFact_100 : decode cX3_wholeFact 100 = .ok (.aload_n 0, 1) := by decide +kernel
theorem dX3_wholeFact_101 : decode cX3_wholeFact 101 = .ok (.getfield 21, 3) := by decide +kernel
theorem dX3_wholeFact_104 : decode cX3_wholeFact 104 = .ok (.getfield 172, 3) := by decide +kernel
theorem dX3_wholeFact_107 : decode cX3_wholeFact 107 = .ok (.aload_n 0, 1) := by decide +kernel
theorem dX3_wholeFact_108 : decode cX3_wholeFact 108 = .ok (.getfield 25, 3) := by decide +kernel
theorem dX3_wholeFact_111 : decode cX3_wholeFact 111 = .ok (.getfield 172, 3) := by decide +kernel
theorem dX3_wholeFact_114 : decode cX3_wholeFact 114 = .ok (.iadd, 1) := by decide +kernel
theorem dX3_wholeFact_115 : decode cX3_wholeFact 115 = .ok (.ireturn, 1) := by decide +kernel
theorem dX3_wholeFact_116 : decode cX3_wholeFact 116 = .ok (.aload_n 0, 1) := by decide +kernel
theorem dX3_wholeFact_117 : decode cX3_wholeFact 117 = .ok (.getfield 21, 3) := by decide +kernel
theorem dX3_wholeFact_120 : decode cX3_wholeFact 120 = .ok (.getfield 80, 3) := by decide +kernel
theorem dX3_wholeFact_123 : decode cX3_wholeFact 123 = .ok (.ifCond .eq 7, 3) := by decide +kernel
theorem dX3_wholeFact_126 : decode cX3_wholeFact 126 = .ok (.iconst 1, 1) := by decide +kernel
theorem dX3_wholeFact_127 : decode cX3_wholeFact 127 = .ok (.goto 4, 3) := by decide +kernel
theorem dX3_wholeFact_130 : decode cX3_wholeFact 130 = .ok (.iconst 0, 1) := by decide +kernel
theorem dX3_wholeFact_131 : decode cX3_wholeFact 131 = .ok (.aload_n 0, 1) := by decide +kernel
theorem dX3_wholeFact_132 : decode cX3_wholeFact 132 = .ok (.getfield 25, 3) := by decide +kernel
theorem dX3_wholeFact_135 : decode cX3_wholeFact 135 = .ok (.getfield 80, 3) := by decide +kernel
theorem dX3_wholeFact_138 : decode cX3_wholeFact 138 = .ok (.ifCond .eq 7, 3) := by decide +kernel
theorem dX3_wholeFact_141 : decode cX3_wholeFact 141 = .ok (.iconst 1, 1) := by decide +kernel
theorem dX3_wholeFact_142 : decode cX3_wholeFact 142 = .ok (.goto 4, 3) := by decide +kernel
theorem dX3_wholeFact_145 : decode cX3_wholeFact 145 = .ok (.iconst 0, 1) := by decide +kernel
theorem dX3_wholeFact_146 : decode cX3_wholeFact 146 = .ok (.iadd, 1) := by decide +kernel
theorem dX3_wholeFact_147 : decode cX3_wholeFact 147 = .ok (.ireturn, 1) := by decide +kernel
theorem dX3_wholeFact_148 : decode cX3_wholeFact 148 = .ok (.aload_n 0, 1) := by decide +kernel
theorem dX3_wholeFact_149 : decode cX3_wholeFact 149 = .ok (.invokevirtual 202, 3) := by decide +kernel
theorem dX3_wholeFact_152 : decode cX3_wholeFact 152 = .ok (.ireturn, 1) := by decide +kernel
set_option maxRecDepth 20000 in
theorem ggX3_countIn_X3_fact : GoodIn wsX3_countIn wsX3_fact := goodIn_r _ [6, 7, 8, 9, 10, 11, 12, 13, 14, 15] (by decide +kernel) (by decide +kernel)
set_option maxRecDepth 20000 in
theorem gX3_countIn_X3_fact : GoodIn wsX3_countIn (wsV RX3 69 RX3 yX3_fact wsX3_fact) := goodIn_app (goodIn_of _ (by decide +kernel)) ggX3_countIn_X3_fact
theorem dX3_countIn_0 : decode cX3_countIn 0 = .ok (.iconst 0, 1) := by decide +kernel
theorem dX3_countIn_1 : decode cX3_countIn 1 = .ok (.istore_n 2, 1) := by decide +kernel
theorem dX3_countIn_2 : decode cX3_countIn 2 = .ok (.iconst 0, 1) := by decide +kernel
theorem dX3_countIn_3 : decode cX3_countIn 3 = .ok (.istore_n 3, 1) := by decide +kernel
theorem dX3_countIn_4 : decode cX3_countIn 4 = .ok (.iload_n 3, 1) := by decide +kernel
theorem dX3_countIn_5 : decode cX3_countIn 5 = .ok (.aload_n 0, 1) := by decide +kernel
theorem dX3_countIn_6 : decode cX3_countIn 6 = .ok (.getfield 28, 3) := by decide +kernel
theorem dX3_countIn_9 : decode cX3_countIn 9 = .ok (.if_icmp .ge 22, 3) := by decide +kernel
theorem dX3_countIn_12 : decode cX3_countIn 12 = .ok (.aload_n 0, 1) := by decide +kernel
theorem dX3_countIn_13 : decode cX3_countIn 13 = .ok (.iload_n 3, 1) := by decide +kernel
theorem dX3_countIn_14 : decode cX3_countIn 14 = .ok (.iconst 5, 1) := by decide +kernel
theorem dX3_countIn_15 : decode cX3_countIn 15 = .ok (.invokevirtual 69, 3) := by decide +kernel
theorem dX3_countIn_18 : decode cX3_countIn 18 = .ok (.iload_n 1, 1) := by decide +kernel
theorem dX3_countIn_19 : decode cX3_countIn 19 = .ok (.if_icmp .ne 6, 3) := by decide +kernel
theorem dX3_countIn_22 : decode cX3_countIn 22 = .ok (.iinc 2 1, 3) := by decide +kernel
theorem dX3_countIn_25 : decode cX3_countIn 25 = .ok (.iinc 3 1, 3) := by decide +kernel
theorem dX3_countIn_28 : decode cX3_countIn 28 = .ok (.goto (-24), 3) := by decide +kernel
theorem dX3_countIn_31 : decode cX3_countIn 31 = .ok (.iload_n 2, 1) := by decide +kernel
theorem dX3_countIn_32 : decode cX3_countIn 32 = .ok (.ireturn, 1) := by decide +kernel
set_option maxRecDepth 20000 in
theorem ggX3_sumOfValues_X6_at : GoodIn wsX3_sumOfValues wsX6_at := goodIn_r _ [4] (by decide +kernel) (by decide +kernel)
set_option maxRecDepth 20000 in
theorem gX3_sumOfValues_X6_at_n162 : GoodIn wsX3_sumOfValues (wsX6_at) := ggX3_sumOfValues_X6_at
theorem dX3_sumOfValues_0 : decode cX3_sumOfValues 0 = .ok (.iconst 0, 1) := by decide +kernel
theorem dX3_sumOfValues_1 : decode cX3_sumOfValues 1 = .ok (.istore_n 1, 1) := by decide +kernel
theorem dX3_sumOfValues_2 : decode cX3_sumOfValues 2 = .ok (.iconst 0, 1) := by decide +kernel
theorem dX3_sumOfValues_3 : decode cX3_sumOfValues 3 = .ok (.istore_n 2, 1) := by decide +kernel
theorem dX3_sumOfValues_4 : decode cX3_sumOfValues 4 = .ok (.iload_n 2, 1) := by decide +kernel
theorem dX3_sumOfValues_5 : decode cX3_sumOfValues 5 = .ok (.bipush 16, 2) := by decide +kernel
theorem dX3_sumOfValues_7 : decode cX3_sumOfValues 7 = .ok (.if_icmp .ge 20, 3) := by decide +kernel
theorem dX3_sumOfValues_10 : decode cX3_sumOfValues 10 = .ok (.iload_n 1, 1) := by decide +kernel
theorem dX3_sumOfValues_11 : decode cX3_sumOfValues 11 = .ok (.aload_n 0, 1) := by decide +kernel
theorem dX3_sumOfValues_12 : decode cX3_sumOfValues 12 = .ok (.getfield 9, 3) := by decide +kernel
theorem dX3_sumOfValues_15 : decode cX3_sumOfValues 15 = .ok (.iload_n 2, 1) := by decide +kernel
theorem dX3_sumOfValues_16 : decode cX3_sumOfValues 16 = .ok (.invokestatic 162, 3) := by decide +kernel
theorem dX3_sumOfValues_19 : decode cX3_sumOfValues 19 = .ok (.iadd, 1) := by decide +kernel
theorem dX3_sumOfValues_20 : decode cX3_sumOfValues 20 = .ok (.istore_n 1, 1) := by decide +kernel
theorem dX3_sumOfValues_21 : decode cX3_sumOfValues 21 = .ok (.iinc 2 1, 3) := by decide +kernel
theorem dX3_sumOfValues_24 : decode cX3_sumOfValues 24 = .ok (.goto (-20), 3) := by decide +kernel
theorem dX3_sumOfValues_27 : decode cX3_sumOfValues 27 = .ok (.iload_n 1, 1) := by decide +kernel
theorem dX3_sumOfValues_28 : decode cX3_sumOfValues 28 = .ok (.ireturn, 1) := by decide +kernel
set_option maxRecDepth 20000 in
theorem ggX4_init_X3_init : GoodIn wsX4_init wsX3_init := goodIn_r _ [11, 12, 2, 3, 13, 14, 15, 16, 17, 18, 19, 20, 21, 22, 23, 24, 25, 26, 27, 28, 29, 30, 31, 32, 33, 34, 35, 39, 40, 41, 42, 43, 44, 45, 46, 47, 48, 49, 50, 51, 52, 53, 54] (by decide +kernel) (by decide +kernel)
set_option maxRecDepth 20000 in
theorem gX4_init_X3_init_n24 : GoodIn wsX4_init (wsX3_init) := ggX4_init_X3_init
theorem dX4_init_0 : decode cX4_init 0 = .ok (.aload_n 0, 1) := by decide +kernel
theorem dX4_init_1 : decode cX4_init 1 = .ok (.invokespecial 3, 3) := by decide +kernel
theorem dX4_init_4 : decode cX4_init 4 = .ok (.aload_n 0, 1) := by decide +kernel
theorem dX4_init_5 : decode cX4_init 5 = .ok (.iconst 4, 1) := by decide +kernel
theorem dX4_init_6 : decode cX4_init 6 = .ok (.anewarray 9, 3) := by decide +kernel
theorem dX4_init_9 : decode cX4_init 9 = .ok (.putfield 11, 3) := by decide +kernel
theorem dX4_init_12 : decode cX4_init 12 = .ok (.aload_n 0, 1) := by decide +kernel
theorem dX4_init_13 : decode cX4_init 13 = .ok (.iconst 0, 1) := by decide +kernel
theorem dX4_init_14 : decode cX4_init 14 = .ok (.putfield 17, 3) := by decide +kernel
theorem dX4_init_17 : decode cX4_init 17 = .ok (.aload_n 0, 1) := by decide +kernel
theorem dX4_init_18 : decode cX4_init 18 = .ok (.iconst 0, 1) := by decide +kernel
theorem dX4_init_19 : decode cX4_init 19 = .ok (.putfield 21, 3) := by decide +kernel
theorem dX4_init_22 : decode cX4_init 22 = .ok (.iconst 0, 1) := by decide +kernel
theorem dX4_init_23 : decode cX4_init 23 = .ok (.istore_n 1, 1) := by decide +kernel
theorem dX4_init_24 : decode cX4_init 24 = .ok (.iload_n 1, 1) := by decide +kernel
theorem dX4_init_25 : decode cX4_init 25 = .ok (.aload_n 0, 1) := by decide +kernel
theorem dX4_init_26 : decode cX4_init 26 = .ok (.getfield 11, 3) := by decide +kernel
theorem dX4_init_29 : decode cX4_init 29 = .ok (.arraylength, 1) := by decide +kernel
theorem dX4_init_30 : decode cX4_init 30 = .ok (.if_icmp .ge 22, 3) := by decide +kernel
theorem dX4_init_33 : decode cX4_init 33 = .ok (.aload_n 0, 1) := by decide +kernel
theorem dX4_init_34 : decode cX4_init 34 = .ok (.getfield 11, 3) := by decide +kernel
theorem dX4_init_37 : decode cX4_init 37 = .ok (.iload_n 1, 1) := by decide +kernel
theorem dX4_init_38 : decode cX4_init 38 = .ok (.new 9, 3) := by decide +kernel
theorem dX4_init_41 : decode cX4_init 41 = .ok (.dup, 1) := by decide +kernel
theorem dX4_init_42 : decode cX4_init 42 = .ok (.invokespecial 24, 3) := by decide +kernel
theorem dX4_init_45 : decode cX4_init 45 = .ok (.aastore, 1) := by decide +kernel
theorem dX4_init_46 : decode cX4_init 46 = .ok (.iinc 1 1, 3) := by decide +kernel
theorem dX4_init_49 : decode cX4_init 49 = .ok (.goto (-25), 3) := by decide +kernel
theorem dX4_init_52 : decode cX4_init 52 = .ok (.return_, 1) := by decide +kernel
set_option maxRecDepth 20000 in
theorem ggX4_save_X4_savedAt : GoodIn wsX4_save wsX4_savedAt := goodIn_r _ [7, 8, 39, 40, 41] (by decide +kernel) (by decide +kernel)
set_option maxRecDepth 20000 in
theorem gX4_save_X4_savedAt : GoodIn wsX4_save (wsV RX4 25 RX4 yX4_savedAt wsX4_savedAt) := goodIn_app (goodIn_of _ (by decide +kernel)) ggX4_save_X4_savedAt
set_option maxRecDepth 20000 in
theorem ggX4_save_X3_become : GoodIn wsX4_save wsX3_become := goodIn_r _ [13, 14, 15, 16, 17, 18, 19, 20, 21, 22, 23, 24, 25, 26, 27, 28, 29, 30, 31, 32, 33, 34, 35, 36, 37, 38, 42, 43, 44, 45, 46, 47, 48, 49, 50, 51, 52, 53, 54, 55, 56, 57] (by decide +kernel) (by decide +kernel)
set_option maxRecDepth 20000 in
theorem gX4_save_X3_become : GoodIn wsX4_save (wsV RX4 29 RX3 yX3_become wsX3_become) := goodIn_app (goodIn_of _ (by decide +kernel)) ggX4_save_X3_become
theorem dX4_save_0 : decode cX4_save 0 = .ok (.aload_n 0, 1) := by decide +kernel
theorem dX4_save_1 : decode cX4_save 1 = .ok (.aload_n 0, 1) := by decide +kernel
theorem dX4_save_2 : decode cX4_save 2 = .ok (.getfield 21, 3) := by decide +kernel
theorem dX4_save_5 : decode cX4_save 5 = .ok (.iconst 1, 1) := by decide +kernel
theorem dX4_save_6 : decode cX4_save 6 = .ok (.iadd, 1) := by decide +kernel
theorem dX4_save_7 : decode cX4_save 7 = .ok (.iconst 4, 1) := by decide +kernel
theorem dX4_save_8 : decode cX4_save 8 = .ok (.if_icmp .ge 12, 3) := by decide +kernel
theorem dX4_save_11 : decode cX4_save 11 = .ok (.aload_n 0, 1) := by decide +kernel
theorem dX4_save_12 : decode cX4_save 12 = .ok (.getfield 21, 3) := by decide +kernel
theorem dX4_save_15 : decode cX4_save 15 = .ok (.iconst 1, 1) := by decide +kernel
theorem dX4_save_16 : decode cX4_save 16 = .ok (.iadd, 1) := by decide +kernel
theorem dX4_save_17 : decode cX4_save 17 = .ok (.goto 4, 3) := by decide +kernel
theorem dX4_save_20 : decode cX4_save 20 = .ok (.iconst 0, 1) := by decide +kernel
theorem dX4_save_21 : decode cX4_save 21 = .ok (.putfield 21, 3) := by decide +kernel
theorem dX4_save_24 : decode cX4_save 24 = .ok (.aload_n 0, 1) := by decide +kernel
theorem dX4_save_25 : decode cX4_save 25 = .ok (.aload_n 0, 1) := by decide +kernel
theorem dX4_save_26 : decode cX4_save 26 = .ok (.getfield 17, 3) := by decide +kernel
theorem dX4_save_29 : decode cX4_save 29 = .ok (.iconst 4, 1) := by decide +kernel
theorem dX4_save_30 : decode cX4_save 30 = .ok (.if_icmp .ge 12, 3) := by decide +kernel
theorem dX4_save_33 : decode cX4_save 33 = .ok (.aload_n 0, 1) := by decide +kernel
theorem dX4_save_34 : decode cX4_save 34 = .ok (.getfield 17, 3) := by decide +kernel
theorem dX4_save_37 : decode cX4_save 37 = .ok (.iconst 1, 1) := by decide +kernel
theorem dX4_save_38 : decode cX4_save 38 = .ok (.iadd, 1) := by decide +kernel
theorem dX4_save_39 : decode cX4_save 39 = .ok (.goto 4, 3) := by decide +kernel
theorem dX4_save_42 : decode cX4_save 42 = .ok (.iconst 4, 1) := by decide +kernel
theorem dX4_save_43 : decode cX4_save 43 = .ok (.putfield 17, 3) := by decide +kernel
theorem dX4_save_46 : decode cX4_save 46 = .ok (.aload_n 0, 1) := by decide +kernel
theorem dX4_save_47 : decode cX4_save 47 = .ok (.aload_n 0, 1) := by decide +kernel
theorem dX4_save_48 : decode cX4_save 48 = .ok (.getfield 21, 3) := by decide +kernel
theorem dX4_save_51 : decode cX4_save 51 = .ok (.invokevirtual 25, 3) := by decide +kernel
theorem dX4_save_54 : decode cX4_save 54 = .ok (.astore_n 2, 1) := by decide +kernel
theorem dX4_save_55 : decode cX4_save 55 = .ok (.aload_n 2, 1) := by decide +kernel
theorem dX4_save_56 : decode cX4_save 56 = .ok (.ifnull 8, 3) := by decide +kernel
theorem dX4_save_59 : decode cX4_save 59 = .ok (.aload_n 2, 1) := by decide +kernel
theorem dX4_save_60 : decode cX4_save 60 = .ok (.aload_n 1, 1) := by decide +kernel
theorem dX4_save_61 : decode cX4_save 61 = .ok (.invokevirtual 29, 3) := by decide +kernel
theorem dX4_save_64 : decode cX4_save 64 = .ok (.return_, 1) := by decide +kernel
set_option maxRecDepth 20000 in
theorem ggX4_restoreTo_X4_savedAt : GoodIn wsX4_restoreTo wsX4_savedAt := goodIn_r _ [7, 8, 39, 40, 41] (by decide +kernel) (by decide +kernel)
set_option maxRecDepth 20000 in
theorem gX4_restoreTo_X4_savedAt : GoodIn wsX4_restoreTo (wsV RX4 25 RX4 yX4_savedAt wsX4_savedAt) := goodIn_app (goodIn_of _ (by decide +kernel)) ggX4_restoreTo_X4_savedAt
set_option maxRecDepth 20000 in
theorem ggX4_restoreTo_X3_become : GoodIn wsX4_restoreTo wsX3_become := goodIn_r _ [13, 14, 15, 16, 17, 18, 19, 20, 21, 22, 23, 24, 25, 26, 27, 28, 29, 30, 31, 32, 33, 34, 35, 36, 37, 38, 42, 43, 44, 45, 46, 47, 48, 49, 50, 51, 52, 53, 54, 55, 56, 57] (by decide +kernel) (by decide +kernel)
set_option maxRecDepth 20000 in
theorem gX4_restoreTo_X3_become : GoodIn wsX4_restoreTo (wsV RX4 29 RX3 yX3_become wsX3_become) := goodIn_app (goodIn_of _ (by decide +kernel)) ggX4_restoreTo_X3_become
theorem dX4_restoreTo_0 : decode cX4_restoreTo 0 = .ok (.aload_n 0, 1) := by decide +kernel
theorem dX4_restoreTo_1 : decode cX4_restoreTo 1 = .ok (.aload_n 0, 1) := by decide +kernel
theorem dX4_restoreTo_2 : decode cX4_restoreTo 2 = .ok (.getfield 21, 3) := by decide +kernel
theorem dX4_restoreTo_5 : decode cX4_restoreTo 5 = .ok (.invokevirtual 25, 3) := by decide +kernel
theorem dX4_restoreTo_8 : decode cX4_restoreTo 8 = .ok (.astore_n 2, 1) := by decide +kernel
theorem dX4_restoreTo_9 : decode cX4_restoreTo 9 = .ok (.aload_n 2, 1) := by decide +kernel
theorem dX4_restoreTo_10 : decode cX4_restoreTo 10 = .ok (.ifnull 46, 3) := by decide +kernel
theorem dX4_restoreTo_13 : decode cX4_restoreTo 13 = .ok (.aload_n 0, 1) := by decide +kernel
theorem dX4_restoreTo_14 : decode cX4_restoreTo 14 = .ok (.getfield 17, 3) := by decide +kernel
theorem dX4_restoreTo_17 : decode cX4_restoreTo 17 = .ok (.ifCond .le 39, 3) := by decide +kernel
theorem dX4_restoreTo_20 : decode cX4_restoreTo 20 = .ok (.aload_n 1, 1) := by decide +kernel
theorem dX4_restoreTo_21 : decode cX4_restoreTo 21 = .ok (.aload_n 2, 1) := by decide +kernel
theorem dX4_restoreTo_22 : decode cX4_restoreTo 22 = .ok (.invokevirtual 29, 3) := by decide +kernel
theorem dX4_restoreTo_25 : decode cX4_restoreTo 25 = .ok (.aload_n 0, 1) := by decide +kernel
theorem dX4_restoreTo_26 : decode cX4_restoreTo 26 = .ok (.aload_n 0, 1) := by decide +kernel
theorem dX4_restoreTo_27 : decode cX4_restoreTo 27 = .ok (.getfield 21, 3) := by decide +kernel
theorem dX4_restoreTo_30 : decode cX4_restoreTo 30 = .ok (.ifCond .le 12, 3) := by decide +kernel
theorem dX4_restoreTo_33 : decode cX4_restoreTo 33 = .ok (.aload_n 0, 1) := by decide +kernel
theorem dX4_restoreTo_34 : decode cX4_restoreTo 34 = .ok (.getfield 21, 3) := by decide +kernel
theorem dX4_restoreTo_37 : decode cX4_restoreTo 37 = .ok (.iconst 1, 1) := by decide +kernel
theorem dX4_restoreTo_38 : decode cX4_restoreTo 38 = .ok (.isub, 1) := by decide +kernel
theorem dX4_restoreTo_39 : decode cX4_restoreTo 39 = .ok (.goto 4, 3) := by decide +kernel
theorem dX4_restoreTo_42 : decode cX4_restoreTo 42 = .ok (.iconst 3, 1) := by decide +kernel
theorem dX4_restoreTo_43 : decode cX4_restoreTo 43 = .ok (.putfield 21, 3) := by decide +kernel
theorem dX4_restoreTo_46 : decode cX4_restoreTo 46 = .ok (.aload_n 0, 1) := by decide +kernel
theorem dX4_restoreTo_47 : decode cX4_restoreTo 47 = .ok (.dup, 1) := by decide +kernel
theorem dX4_restoreTo_48 : decode cX4_restoreTo 48 = .ok (.getfield 17, 3) := by decide +kernel
theorem dX4_restoreTo_51 : decode cX4_restoreTo 51 = .ok (.iconst 1, 1) := by decide +kernel
theorem dX4_restoreTo_52 : decode cX4_restoreTo 52 = .ok (.isub, 1) := by decide +kernel
theorem dX4_restoreTo_53 : decode cX4_restoreTo 53 = .ok (.putfield 17, 3) := by decide +kernel
theorem dX4_restoreTo_56 : decode cX4_restoreTo 56 = .ok (.aload_n 0, 1) := by decide +kernel
theorem dX4_restoreTo_57 : decode cX4_restoreTo 57 = .ok (.getfield 17, 3) := by decide +kernel
theorem dX4_restoreTo_60 : decode cX4_restoreTo 60 = .ok (.ireturn, 1) := by decide +kernel
theorem dX4_savedAt_0 : decode cX4_savedAt 0 = .ok (.iload_n 1, 1) := by decide +kernel
theorem dX4_savedAt_1 : decode cX4_savedAt 1 = .ok (.ifCond .lt 21, 3) := by decide +kernel
theorem dX4_savedAt_4 : decode cX4_savedAt 4 = .ok (.iload_n 1, 1) := by decide +kernel
theorem dX4_savedAt_5 : decode cX4_savedAt 5 = .ok (.aload_n 0, 1) := by decide +kernel
theorem dX4_savedAt_6 : decode cX4_savedAt 6 = .ok (.getfield 11, 3) := by decide +kernel
theorem dX4_savedAt_9 : decode cX4_savedAt 9 = .ok (.arraylength, 1) := by decide +kernel
theorem dX4_savedAt_10 : decode cX4_savedAt 10 = .ok (.if_icmp .ge 12, 3) := by decide +kernel
theorem dX4_savedAt_13 : decode cX4_savedAt 13 = .ok (.aload_n 0, 1) := by decide +kernel
theorem dX4_savedAt_14 : decode cX4_savedAt 14 = .ok (.getfield 11, 3) := by decide +kernel
theorem dX4_savedAt_17 : decode cX4_savedAt 17 = .ok (.iload_n 1, 1) := by decide +kernel
theorem dX4_savedAt_18 : decode cX4_savedAt 18 = .ok (.aaload, 1) := by decide +kernel
theorem dX4_savedAt_19 : decode cX4_savedAt 19 = .ok (.goto 4, 3) := by decide +kernel
theorem dX4_savedAt_22 : decode cX4_savedAt 22 = .ok (.aconst_null, 1) := by decide +kernel
theorem dX4_savedAt_23 : decode cX4_savedAt 23 = .ok (.areturn, 1) := by decide +kernel
theorem dJ13_bitCount_95d88_0 : decode cJ13_bitCount_95d88 0 = .ok (.lload_n 0, 1) := by decide +kernel
theorem dJ13_bitCount_95d88_1 : decode cJ13_bitCount_95d88 1 = .ok (.lload_n 0, 1) := by decide +kernel
theorem dJ13_bitCount_95d88_2 : decode cJ13_bitCount_95d88 2 = .ok (.iconst 1, 1) := by decide +kernel
theorem dJ13_bitCount_95d88_3 : decode cJ13_bitCount_95d88 3 = .ok (.lushr, 1) := by decide +kernel
theorem dJ13_bitCount_95d88_4 : decode cJ13_bitCount_95d88 4 = .ok (.ldc2_w 314, 3) := by decide +kernel
theorem dJ13_bitCount_95d88_7 : decode cJ13_bitCount_95d88 7 = .ok (.land, 1) := by decide +kernel
theorem dJ13_bitCount_95d88_8 : decode cJ13_bitCount_95d88 8 = .ok (.lsub, 1) := by decide +kernel
theorem dJ13_bitCount_95d88_9 : decode cJ13_bitCount_95d88 9 = .ok (.lstore_n 0, 1) := by decide +kernel
theorem dJ13_bitCount_95d88_10 : decode cJ13_bitCount_95d88 10 = .ok (.lload_n 0, 1) := by decide +kernel
theorem dJ13_bitCount_95d88_11 : decode cJ13_bitCount_95d88 11 = .ok (.ldc2_w 316, 3) := by decide +kernel
theorem dJ13_bitCount_95d88_14 : decode cJ13_bitCount_95d88 14 = .ok (.land, 1) := by decide +kernel
theorem dJ13_bitCount_95d88_15 : decode cJ13_bitCount_95d88 15 = .ok (.lload_n 0, 1) := by decide +kernel
theorem dJ13_bitCount_95d88_16 : decode cJ13_bitCount_95d88 16 = .ok (.iconst 2, 1) := by decide +kernel
theorem dJ13_bitCount_95d88_17 : decode cJ13_bitCount_95d88 17 = .ok (.lushr, 1) := by decide +kernel
theorem dJ13_bitCount_95d88_18 : decode cJ13_bitCount_95d88 18 = .ok (.ldc2_w 316, 3) := by decide +kernel
theorem dJ13_bitCount_95d88_21 : decode cJ13_bitCount_95d88 21 = .ok (.land, 1) := by decide +kernel
theorem dJ13_bitCount_95d88_22 : decode cJ13_bitCount_95d88 22 = .ok (.ladd, 1) := by decide +kernel
theorem dJ13_bitCount_95d88_23 : decode cJ13_bitCount_95d88 23 = .ok (.lstore_n 0, 1) := by decide +kernel
theorem dJ13_bitCount_95d88_24 : decode cJ13_bitCount_95d88 24 = .ok (.lload_n 0, 1) := by decide +kernel
theorem dJ13_bitCount_95d88_25 : decode cJ13_bitCount_95d88 25 = .ok (.lload_n 0, 1) := by decide +kernel
theorem dJ13_bitCount_95d88_26 : decode cJ13_bitCount_95d88 26 = .ok (.iconst 4, 1) := by decide +kernel
theorem dJ13_bitCount_95d88_27 : decode cJ13_bitCount_95d88 27 = .ok (.lushr, 1) := by decide +kernel
theorem dJ13_bitCount_95d88_28 : decode cJ13_bitCount_95d88 28 = .ok (.ladd, 1) := by decide +kernel
theorem dJ13_bitCount_95d88_29 : decode cJ13_bitCount_95d88 29 = .ok (.ldc2_w 318, 3) := by decide +kernel
theorem dJ13_bitCount_95d88_32 : decode cJ13_bitCount_95d88 32 = .ok (.land, 1) := by decide +kernel
theorem dJ13_bitCount_95d88_33 : decode cJ13_bitCount_95d88 33 = .ok (.lstore_n 0, 1) := by decide +kernel
theorem dJ13_bitCount_95d88_34 : decode cJ13_bitCount_95d88 34 = .ok (.lload_n 0, 1) := by decide +kernel
theorem dJ13_bitCount_95d88_35 : decode cJ13_bitCount_95d88 35 = .ok (.lload_n 0, 1) := by decide +kernel
theorem dJ13_bitCount_95d88_36 : decode cJ13_bitCount_95d88 36 = .ok (.bipush 8, 2) := by decide +kernel
theorem dJ13_bitCount_95d88_38 : decode cJ13_bitCount_95d88 38 = .ok (.lushr, 1) := by decide +kernel
theorem dJ13_bitCount_95d88_39 : decode cJ13_bitCount_95d88 39 = .ok (.ladd, 1) := by decide +kernel
theorem dJ13_bitCount_95d88_40 : decode cJ13_bitCount_95d88 40 = .ok (.lstore_n 0, 1) := by decide +kernel
theorem dJ13_bitCount_95d88_41 : decode cJ13_bitCount_95d88 41 = .ok (.lload_n 0, 1) := by decide +kernel
theorem dJ13_bitCount_95d88_42 : decode cJ13_bitCount_95d88 42 = .ok (.lload_n 0, 1) := by decide +kernel
theorem dJ13_bitCount_95d88_43 : decode cJ13_bitCount_95d88 43 = .ok (.bipush 16, 2) := by decide +kernel
theorem dJ13_bitCount_95d88_45 : decode cJ13_bitCount_95d88 45 = .ok (.lushr, 1) := by decide +kernel
theorem dJ13_bitCount_95d88_46 : decode cJ13_bitCount_95d88 46 = .ok (.ladd, 1) := by decide +kernel
theorem dJ13_bitCount_95d88_47 : decode cJ13_bitCount_95d88 47 = .ok (.lstore_n 0, 1) := by decide +kernel
theorem dJ13_bitCount_95d88_48 : decode cJ13_bitCount_95d88 48 = .ok (.lload_n 0, 1) := by decide +kernel
theorem dJ13_bitCount_95d88_49 : decode cJ13_bitCount_95d88 49 = .ok (.lload_n 0, 1) := by decide +kernel
theorem dJ13_bitCount_95d88_50 : decode cJ13_bitCount_95d88 50 = .ok (.bipush 32, 2) := by decide +kernel
theorem dJ13_bitCount_95d88_52 : decode cJ13_bitCount_95d88 52 = .ok (.lushr, 1) := by decide +kernel
theorem dJ13_bitCount_95d88_53 : decode cJ13_bitCount_95d88 53 = .ok (.ladd, 1) := by decide +kernel
theorem dJ13_bitCount_95d88_54 : decode cJ13_bitCount_95d88 54 = .ok (.lstore_n 0, 1) := by decide +kernel
theorem dJ13_bitCount_95d88_55 : decode cJ13_bitCount_95d88 55 = .ok (.lload_n 0, 1) := by decide +kernel
theorem dJ13_bitCount_95d88_56 : decode cJ13_bitCount_95d88 56 = .ok (.l2i, 1) := by decide +kernel
theorem dJ13_bitCount_95d88_57 : decode cJ13_bitCount_95d88 57 = .ok (.bipush 127, 2) := by decide +kernel
theorem dJ13_bitCount_95d88_59 : decode cJ13_bitCount_95d88 59 = .ok (.iand, 1) := by decide +kernel
theorem dJ13_bitCount_95d88_60 : decode cJ13_bitCount_95d88 60 = .ok (.ireturn, 1) := by decide +kernel
theorem dJ9_max_7cf53_0 : decode cJ9_max_7cf53 0 = .ok (.iload_n 0, 1) := by decide +kernel
theorem dJ9_max_7cf53_1 : decode cJ9_max_7cf53 1 = .ok (.iload_n 1, 1) := by decide +kernel
theorem dJ9_max_7cf53_2 : decode cJ9_max_7cf53 2 = .ok (.if_icmp .lt 7, 3) := by decide +kernel
theorem dJ9_max_7cf53_5 : decode cJ9_max_7cf53 5 = .ok (.iload_n 0, 1) := by decide +kernel
theorem dJ9_max_7cf53_6 : decode cJ9_max_7cf53 6 = .ok (.goto 4, 3) := by decide +kernel
theorem dJ9_max_7cf53_9 : decode cJ9_max_7cf53 9 = .ok (.iload_n 1, 1) := by decide +kernel
theorem dJ9_max_7cf53_10 : decode cJ9_max_7cf53 10 = .ok (.ireturn, 1) := by decide +kernel
