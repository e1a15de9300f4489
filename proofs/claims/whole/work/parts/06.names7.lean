theorem dX7_init_0 : decode cX7_init 0 = .ok (.aload_n 0, 1) := by decide +kernel
theorem dX7_init_1 : decode cX7_init 1 = .ok (.invokespecial 1, 3) := by decide +kernel
theorem dX7_init_4 : decode cX7_init 4 = .ok (.aload_n 0, 1) := by decide +kernel
theorem dX7_init_5 : decode cX7_init 5 = .ok (.sipush 596, 3) := by decide +kernel
theorem dX7_init_8 : decode cX7_init 8 = .ok (.newarray .int, 2) := by decide +kernel
theorem dX7_init_10 : decode cX7_init 10 = .ok (.putfield 7, 3) := by decide +kernel
theorem dX7_init_13 : decode cX7_init 13 = .ok (.aload_n 0, 1) := by decide +kernel
theorem dX7_init_14 : decode cX7_init 14 = .ok (.sipush 2384, 3) := by decide +kernel
theorem dX7_init_17 : decode cX7_init 17 = .ok (.newarray .int, 2) := by decide +kernel
theorem dX7_init_19 : decode cX7_init 19 = .ok (.putfield 13, 3) := by decide +kernel
theorem dX7_init_22 : decode cX7_init 22 = .ok (.aload_n 0, 1) := by decide +kernel
theorem dX7_init_23 : decode cX7_init 23 = .ok (.sipush 596, 3) := by decide +kernel
theorem dX7_init_26 : decode cX7_init 26 = .ok (.newarray .int, 2) := by decide +kernel
theorem dX7_init_28 : decode cX7_init 28 = .ok (.putfield 16, 3) := by decide +kernel
theorem dX7_init_31 : decode cX7_init 31 = .ok (.aload_n 0, 1) := by decide +kernel
theorem dX7_init_32 : decode cX7_init 32 = .ok (.bipush 40, 2) := by decide +kernel
theorem dX7_init_34 : decode cX7_init 34 = .ok (.newarray .int, 2) := by decide +kernel
theorem dX7_init_36 : decode cX7_init 36 = .ok (.putfield 19, 3) := by decide +kernel
theorem dX7_init_39 : decode cX7_init 39 = .ok (.aload_n 0, 1) := by decide +kernel
theorem dX7_init_40 : decode cX7_init 40 = .ok (.bipush 16, 2) := by decide +kernel
theorem dX7_init_42 : decode cX7_init 42 = .ok (.newarray .int, 2) := by decide +kernel
theorem dX7_init_44 : decode cX7_init 44 = .ok (.putfield 22, 3) := by decide +kernel
theorem dX7_init_47 : decode cX7_init 47 = .ok (.aload_n 0, 1) := by decide +kernel
theorem dX7_init_48 : decode cX7_init 48 = .ok (.sipush 150, 3) := by decide +kernel
theorem dX7_init_51 : decode cX7_init 51 = .ok (.newarray .int, 2) := by decide +kernel
theorem dX7_init_53 : decode cX7_init 53 = .ok (.putfield 25, 3) := by decide +kernel
theorem dX7_init_56 : decode cX7_init 56 = .ok (.aload_n 0, 1) := by decide +kernel
theorem dX7_init_57 : decode cX7_init 57 = .ok (.iconst 4, 1) := by decide +kernel
theorem dX7_init_58 : decode cX7_init 58 = .ok (.newarray .int, 2) := by decide +kernel
theorem dX7_init_60 : decode cX7_init 60 = .ok (.putfield 28, 3) := by decide +kernel
theorem dX7_init_63 : decode cX7_init 63 = .ok (.aload_n 0, 1) := by decide +kernel
theorem dX7_init_64 : decode cX7_init 64 = .ok (.getfield 7, 3) := by decide +kernel
theorem dX7_init_67 : decode cX7_init 67 = .ok (.iconst 2, 1) := by decide +kernel
theorem dX7_init_68 : decode cX7_init 68 = .ok (.iconst (-1), 1) := by decide +kernel
theorem dX7_init_69 : decode cX7_init 69 = .ok (.iastore, 1) := by decide +kernel
theorem dX7_init_70 : decode cX7_init 70 = .ok (.aload_n 0, 1) := by decide +kernel
theorem dX7_init_71 : decode cX7_init 71 = .ok (.getfield 7, 3) := by decide +kernel
theorem dX7_init_74 : decode cX7_init 74 = .ok (.bipush 20, 2) := by decide +kernel
theorem dX7_init_76 : decode cX7_init 76 = .ok (.iconst 1, 1) := by decide +kernel
theorem dX7_init_77 : decode cX7_init 77 = .ok (.iastore, 1) := by decide +kernel
theorem dX7_init_78 : decode cX7_init 78 = .ok (.aload_n 0, 1) := by decide +kernel
theorem dX7_init_79 : decode cX7_init 79 = .ok (.getfield 7, 3) := by decide +kernel
theorem dX7_init_82 : decode cX7_init 82 = .ok (.bipush 28, 2) := by decide +kernel
theorem dX7_init_84 : decode cX7_init 84 = .ok (.iconst 1, 1) := by decide +kernel
theorem dX7_init_85 : decode cX7_init 85 = .ok (.iastore, 1) := by decide +kernel
theorem dX7_init_86 : decode cX7_init 86 = .ok (.return_, 1) := by decide +kernel
theorem dX7_thrown_0 : decode cX7_thrown 0 = .ok (.aload_n 0, 1) := by decide +kernel
theorem dX7_thrown_1 : decode cX7_thrown 1 = .ok (.getfield 31, 3) := by decide +kernel
theorem dX7_thrown_4 : decode cX7_thrown 4 = .ok (.ireturn, 1) := by decide +kernel
theorem dX7_refused_0 : decode cX7_refused 0 = .ok (.aload_n 0, 1) := by decide +kernel
theorem dX7_refused_1 : decode cX7_refused 1 = .ok (.iload_n 1, 1) := by decide +kernel
theorem dX7_refused_2 : decode cX7_refused 2 = .ok (.putfield 31, 3) := by decide +kernel
theorem dX7_refused_5 : decode cX7_refused 5 = .ok (.iload_n 1, 1) := by decide +kernel
theorem dX7_refused_6 : decode cX7_refused 6 = .ok (.ifCond .le 7, 3) := by decide +kernel
theorem dX7_refused_9 : decode cX7_refused 9 = .ok (.iconst 1, 1) := by decide +kernel
theorem dX7_refused_10 : decode cX7_refused 10 = .ok (.goto 4, 3) := by decide +kernel
theorem dX7_refused_13 : decode cX7_refused 13 = .ok (.iconst 0, 1) := by decide +kernel
theorem dX7_refused_14 : decode cX7_refused 14 = .ok (.ireturn, 1) := by decide +kernel
theorem dX7_within_0 : decode cX7_within 0 = .ok (.iload_n 0, 1) := by decide +kernel
theorem dX7_within_1 : decode cX7_within 1 = .ok (.iload_n 1, 1) := by decide +kernel
theorem dX7_within_2 : decode cX7_within 2 = .ok (.if_icmp .lt 12, 3) := by decide +kernel
theorem dX7_within_5 : decode cX7_within 5 = .ok (.iload_n 0, 1) := by decide +kernel
theorem dX7_within_6 : decode cX7_within 6 = .ok (.iload_n 2, 1) := by decide +kernel
theorem dX7_within_7 : decode cX7_within 7 = .ok (.if_icmp .gt 7, 3) := by decide +kernel
theorem dX7_within_10 : decode cX7_within 10 = .ok (.iconst 1, 1) := by decide +kernel
theorem dX7_within_11 : decode cX7_within 11 = .ok (.goto 4, 3) := by decide +kernel
theorem dX7_within_14 : decode cX7_within 14 = .ok (.iconst 0, 1) := by decide +kernel
theorem dX7_within_15 : decode cX7_within 15 = .ok (.ireturn, 1) := by decide +kernel
theorem dX7_saves_0 : decode cX7_saves 0 = .ok (.aload_n 0, 1) := by decide +kernel
theorem dX7_saves_1 : decode cX7_saves 1 = .ok (.getfield 35, 3) := by decide +kernel
theorem dX7_saves_4 : decode cX7_saves 4 = .ok (.ifCond .eq 4, 3) := by decide +kernel
theorem dX7_saves_7 : decode cX7_saves 7 = .ok (.return_, 1) := by decide +kernel
theorem dX7_saves_8 : decode cX7_saves 8 = .ok (.aload_n 0, 1) := by decide +kernel
theorem dX7_saves_9 : decode cX7_saves 9 = .ok (.getfield 39, 3) := by decide +kernel
theorem dX7_saves_12 : decode cX7_saves 12 = .ok (.iconst 4, 1) := by decide +kernel
theorem dX7_saves_13 : decode cX7_saves 13 = .ok (.if_icmp .ne 44, 3) := by decide +kernel
theorem dX7_saves_16 : decode cX7_saves 16 = .ok (.iconst 0, 1) := by decide +kernel
theorem dX7_saves_17 : decode cX7_saves 17 = .ok (.istore_n 1, 1) := by decide +kernel
theorem dX7_saves_18 : decode cX7_saves 18 = .ok (.iload_n 1, 1) := by decide +kernel
theorem dX7_saves_19 : decode cX7_saves 19 = .ok (.sipush 1788, 3) := by decide +kernel
theorem dX7_saves_22 : decode cX7_saves 22 = .ok (.if_icmp .ge 25, 3) := by decide +kernel
theorem dX7_saves_25 : decode cX7_saves 25 = .ok (.aload_n 0, 1) := by decide +kernel
theorem dX7_saves_26 : decode cX7_saves 26 = .ok (.getfield 13, 3) := by decide +kernel
theorem dX7_saves_29 : decode cX7_saves 29 = .ok (.iload_n 1, 1) := by decide +kernel
theorem dX7_saves_30 : decode cX7_saves 30 = .ok (.aload_n 0, 1) := by decide +kernel
theorem dX7_saves_31 : decode cX7_saves 31 = .ok (.getfield 13, 3) := by decide +kernel
theorem dX7_saves_34 : decode cX7_saves 34 = .ok (.iload_n 1, 1) := by decide +kernel
theorem dX7_saves_35 : decode cX7_saves 35 = .ok (.sipush 596, 3) := by decide +kernel
theorem dX7_saves_38 : decode cX7_saves 38 = .ok (.iadd, 1) := by decide +kernel
theorem dX7_saves_39 : decode cX7_saves 39 = .ok (.iaload, 1) := by decide +kernel
theorem dX7_saves_40 : decode cX7_saves 40 = .ok (.iastore, 1) := by decide +kernel
theorem dX7_saves_41 : decode cX7_saves 41 = .ok (.iinc 1 1, 3) := by decide +kernel
theorem dX7_saves_44 : decode cX7_saves 44 = .ok (.goto (-26), 3) := by decide +kernel
theorem dX7_saves_47 : decode cX7_saves 47 = .ok (.aload_n 0, 1) := by decide +kernel
theorem dX7_saves_48 : decode cX7_saves 48 = .ok (.dup, 1) := by decide +kernel
theorem dX7_saves_49 : decode cX7_saves 49 = .ok (.getfield 39, 3) := by decide +kernel
theorem dX7_saves_52 : decode cX7_saves 52 = .ok (.iconst 1, 1) := by decide +kernel
theorem dX7_saves_53 : decode cX7_saves 53 = .ok (.isub, 1) := by decide +kernel
theorem dX7_saves_54 : decode cX7_saves 54 = .ok (.putfield 39, 3) := by decide +kernel
theorem dX7_saves_57 : decode cX7_saves 57 = .ok (.iconst 0, 1) := by decide +kernel
theorem dX7_saves_58 : decode cX7_saves 58 = .ok (.istore_n 1, 1) := by decide +kernel
theorem dX7_saves_59 : decode cX7_saves 59 = .ok (.iload_n 1, 1) := by decide +kernel
theorem dX7_saves_60 : decode cX7_saves 60 = .ok (.sipush 596, 3) := by decide +kernel
theorem dX7_saves_63 : decode cX7_saves 63 = .ok (.if_icmp .ge 30, 3) := by decide +kernel
theorem dX7_saves_66 : decode cX7_saves 66 = .ok (.aload_n 0, 1) := by decide +kernel
theorem dX7_saves_67 : decode cX7_saves 67 = .ok (.getfield 13, 3) := by decide +kernel
theorem dX7_saves_70 : decode cX7_saves 70 = .ok (.sipush 596, 3) := by decide +kernel
theorem dX7_saves_73 : decode cX7_saves 73 = .ok (.aload_n 0, 1) := by decide +kernel
theorem dX7_saves_74 : decode cX7_saves 74 = .ok (.getfield 39, 3) := by decide +kernel
theorem dX7_saves_77 : decode cX7_saves 77 = .ok (.imul, 1) := by decide +kernel
theorem dX7_saves_78 : decode cX7_saves 78 = .ok (.iload_n 1, 1) := by decide +kernel
theorem dX7_saves_79 : decode cX7_saves 79 = .ok (.iadd, 1) := by decide +kernel
theorem dX7_saves_80 : decode cX7_saves 80 = .ok (.aload_n 0, 1) := by decide +kernel
theorem dX7_saves_81 : decode cX7_saves 81 = .ok (.getfield 7, 3) := by decide +kernel
theorem dX7_saves_84 : decode cX7_saves 84 = .ok (.iload_n 1, 1) := by decide +kernel
theorem dX7_saves_85 : decode cX7_saves 85 = .ok (.iaload, 1) := by decide +kernel
theorem dX7_saves_86 : decode cX7_saves 86 = .ok (.iastore, 1) := by decide +kernel
theorem dX7_saves_87 : decode cX7_saves 87 = .ok (.iinc 1 1, 3) := by decide +kernel
theorem dX7_saves_90 : decode cX7_saves 90 = .ok (.goto (-31), 3) := by decide +kernel
theorem dX7_saves_93 : decode cX7_saves 93 = .ok (.aload_n 0, 1) := by decide +kernel
theorem dX7_saves_94 : decode cX7_saves 94 = .ok (.dup, 1) := by decide +kernel
theorem dX7_saves_95 : decode cX7_saves 95 = .ok (.getfield 39, 3) := by decide +kernel
theorem dX7_saves_98 : decode cX7_saves 98 = .ok (.iconst 1, 1) := by decide +kernel
theorem dX7_saves_99 : decode cX7_saves 99 = .ok (.iadd, 1) := by decide +kernel
theorem dX7_saves_100 : decode cX7_saves 100 = .ok (.putfield 39, 3) := by decide +kernel
theorem dX7_saves_103 : decode cX7_saves 103 = .ok (.return_, 1) := by decide +kernel
set_option maxRecDepth 20000 in
theorem ggX7_undo_X7_refused : GoodIn wsX7_undo wsX7_refused := goodIn_r _ [8, 9, 10, 11, 12, 13, 14, 15, 16, 17, 18, 19, 20, 21, 22, 23] (by decide +kernel) (by decide +kernel)
set_option maxRecDepth 20000 in
theorem gX7_undo_X7_refused : GoodIn wsX7_undo (wsV RX7 42 RX7 yX7_refused wsX7_refused) := goodIn_app (goodIn_of _ (by decide +kernel)) ggX7_undo_X7_refused
theorem dX7_undo_0 : decode cX7_undo 0 = .ok (.aload_n 0, 1) := by decide +kernel
theorem dX7_undo_1 : decode cX7_undo 1 = .ok (.aload_n 0, 1) := by decide +kernel
theorem dX7_undo_2 : decode cX7_undo 2 = .ok (.getfield 39, 3) := by decide +kernel
theorem dX7_undo_5 : decode cX7_undo 5 = .ok (.ifCond .ne 7, 3) := by decide +kernel
theorem dX7_undo_8 : decode cX7_undo 8 = .ok (.iconst 1, 1) := by decide +kernel
theorem dX7_undo_9 : decode cX7_undo 9 = .ok (.goto 4, 3) := by decide +kernel
theorem dX7_undo_12 : decode cX7_undo 12 = .ok (.iconst 0, 1) := by decide +kernel
theorem dX7_undo_13 : decode cX7_undo 13 = .ok (.invokevirtual 42, 3) := by decide +kernel
theorem dX7_undo_16 : decode cX7_undo 16 = .ok (.ifCond .eq 5, 3) := by decide +kernel
theorem dX7_undo_19 : decode cX7_undo 19 = .ok (.iconst 0, 1) := by decide +kernel
theorem dX7_undo_20 : decode cX7_undo 20 = .ok (.ireturn, 1) := by decide +kernel
theorem dX7_undo_21 : decode cX7_undo 21 = .ok (.aload_n 0, 1) := by decide +kernel
theorem dX7_undo_22 : decode cX7_undo 22 = .ok (.dup, 1) := by decide +kernel
theorem dX7_undo_23 : decode cX7_undo 23 = .ok (.getfield 39, 3) := by decide +kernel
theorem dX7_undo_26 : decode cX7_undo 26 = .ok (.iconst 1, 1) := by decide +kernel
theorem dX7_undo_27 : decode cX7_undo 27 = .ok (.isub, 1) := by decide +kernel
theorem dX7_undo_28 : decode cX7_undo 28 = .ok (.putfield 39, 3) := by decide +kernel
theorem dX7_undo_31 : decode cX7_undo 31 = .ok (.iconst 0, 1) := by decide +kernel
theorem dX7_undo_32 : decode cX7_undo 32 = .ok (.istore_n 1, 1) := by decide +kernel
theorem dX7_undo_33 : decode cX7_undo 33 = .ok (.iload_n 1, 1) := by decide +kernel
theorem dX7_undo_34 : decode cX7_undo 34 = .ok (.sipush 596, 3) := by decide +kernel
theorem dX7_undo_37 : decode cX7_undo 37 = .ok (.if_icmp .ge 30, 3) := by decide +kernel
theorem dX7_undo_40 : decode cX7_undo 40 = .ok (.aload_n 0, 1) := by decide +kernel
theorem dX7_undo_41 : decode cX7_undo 41 = .ok (.getfield 7, 3) := by decide +kernel
theorem dX7_undo_44 : decode cX7_undo 44 = .ok (.iload_n 1, 1) := by decide +kernel
theorem dX7_undo_45 : decode cX7_undo 45 = .ok (.aload_n 0, 1) := by decide +kernel
theorem dX7_undo_46 : decode cX7_undo 46 = .ok (.getfield 13, 3) := by decide +kernel
theorem dX7_undo_49 : decode cX7_undo 49 = .ok (.sipush 596, 3) := by decide +kernel
theorem dX7_undo_52 : decode cX7_undo 52 = .ok (.aload_n 0, 1) := by decide +kernel
theorem dX7_undo_53 : decode cX7_undo 53 = .ok (.getfield 39, 3) := by decide +kernel
theorem dX7_undo_56 : decode cX7_undo 56 = .ok (.imul, 1) := by decide +kernel
theorem dX7_undo_57 : decode cX7_undo 57 = .ok (.iload_n 1, 1) := by decide +kernel
theorem dX7_undo_58 : decode cX7_undo 58 = .ok (.iadd, 1) := by decide +kernel
theorem dX7_undo_59 : decode cX7_undo 59 = .ok (.iaload, 1) := by decide +kernel
theorem dX7_undo_60 : decode cX7_undo 60 = .ok (.iastore, 1) := by decide +kernel
theorem dX7_undo_61 : decode cX7_undo 61 = .ok (.iinc 1 1, 3) := by decide +kernel
theorem dX7_undo_64 : decode cX7_undo 64 = .ok (.goto (-31), 3) := by decide +kernel
theorem dX7_undo_67 : decode cX7_undo 67 = .ok (.aload_n 0, 1) := by decide +kernel
theorem dX7_undo_68 : decode cX7_undo 68 = .ok (.getfield 39, 3) := by decide +kernel
theorem dX7_undo_71 : decode cX7_undo 71 = .ok (.ireturn, 1) := by decide +kernel
theorem dX7_of_0 : decode cX7_of 0 = .ok (.aload_n 0, 1) := by decide +kernel
theorem dX7_of_1 : decode cX7_of 1 = .ok (.getfield 7, 3) := by decide +kernel
theorem dX7_of_4 : decode cX7_of 4 = .ok (.bipush 116, 2) := by decide +kernel
theorem dX7_of_6 : decode cX7_of 6 = .ok (.bipush 12, 2) := by decide +kernel
theorem dX7_of_8 : decode cX7_of 8 = .ok (.iload_n 1, 1) := by decide +kernel
theorem dX7_of_9 : decode cX7_of 9 = .ok (.imul, 1) := by decide +kernel
theorem dX7_of_10 : decode cX7_of 10 = .ok (.iadd, 1) := by decide +kernel
theorem dX7_of_11 : decode cX7_of 11 = .ok (.iload_n 2, 1) := by decide +kernel
theorem dX7_of_12 : decode cX7_of 12 = .ok (.iadd, 1) := by decide +kernel
theorem dX7_of_13 : decode cX7_of 13 = .ok (.iaload, 1) := by decide +kernel
theorem dX7_of_14 : decode cX7_of 14 = .ok (.ireturn, 1) := by decide +kernel
theorem dX7_put_0 : decode cX7_put 0 = .ok (.aload_n 0, 1) := by decide +kernel
theorem dX7_put_1 : decode cX7_put 1 = .ok (.getfield 7, 3) := by decide +kernel
theorem dX7_put_4 : decode cX7_put 4 = .ok (.bipush 116, 2) := by decide +kernel
theorem dX7_put_6 : decode cX7_put 6 = .ok (.bipush 12, 2) := by decide +kernel
theorem dX7_put_8 : decode cX7_put 8 = .ok (.iload_n 1, 1) := by decide +kernel
theorem dX7_put_9 : decode cX7_put 9 = .ok (.imul, 1) := by decide +kernel
theorem dX7_put_10 : decode cX7_put 10 = .ok (.iadd, 1) := by decide +kernel
theorem dX7_put_11 : decode cX7_put 11 = .ok (.iload_n 2, 1) := by decide +kernel
theorem dX7_put_12 : decode cX7_put 12 = .ok (.iadd, 1) := by decide +kernel
theorem dX7_put_13 : decode cX7_put 13 = .ok (.iload_n 3, 1) := by decide +kernel
theorem dX7_put_14 : decode cX7_put 14 = .ok (.iastore, 1) := by decide +kernel
theorem dX7_put_15 : decode cX7_put 15 = .ok (.return_, 1) := by decide +kernel
theorem dX7_control_0 : decode cX7_control 0 = .ok (.aload_n 0, 1) := by decide +kernel
theorem dX7_control_1 : decode cX7_control 1 = .ok (.getfield 7, 3) := by decide +kernel
theorem dX7_control_4 : decode cX7_control 4 = .ok (.bipush 20, 2) := by decide +kernel
theorem dX7_control_6 : decode cX7_control 6 = .ok (.bipush 8, 2) := by decide +kernel
theorem dX7_control_8 : decode cX7_control 8 = .ok (.iload_n 1, 1) := by decide +kernel
theorem dX7_control_9 : decode cX7_control 9 = .ok (.imul, 1) := by decide +kernel
theorem dX7_control_10 : decode cX7_control 10 = .ok (.iadd, 1) := by decide +kernel
theorem dX7_control_11 : decode cX7_control 11 = .ok (.iload_n 2, 1) := by decide +kernel
theorem dX7_control_12 : decode cX7_control 12 = .ok (.iadd, 1) := by decide +kernel
theorem dX7_control_13 : decode cX7_control 13 = .ok (.iaload, 1) := by decide +kernel
theorem dX7_control_14 : decode cX7_control 14 = .ok (.ireturn, 1) := by decide +kernel
theorem dX7_more_0 : decode cX7_more 0 = .ok (.aload_n 0, 1) := by decide +kernel
theorem dX7_more_1 : decode cX7_more 1 = .ok (.getfield 7, 3) := by decide +kernel
theorem dX7_more_4 : decode cX7_more 4 = .ok (.bipush 20, 2) := by decide +kernel
theorem dX7_more_6 : decode cX7_more 6 = .ok (.bipush 8, 2) := by decide +kernel
theorem dX7_more_8 : decode cX7_more 8 = .ok (.iload_n 1, 1) := by decide +kernel
theorem dX7_more_9 : decode cX7_more 9 = .ok (.imul, 1) := by decide +kernel
theorem dX7_more_10 : decode cX7_more 10 = .ok (.iadd, 1) := by decide +kernel
theorem dX7_more_11 : decode cX7_more 11 = .ok (.iload_n 2, 1) := by decide +kernel
theorem dX7_more_12 : decode cX7_more 12 = .ok (.iadd, 1) := by decide +kernel
theorem dX7_more_13 : decode cX7_more 13 = .ok (.dup2, 1) := by decide +kernel
theorem dX7_more_14 : decode cX7_more 14 = .ok (.iaload, 1) := by decide +kernel
theorem dX7_more_15 : decode cX7_more 15 = .ok (.iconst 1, 1) := by decide +kernel
theorem dX7_more_16 : decode cX7_more 16 = .ok (.iadd, 1) := by decide +kernel
theorem dX7_more_17 : decode cX7_more 17 = .ok (.iastore, 1) := by decide +kernel
theorem dX7_more_18 : decode cX7_more 18 = .ok (.return_, 1) := by decide +kernel
set_option maxRecDepth 20000 in
theorem ggX7_isController_X7_within : GoodIn wsX7_isController wsX7_within := goodIn_r _ [4] (by decide +kernel) (by decide +kernel)
set_option maxRecDepth 20000 in
theorem gX7_isController_X7_within : GoodIn wsX7_isController (va_wsS RX7 46 yX7_within wsX7_within) := goodIn_app (goodIn_of _ (by decide +kernel)) ggX7_isController_X7_within
theorem dX7_isController_0 : decode cX7_isController 0 = .ok (.iload_n 0, 1) := by decide +kernel
theorem dX7_isController_1 : decode cX7_isController 1 = .ok (.iconst 0, 1) := by decide +kernel
theorem dX7_isController_2 : decode cX7_isController 2 = .ok (.iconst 1, 1) := by decide +kernel
theorem dX7_isController_3 : decode cX7_isController 3 = .ok (.invokestatic 46, 3) := by decide +kernel
theorem dX7_isController_6 : decode cX7_isController 6 = .ok (.ireturn, 1) := by decide +kernel
set_option maxRecDepth 20000 in
theorem ggX7_isBlock_X7_within : GoodIn wsX7_isBlock wsX7_within := goodIn_r _ [4] (by decide +kernel) (by decide +kernel)
set_option maxRecDepth 20000 in
theorem gX7_isBlock_X7_within : GoodIn wsX7_isBlock (va_wsS RX7 46 yX7_within wsX7_within) := goodIn_app (goodIn_of _ (by decide +kernel)) ggX7_isBlock_X7_within
theorem dX7_isBlock_0 : decode cX7_isBlock 0 = .ok (.iload_n 0, 1) := by decide +kernel
theorem dX7_isBlock_1 : decode cX7_isBlock 1 = .ok (.iconst 0, 1) := by decide +kernel
theorem dX7_isBlock_2 : decode cX7_isBlock 2 = .ok (.bipush 15, 2) := by decide +kernel
theorem dX7_isBlock_4 : decode cX7_isBlock 4 = .ok (.invokestatic 46, 3) := by decide +kernel
theorem dX7_isBlock_7 : decode cX7_isBlock 7 = .ok (.ireturn, 1) := by decide +kernel
set_option maxRecDepth 20000 in
theorem ggX7_isOrder_X7_within : GoodIn wsX7_isOrder wsX7_within := goodIn_r _ [5] (by decide +kernel) (by decide +kernel)
set_option maxRecDepth 20000 in
theorem gX7_isOrder_X7_within : GoodIn wsX7_isOrder (va_wsS RX7 46 yX7_within wsX7_within) := goodIn_app (goodIn_of _ (by decide +kernel)) ggX7_isOrder_X7_within
theorem dX7_isOrder_0 : decode cX7_isOrder 0 = .ok (.iload_n 1, 1) := by decide +kernel
theorem dX7_isOrder_1 : decode cX7_isOrder 1 = .ok (.iconst 0, 1) := by decide +kernel
theorem dX7_isOrder_2 : decode cX7_isOrder 2 = .ok (.aload_n 0, 1) := by decide +kernel
theorem dX7_isOrder_3 : decode cX7_isOrder 3 = .ok (.getfield 7, 3) := by decide +kernel
theorem dX7_isOrder_6 : decode cX7_isOrder 6 = .ok (.iconst 1, 1) := by decide +kernel
theorem dX7_isOrder_7 : decode cX7_isOrder 7 = .ok (.iaload, 1) := by decide +kernel
theorem dX7_isOrder_8 : decode cX7_isOrder 8 = .ok (.iconst 1, 1) := by decide +kernel
theorem dX7_isOrder_9 : decode cX7_isOrder 9 = .ok (.isub, 1) := by decide +kernel
theorem dX7_isOrder_10 : decode cX7_isOrder 10 = .ok (.invokestatic 46, 3) := by decide +kernel
theorem dX7_isOrder_13 : decode cX7_isOrder 13 = .ok (.ireturn, 1) := by decide +kernel
set_option maxRecDepth 20000 in
theorem ggX7_isOpen_X7_of : GoodIn wsX7_isOpen wsX7_of := goodIn_r _ [5, 6, 7, 8, 9, 10, 11, 12, 13, 14, 15, 16, 17, 18, 19, 20] (by decide +kernel) (by decide +kernel)
set_option maxRecDepth 20000 in
theorem gX7_isOpen_X7_of : GoodIn wsX7_isOpen (wsV RX7 50 RX7 yX7_of wsX7_of) := goodIn_app (goodIn_of _ (by decide +kernel)) ggX7_isOpen_X7_of
theorem dX7_isOpen_0 : decode cX7_isOpen 0 = .ok (.aload_n 0, 1) := by decide +kernel
theorem dX7_isOpen_1 : decode cX7_isOpen 1 = .ok (.iload_n 1, 1) := by decide +kernel
theorem dX7_isOpen_2 : decode cX7_isOpen 2 = .ok (.iconst 5, 1) := by decide +kernel
theorem dX7_isOpen_3 : decode cX7_isOpen 3 = .ok (.invokevirtual 50, 3) := by decide +kernel
theorem dX7_isOpen_6 : decode cX7_isOpen 6 = .ok (.ifCond .eq 13, 3) := by decide +kernel
theorem dX7_isOpen_9 : decode cX7_isOpen 9 = .ok (.aload_n 0, 1) := by decide +kernel
theorem dX7_isOpen_10 : decode cX7_isOpen 10 = .ok (.iload_n 1, 1) := by decide +kernel
theorem dX7_isOpen_11 : decode cX7_isOpen 11 = .ok (.iconst 5, 1) := by decide +kernel
theorem dX7_isOpen_12 : decode cX7_isOpen 12 = .ok (.invokevirtual 50, 3) := by decide +kernel
theorem dX7_isOpen_15 : decode cX7_isOpen 15 = .ok (.iconst 1, 1) := by decide +kernel
theorem dX7_isOpen_16 : decode cX7_isOpen 16 = .ok (.if_icmp .ne 7, 3) := by decide +kernel
theorem dX7_isOpen_19 : decode cX7_isOpen 19 = .ok (.iconst 1, 1) := by decide +kernel
theorem dX7_isOpen_20 : decode cX7_isOpen 20 = .ok (.goto 4, 3) := by decide +kernel
theorem dX7_isOpen_23 : decode cX7_isOpen 23 = .ok (.iconst 0, 1) := by decide +kernel
theorem dX7_isOpen_24 : decode cX7_isOpen 24 = .ok (.ireturn, 1) := by decide +kernel
set_option maxRecDepth 20000 in
theorem ggX7_isTag_X7_within : GoodIn wsX7_isTag wsX7_within := goodIn_r _ [4] (by decide +kernel) (by decide +kernel)
set_option maxRecDepth 20000 in
theorem gX7_isTag_X7_within : GoodIn wsX7_isTag (va_wsS RX7 46 yX7_within wsX7_within) := goodIn_app (goodIn_of _ (by decide +kernel)) ggX7_isTag_X7_within
theorem dX7_isTag_0 : decode cX7_isTag 0 = .ok (.iload_n 0, 1) := by decide +kernel
theorem dX7_isTag_1 : decode cX7_isTag 1 = .ok (.iconst 0, 1) := by decide +kernel
theorem dX7_isTag_2 : decode cX7_isTag 2 = .ok (.iconst 3, 1) := by decide +kernel
theorem dX7_isTag_3 : decode cX7_isTag 3 = .ok (.invokestatic 46, 3) := by decide +kernel
theorem dX7_isTag_6 : decode cX7_isTag 6 = .ok (.ifCond .eq 17, 3) := by decide +kernel
theorem dX7_isTag_9 : decode cX7_isTag 9 = .ok (.iload_n 1, 1) := by decide +kernel
theorem dX7_isTag_10 : decode cX7_isTag 10 = .ok (.iconst 0, 1) := by decide +kernel
theorem dX7_isTag_11 : decode cX7_isTag 11 = .ok (.bipush 31, 2) := by decide +kernel
theorem dX7_isTag_13 : decode cX7_isTag 13 = .ok (.invokestatic 46, 3) := by decide +kernel
theorem dX7_isTag_16 : decode cX7_isTag 16 = .ok (.ifCond .eq 7, 3) := by decide +kernel
theorem dX7_isTag_19 : decode cX7_isTag 19 = .ok (.iconst 1, 1) := by decide +kernel
theorem dX7_isTag_20 : decode cX7_isTag 20 = .ok (.goto 4, 3) := by decide +kernel
theorem dX7_isTag_23 : decode cX7_isTag 23 = .ok (.iconst 0, 1) := by decide +kernel
theorem dX7_isTag_24 : decode cX7_isTag 24 = .ok (.ireturn, 1) := by decide +kernel
set_option maxRecDepth 20000 in
theorem ggX7_latest_X7_of : GoodIn wsX7_latest wsX7_of := goodIn_r _ [6, 1, 7, 8, 9, 10, 11, 12, 13, 14, 15, 16, 17, 18, 19, 20] (by decide +kernel) (by decide +kernel)
set_option maxRecDepth 20000 in
theorem gX7_latest_X7_of : GoodIn wsX7_latest (wsV RX7 50 RX7 yX7_of wsX7_of) := goodIn_app (goodIn_of _ (by decide +kernel)) ggX7_latest_X7_of
theorem dX7_latest_0 : decode cX7_latest 0 = .ok (.iconst (-1), 1) := by decide +kernel
theorem dX7_latest_1 : decode cX7_latest 1 = .ok (.istore_n 3, 1) := by decide +kernel
theorem dX7_latest_2 : decode cX7_latest 2 = .ok (.iconst 0, 1) := by decide +kernel
theorem dX7_latest_3 : decode cX7_latest 3 = .ok (.istore 4, 2) := by decide +kernel
theorem dX7_latest_5 : decode cX7_latest 5 = .ok (.iload 4, 2) := by decide +kernel
theorem dX7_latest_7 : decode cX7_latest 7 = .ok (.aload_n 0, 1) := by decide +kernel
theorem dX7_latest_8 : decode cX7_latest 8 = .ok (.getfield 7, 3) := by decide +kernel
theorem dX7_latest_11 : decode cX7_latest 11 = .ok (.iconst 1, 1) := by decide +kernel
theorem dX7_latest_12 : decode cX7_latest 12 = .ok (.iaload, 1) := by decide +kernel
theorem dX7_latest_13 : decode cX7_latest 13 = .ok (.if_icmp .ge 38, 3) := by decide +kernel
theorem dX7_latest_16 : decode cX7_latest 16 = .ok (.aload_n 0, 1) := by decide +kernel
theorem dX7_latest_17 : decode cX7_latest 17 = .ok (.iload 4, 2) := by decide +kernel
theorem dX7_latest_19 : decode cX7_latest 19 = .ok (.iconst 0, 1) := by decide +kernel
theorem dX7_latest_20 : decode cX7_latest 20 = .ok (.invokevirtual 50, 3) := by decide +kernel
theorem dX7_latest_23 : decode cX7_latest 23 = .ok (.iload_n 1, 1) := by decide +kernel
theorem dX7_latest_24 : decode cX7_latest 24 = .ok (.if_icmp .ne 19, 3) := by decide +kernel
theorem dX7_latest_27 : decode cX7_latest 27 = .ok (.aload_n 0, 1) := by decide +kernel
theorem dX7_latest_28 : decode cX7_latest 28 = .ok (.iload 4, 2) := by decide +kernel
theorem dX7_latest_30 : decode cX7_latest 30 = .ok (.iconst 1, 1) := by decide +kernel
theorem dX7_latest_31 : decode cX7_latest 31 = .ok (.invokevirtual 50, 3) := by decide +kernel
theorem dX7_latest_34 : decode cX7_latest 34 = .ok (.iload_n 2, 1) := by decide +kernel
theorem dX7_latest_35 : decode cX7_latest 35 = .ok (.if_icmp .ne 8, 3) := by decide +kernel
theorem dX7_latest_38 : decode cX7_latest 38 = .ok (.iload 4, 2) := by decide +kernel
theorem dX7_latest_40 : decode cX7_latest 40 = .ok (.goto 4, 3) := by decide +kernel
theorem dX7_latest_43 : decode cX7_latest 43 = .ok (.iload_n 3, 1) := by decide +kernel
theorem dX7_latest_44 : decode cX7_latest 44 = .ok (.istore_n 3, 1) := by decide +kernel
theorem dX7_latest_45 : decode cX7_latest 45 = .ok (.iinc 4 1, 3) := by decide +kernel
theorem dX7_latest_48 : decode cX7_latest 48 = .ok (.goto (-43), 3) := by decide +kernel
theorem dX7_latest_51 : decode cX7_latest 51 = .ok (.iload_n 3, 1) := by decide +kernel
theorem dX7_latest_52 : decode cX7_latest 52 = .ok (.ireturn, 1) := by decide +kernel
set_option maxRecDepth 20000 in
theorem ggX7_canBe_X7_isBlock : GoodIn wsX7_canBe wsX7_isBlock := goodIn_r _ [4, 5, 6, 3, 7] (by decide +kernel) (by decide +kernel)
set_option maxRecDepth 20000 in
theorem gX7_canBe_X7_isBlock : GoodIn wsX7_canBe (va_wsS RX7 54 yX7_isBlock wsX7_isBlock) := goodIn_app (goodIn_of _ (by decide +kernel)) ggX7_canBe_X7_isBlock
set_option maxRecDepth 20000 in
theorem ggX7_canBe_X7_within : GoodIn wsX7_canBe wsX7_within := goodIn_r _ [7] (by decide +kernel) (by decide +kernel)
set_option maxRecDepth 20000 in
theorem gX7_canBe_X7_within : GoodIn wsX7_canBe (va_wsS RX7 46 yX7_within wsX7_within) := goodIn_app (goodIn_of _ (by decide +kernel)) ggX7_canBe_X7_within
theorem dX7_canBe_0 : decode cX7_canBe 0 = .ok (.iload_n 0, 1) := by decide +kernel
theorem dX7_canBe_1 : decode cX7_canBe 1 = .ok (.tableswitch 91 0 3 #[31, 31, 57, 77], 31) := by decide +kernel
theorem dX7_canBe_32 : decode cX7_canBe 32 = .ok (.iload_n 1, 1) := by decide +kernel
theorem dX7_canBe_33 : decode cX7_canBe 33 = .ok (.invokestatic 54, 3) := by decide +kernel
theorem dX7_canBe_36 : decode cX7_canBe 36 = .ok (.ifCond .eq 20, 3) := by decide +kernel
theorem dX7_canBe_39 : decode cX7_canBe 39 = .ok (.iload_n 2, 1) := by decide +kernel
theorem dX7_canBe_40 : decode cX7_canBe 40 = .ok (.sipush (-999), 3) := by decide +kernel
theorem dX7_canBe_43 : decode cX7_canBe 43 = .ok (.sipush 999, 3) := by decide +kernel
theorem dX7_canBe_46 : decode cX7_canBe 46 = .ok (.invokestatic 46, 3) := by decide +kernel
theorem dX7_canBe_49 : decode cX7_canBe 49 = .ok (.ifCond .eq 7, 3) := by decide +kernel
theorem dX7_canBe_52 : decode cX7_canBe 52 = .ok (.iconst 1, 1) := by decide +kernel
theorem dX7_canBe_53 : decode cX7_canBe 53 = .ok (.goto 4, 3) := by decide +kernel
theorem dX7_canBe_56 : decode cX7_canBe 56 = .ok (.iconst 0, 1) := by decide +kernel
theorem dX7_canBe_57 : decode cX7_canBe 57 = .ok (.ireturn, 1) := by decide +kernel
theorem dX7_canBe_58 : decode cX7_canBe 58 = .ok (.iload_n 1, 1) := by decide +kernel
theorem dX7_canBe_59 : decode cX7_canBe 59 = .ok (.invokestatic 54, 3) := by decide +kernel
theorem dX7_canBe_62 : decode cX7_canBe 62 = .ok (.ifCond .eq 14, 3) := by decide +kernel
theorem dX7_canBe_65 : decode cX7_canBe 65 = .ok (.iload_n 2, 1) := by decide +kernel
theorem dX7_canBe_66 : decode cX7_canBe 66 = .ok (.invokestatic 54, 3) := by decide +kernel
theorem dX7_canBe_69 : decode cX7_canBe 69 = .ok (.ifCond .eq 7, 3) := by decide +kernel
theorem dX7_canBe_72 : decode cX7_canBe 72 = .ok (.iconst 1, 1) := by decide +kernel
theorem dX7_canBe_73 : decode cX7_canBe 73 = .ok (.goto 4, 3) := by decide +kernel
theorem dX7_canBe_76 : decode cX7_canBe 76 = .ok (.iconst 0, 1) := by decide +kernel
theorem dX7_canBe_77 : decode cX7_canBe 77 = .ok (.ireturn, 1) := by decide +kernel
theorem dX7_canBe_78 : decode cX7_canBe 78 = .ok (.iload_n 1, 1) := by decide +kernel
theorem dX7_canBe_79 : decode cX7_canBe 79 = .ok (.ifCond .ne 11, 3) := by decide +kernel
theorem dX7_canBe_82 : decode cX7_canBe 82 = .ok (.iload_n 2, 1) := by decide +kernel
theorem dX7_canBe_83 : decode cX7_canBe 83 = .ok (.ifCond .ne 7, 3) := by decide +kernel
theorem dX7_canBe_86 : decode cX7_canBe 86 = .ok (.iconst 1, 1) := by decide +kernel
theorem dX7_canBe_87 : decode cX7_canBe 87 = .ok (.goto 4, 3) := by decide +kernel
theorem dX7_canBe_90 : decode cX7_canBe 90 = .ok (.iconst 0, 1) := by decide +kernel
theorem dX7_canBe_91 : decode cX7_canBe 91 = .ok (.ireturn, 1) := by decide +kernel
theorem dX7_canBe_92 : decode cX7_canBe 92 = .ok (.iconst 0, 1) := by decide +kernel
theorem dX7_canBe_93 : decode cX7_canBe 93 = .ok (.ireturn, 1) := by decide +kernel
set_option maxRecDepth 20000 in
theorem ggX7_order_X7_isTag : GoodIn wsX7_order wsX7_isTag := goodIn_r _ [5, 6, 7, 4, 8] (by decide +kernel) (by decide +kernel)
set_option maxRecDepth 20000 in
theorem gX7_order_X7_isTag : GoodIn wsX7_order (va_wsS RX7 57 yX7_isTag wsX7_isTag) := goodIn_app (goodIn_of _ (by decide +kernel)) ggX7_order_X7_isTag
set_option maxRecDepth 20000 in
theorem ggX7_order_X7_canBe : GoodIn wsX7_order wsX7_canBe := goodIn_r _ [11, 12, 13, 4, 14, 6, 7, 8] (by decide +kernel) (by decide +kernel)
set_option maxRecDepth 20000 in
theorem gX7_order_X7_canBe : GoodIn wsX7_order (va_wsS RX7 61 yX7_canBe wsX7_canBe) := goodIn_app (goodIn_of _ (by decide +kernel)) ggX7_order_X7_canBe
set_option maxRecDepth 20000 in
theorem ggX7_order_X7_latest : GoodIn wsX7_order wsX7_latest := goodIn_r _ [18, 1, 19, 20, 21, 4, 22, 51, 52, 53, 54, 55, 56, 57, 58, 59, 60, 61, 62, 63, 64] (by decide +kernel) (by decide +kernel)
set_option maxRecDepth 20000 in
theorem gX7_order_X7_latest : GoodIn wsX7_order (wsV RX7 64 RX7 yX7_latest wsX7_latest) := goodIn_app (goodIn_of _ (by decide +kernel)) ggX7_order_X7_latest
set_option maxRecDepth 20000 in
theorem ggX7_order_X7_isOpen : GoodIn wsX7_order wsX7_isOpen := goodIn_r _ [26, 19, 20, 21, 4, 22, 1, 51, 52, 53, 54, 55, 56, 57, 58, 59, 60, 61, 62, 63, 64] (by decide +kernel) (by decide +kernel)
set_option maxRecDepth 20000 in
theorem gX7_order_X7_isOpen : GoodIn wsX7_order (wsV RX7 67 RX7 yX7_isOpen wsX7_isOpen) := goodIn_app (goodIn_of _ (by decide +kernel)) ggX7_order_X7_isOpen
set_option maxRecDepth 20000 in
theorem ggX7_order_X7_refused : GoodIn wsX7_order wsX7_refused := goodIn_r _ [30, 31, 51, 52, 53, 54, 55, 56, 57, 58, 59, 60, 61, 62, 63, 64] (by decide +kernel) (by decide +kernel)
set_option maxRecDepth 20000 in
theorem gX7_order_X7_refused : GoodIn wsX7_order (wsV RX7 42 RX7 yX7_refused wsX7_refused) := goodIn_app (goodIn_of _ (by decide +kernel)) ggX7_order_X7_refused
set_option maxRecDepth 20000 in
theorem ggX7_order_X7_saves : GoodIn wsX7_order wsX7_saves := goodIn_r _ [35, 36, 37, 38, 1, 51, 52, 53, 54, 55, 56, 57, 58, 59, 60, 61, 62, 63, 64] (by decide +kernel) (by decide +kernel)
set_option maxRecDepth 20000 in
theorem gX7_order_X7_saves : GoodIn wsX7_order (wsV RX7 70 RX7 yX7_saves wsX7_saves) := goodIn_app (goodIn_of _ (by decide +kernel)) ggX7_order_X7_saves
set_option maxRecDepth 20000 in
theorem ggX7_order_X7_put : GoodIn wsX7_order wsX7_put := goodIn_r _ [42, 1, 51, 52, 53, 54, 55, 56, 57, 58, 59, 60, 61, 62, 63, 64] (by decide +kernel) (by decide +kernel)
set_option maxRecDepth 20000 in
theorem gX7_order_X7_put : GoodIn wsX7_order (wsV RX7 73 RX7 yX7_put wsX7_put) := goodIn_app (goodIn_of _ (by decide +kernel)) ggX7_order_X7_put
set_option maxRecDepth 20000 in
theorem ggX7_order_X7_control : GoodIn wsX7_order wsX7_control := goodIn_r _ [46, 1, 51, 52, 53, 54, 55, 56, 57, 58, 59, 60, 61, 62, 63, 64] (by decide +kernel) (by decide +kernel)
set_option maxRecDepth 20000 in
theorem gX7_order_X7_control : GoodIn wsX7_order (wsV RX7 77 RX7 yX7_control wsX7_control) := goodIn_app (goodIn_of _ (by decide +kernel)) ggX7_order_X7_control
set_option maxRecDepth 20000 in
theorem ggX7_order_X7_more : GoodIn wsX7_order wsX7_more := goodIn_r _ [50, 1, 51, 52, 53, 54, 55, 56, 57, 58, 59, 60, 61, 62, 63, 64] (by decide +kernel) (by decide +kernel)
set_option maxRecDepth 20000 in
theorem gX7_order_X7_more : GoodIn wsX7_order (wsV RX7 80 RX7 yX7_more wsX7_more) := goodIn_app (goodIn_of _ (by decide +kernel)) ggX7_order_X7_more
theorem dX7_order_0 : decode cX7_order 0 = .ok (.iload_n 1, 1) := by decide +kernel
theorem dX7_order_1 : decode cX7_order 1 = .ok (.iload_n 2, 1) := by decide +kernel
theorem dX7_order_2 : decode cX7_order 2 = .ok (.invokestatic 57, 3) := by decide +kernel
theorem dX7_order_5 : decode cX7_order 5 = .ok (.ifCond .eq 18, 3) := by decide +kernel
theorem dX7_order_8 : decode cX7_order 8 = .ok (.iload_n 3, 1) := by decide +kernel
theorem dX7_order_9 : decode cX7_order 9 = .ok (.iload 4, 2) := by decide +kernel
theorem dX7_order_11 : decode cX7_order 11 = .ok (.iload 5, 2) := by decide +kernel
theorem dX7_order_13 : decode cX7_order 13 = .ok (.invokestatic 61, 3) := by decide +kernel
theorem dX7_order_16 : decode cX7_order 16 = .ok (.ifCond .eq 7, 3) := by decide +kernel
theorem dX7_order_19 : decode cX7_order 19 = .ok (.iconst 1, 1) := by decide +kernel
theorem dX7_order_20 : decode cX7_order 20 = .ok (.goto 4, 3) := by decide +kernel
theorem dX7_order_23 : decode cX7_order 23 = .ok (.iconst 0, 1) := by decide +kernel
theorem dX7_order_24 : decode cX7_order 24 = .ok (.istore 6, 2) := by decide +kernel
theorem dX7_order_26 : decode cX7_order 26 = .ok (.iload 6, 2) := by decide +kernel
theorem dX7_order_28 : decode cX7_order 28 = .ok (.ifCond .eq 12, 3) := by decide +kernel
theorem dX7_order_31 : decode cX7_order 31 = .ok (.aload_n 0, 1) := by decide +kernel
theorem dX7_order_32 : decode cX7_order 32 = .ok (.iload_n 1, 1) := by decide +kernel
theorem dX7_order_33 : decode cX7_order 33 = .ok (.iload_n 2, 1) := by decide +kernel
theorem dX7_order_34 : decode cX7_order 34 = .ok (.invokevirtual 64, 3) := by decide +kernel
theorem dX7_order_37 : decode cX7_order 37 = .ok (.goto 4, 3) := by decide +kernel
theorem dX7_order_40 : decode cX7_order 40 = .ok (.iconst (-1), 1) := by decide +kernel
theorem dX7_order_41 : decode cX7_order 41 = .ok (.istore 7, 2) := by decide +kernel
theorem dX7_order_43 : decode cX7_order 43 = .ok (.iload 7, 2) := by decide +kernel
theorem dX7_order_45 : decode cX7_order 45 = .ok (.iconst (-1), 1) := by decide +kernel
theorem dX7_order_46 : decode cX7_order 46 = .ok (.if_icmp .eq 12, 3) := by decide +kernel
theorem dX7_order_49 : decode cX7_order 49 = .ok (.aload_n 0, 1) := by decide +kernel
theorem dX7_order_50 : decode cX7_order 50 = .ok (.iload 7, 2) := by decide +kernel
theorem dX7_order_52 : decode cX7_order 52 = .ok (.invokevirtual 67, 3) := by decide +kernel
theorem dX7_order_55 : decode cX7_order 55 = .ok (.ifCond .ne 7, 3) := by decide +kernel
theorem dX7_order_58 : decode cX7_order 58 = .ok (.iconst 1, 1) := by decide +kernel
theorem dX7_order_59 : decode cX7_order 59 = .ok (.goto 4, 3) := by decide +kernel
theorem dX7_order_62 : decode cX7_order 62 = .ok (.iconst 0, 1) := by decide +kernel
theorem dX7_order_63 : decode cX7_order 63 = .ok (.istore 8, 2) := by decide +kernel
theorem dX7_order_65 : decode cX7_order 65 = .ok (.aload_n 0, 1) := by decide +kernel
theorem dX7_order_66 : decode cX7_order 66 = .ok (.iload 6, 2) := by decide +kernel
theorem dX7_order_68 : decode cX7_order 68 = .ok (.ifCond .ne 7, 3) := by decide +kernel
theorem dX7_order_71 : decode cX7_order 71 = .ok (.iconst 1, 1) := by decide +kernel
theorem dX7_order_72 : decode cX7_order 72 = .ok (.goto 24, 3) := by decide +kernel
theorem dX7_order_75 : decode cX7_order 75 = .ok (.aload_n 0, 1) := by decide +kernel
theorem dX7_order_76 : decode cX7_order 76 = .ok (.getfield 7, 3) := by decide +kernel
theorem dX7_order_79 : decode cX7_order 79 = .ok (.iconst 1, 1) := by decide +kernel
theorem dX7_order_80 : decode cX7_order 80 = .ok (.iaload, 1) := by decide +kernel
theorem dX7_order_81 : decode cX7_order 81 = .ok (.bipush 40, 2) := by decide +kernel
theorem dX7_order_83 : decode cX7_order 83 = .ok (.if_icmp .eq 8, 3) := by decide +kernel
theorem dX7_order_86 : decode cX7_order 86 = .ok (.iload 8, 2) := by decide +kernel
theorem dX7_order_88 : decode cX7_order 88 = .ok (.ifCond .ne 7, 3) := by decide +kernel
theorem dX7_order_91 : decode cX7_order 91 = .ok (.iconst 2, 1) := by decide +kernel
theorem dX7_order_92 : decode cX7_order 92 = .ok (.goto 4, 3) := by decide +kernel
theorem dX7_order_95 : decode cX7_order 95 = .ok (.iconst 0, 1) := by decide +kernel
theorem dX7_order_96 : decode cX7_order 96 = .ok (.invokevirtual 42, 3) := by decide +kernel
theorem dX7_order_99 : decode cX7_order 99 = .ok (.ifCond .eq 5, 3) := by decide +kernel
theorem dX7_order_102 : decode cX7_order 102 = .ok (.iconst 0, 1) := by decide +kernel
theorem dX7_order_103 : decode cX7_order 103 = .ok (.ireturn, 1) := by decide +kernel
theorem dX7_order_104 : decode cX7_order 104 = .ok (.aload_n 0, 1) := by decide +kernel
theorem dX7_order_105 : decode cX7_order 105 = .ok (.invokevirtual 70, 3) := by decide +kernel
theorem dX7_order_108 : decode cX7_order 108 = .ok (.aload_n 0, 1) := by decide +kernel
theorem dX7_order_109 : decode cX7_order 109 = .ok (.getfield 7, 3) := by decide +kernel
theorem dX7_order_112 : decode cX7_order 112 = .ok (.iconst 1, 1) := by decide +kernel
theorem dX7_order_113 : decode cX7_order 113 = .ok (.iaload, 1) := by decide +kernel
theorem dX7_order_114 : decode cX7_order 114 = .ok (.istore 9, 2) := by decide +kernel
theorem dX7_order_116 : decode cX7_order 116 = .ok (.aload_n 0, 1) := by decide +kernel
theorem dX7_order_117 : decode cX7_order 117 = .ok (.getfield 7, 3) := by decide +kernel
theorem dX7_order_120 : decode cX7_order 120 = .ok (.iconst 1, 1) := by decide +kernel
theorem dX7_order_121 : decode cX7_order 121 = .ok (.dup2, 1) := by decide +kernel
theorem dX7_order_122 : decode cX7_order 122 = .ok (.iaload, 1) := by decide +kernel
theorem dX7_order_123 : decode cX7_order 123 = .ok (.iconst 1, 1) := by decide +kernel
theorem dX7_order_124 : decode cX7_order 124 = .ok (.iadd, 1) := by decide +kernel
theorem dX7_order_125 : decode cX7_order 125 = .ok (.iastore, 1) := by decide +kernel
theorem dX7_order_126 : decode cX7_order 126 = .ok (.aload_n 0, 1) := by decide +kernel
theorem dX7_order_127 : decode cX7_order 127 = .ok (.iload 9, 2) := by decide +kernel
theorem dX7_order_129 : decode cX7_order 129 = .ok (.iconst 0, 1) := by decide +kernel
theorem dX7_order_130 : decode cX7_order 130 = .ok (.iload_n 1, 1) := by decide +kernel
theorem dX7_order_131 : decode cX7_order 131 = .ok (.invokevirtual 73, 3) := by decide +kernel
theorem dX7_order_134 : decode cX7_order 134 = .ok (.aload_n 0, 1) := by decide +kernel
theorem dX7_order_135 : decode cX7_order 135 = .ok (.iload 9, 2) := by decide +kernel
theorem dX7_order_137 : decode cX7_order 137 = .ok (.iconst 1, 1) := by decide +kernel
theorem dX7_order_138 : decode cX7_order 138 = .ok (.iload_n 2, 1) := by decide +kernel
theorem dX7_order_139 : decode cX7_order 139 = .ok (.invokevirtual 73, 3) := by decide +kernel
theorem dX7_order_142 : decode cX7_order 142 = .ok (.aload_n 0, 1) := by decide +kernel
theorem dX7_order_143 : decode cX7_order 143 = .ok (.iload 9, 2) := by decide +kernel
theorem dX7_order_145 : decode cX7_order 145 = .ok (.iconst 2, 1) := by decide +kernel
theorem dX7_order_146 : decode cX7_order 146 = .ok (.iload_n 3, 1) := by decide +kernel
theorem dX7_order_147 : decode cX7_order 147 = .ok (.invokevirtual 73, 3) := by decide +kernel
theorem dX7_order_150 : decode cX7_order 150 = .ok (.aload_n 0, 1) := by decide +kernel
theorem dX7_order_151 : decode cX7_order 151 = .ok (.iload 9, 2) := by decide +kernel
theorem dX7_order_153 : decode cX7_order 153 = .ok (.iconst 3, 1) := by decide +kernel
theorem dX7_order_154 : decode cX7_order 154 = .ok (.iload 4, 2) := by decide +kernel
theorem dX7_order_156 : decode cX7_order 156 = .ok (.invokevirtual 73, 3) := by decide +kernel
theorem dX7_order_159 : decode cX7_order 159 = .ok (.aload_n 0, 1) := by decide +kernel
theorem dX7_order_160 : decode cX7_order 160 = .ok (.iload 9, 2) := by decide +kernel
theorem dX7_order_162 : decode cX7_order 162 = .ok (.iconst 4, 1) := by decide +kernel
theorem dX7_order_163 : decode cX7_order 163 = .ok (.iload 5, 2) := by decide +kernel
theorem dX7_order_165 : decode cX7_order 165 = .ok (.invokevirtual 73, 3) := by decide +kernel
theorem dX7_order_168 : decode cX7_order 168 = .ok (.aload_n 0, 1) := by decide +kernel
theorem dX7_order_169 : decode cX7_order 169 = .ok (.iload 9, 2) := by decide +kernel
theorem dX7_order_171 : decode cX7_order 171 = .ok (.iconst 5, 1) := by decide +kernel
theorem dX7_order_172 : decode cX7_order 172 = .ok (.iconst 0, 1) := by decide +kernel
theorem dX7_order_173 : decode cX7_order 173 = .ok (.invokevirtual 73, 3) := by decide +kernel
theorem dX7_order_176 : decode cX7_order 176 = .ok (.aload_n 0, 1) := by decide +kernel
theorem dX7_order_177 : decode cX7_order 177 = .ok (.iload 9, 2) := by decide +kernel
theorem dX7_order_179 : decode cX7_order 179 = .ok (.bipush 6, 2) := by decide +kernel
theorem dX7_order_181 : decode cX7_order 181 = .ok (.iconst (-1), 1) := by decide +kernel
theorem dX7_order_182 : decode cX7_order 182 = .ok (.invokevirtual 73, 3) := by decide +kernel
theorem dX7_order_185 : decode cX7_order 185 = .ok (.aload_n 0, 1) := by decide +kernel
theorem dX7_order_186 : decode cX7_order 186 = .ok (.iload 9, 2) := by decide +kernel
theorem dX7_order_188 : decode cX7_order 188 = .ok (.bipush 7, 2) := by decide +kernel
theorem dX7_order_190 : decode cX7_order 190 = .ok (.aload_n 0, 1) := by decide +kernel
theorem dX7_order_191 : decode cX7_order 191 = .ok (.getfield 7, 3) := by decide +kernel
theorem dX7_order_194 : decode cX7_order 194 = .ok (.iconst 0, 1) := by decide +kernel
theorem dX7_order_195 : decode cX7_order 195 = .ok (.iaload, 1) := by decide +kernel
theorem dX7_order_196 : decode cX7_order 196 = .ok (.invokevirtual 73, 3) := by decide +kernel
theorem dX7_order_199 : decode cX7_order 199 = .ok (.aload_n 0, 1) := by decide +kernel
theorem dX7_order_200 : decode cX7_order 200 = .ok (.iload 9, 2) := by decide +kernel
theorem dX7_order_202 : decode cX7_order 202 = .ok (.bipush 8, 2) := by decide +kernel
theorem dX7_order_204 : decode cX7_order 204 = .ok (.iconst (-1), 1) := by decide +kernel
theorem dX7_order_205 : decode cX7_order 205 = .ok (.invokevirtual 73, 3) := by decide +kernel
theorem dX7_order_208 : decode cX7_order 208 = .ok (.aload_n 0, 1) := by decide +kernel
theorem dX7_order_209 : decode cX7_order 209 = .ok (.iload 9, 2) := by decide +kernel
theorem dX7_order_211 : decode cX7_order 211 = .ok (.bipush 9, 2) := by decide +kernel
theorem dX7_order_213 : decode cX7_order 213 = .ok (.iconst 0, 1) := by decide +kernel
theorem dX7_order_214 : decode cX7_order 214 = .ok (.invokevirtual 73, 3) := by decide +kernel
theorem dX7_order_217 : decode cX7_order 217 = .ok (.iconst 0, 1) := by decide +kernel
theorem dX7_order_218 : decode cX7_order 218 = .ok (.istore 10, 2) := by decide +kernel
theorem dX7_order_220 : decode cX7_order 220 = .ok (.iload 10, 2) := by decide +kernel
theorem dX7_order_222 : decode cX7_order 222 = .ok (.iconst 2, 1) := by decide +kernel
theorem dX7_order_223 : decode cX7_order 223 = .ok (.if_icmp .ge 64, 3) := by decide +kernel
theorem dX7_order_226 : decode cX7_order 226 = .ok (.aload_n 0, 1) := by decide +kernel
theorem dX7_order_227 : decode cX7_order 227 = .ok (.iload 9, 2) := by decide +kernel
theorem dX7_order_229 : decode cX7_order 229 = .ok (.bipush 10, 2) := by decide +kernel
theorem dX7_order_231 : decode cX7_order 231 = .ok (.iload 10, 2) := by decide +kernel
theorem dX7_order_233 : decode cX7_order 233 = .ok (.iadd, 1) := by decide +kernel
theorem dX7_order_234 : decode cX7_order 234 = .ok (.aload_n 0, 1) := by decide +kernel
theorem dX7_order_235 : decode cX7_order 235 = .ok (.getfield 7, 3) := by decide +kernel
theorem dX7_order_238 : decode cX7_order 238 = .ok (.iconst 0, 1) := by decide +kernel
theorem dX7_order_239 : decode cX7_order 239 = .ok (.iaload, 1) := by decide +kernel
theorem dX7_order_240 : decode cX7_order 240 = .ok (.aload_n 0, 1) := by decide +kernel
theorem dX7_order_241 : decode cX7_order 241 = .ok (.iload 10, 2) := by decide +kernel
theorem dX7_order_243 : decode cX7_order 243 = .ok (.iconst 1, 1) := by decide +kernel
theorem dX7_order_244 : decode cX7_order 244 = .ok (.invokevirtual 77, 3) := by decide +kernel
theorem dX7_order_247 : decode cX7_order 247 = .ok (.iadd, 1) := by decide +kernel
theorem dX7_order_248 : decode cX7_order 248 = .ok (.invokevirtual 73, 3) := by decide +kernel
theorem dX7_order_251 : decode cX7_order 251 = .ok (.aload_n 0, 1) := by decide +kernel
theorem dX7_order_252 : decode cX7_order 252 = .ok (.getfield 7, 3) := by decide +kernel
theorem dX7_order_255 : decode cX7_order 255 = .ok (.bipush 36, 2) := by decide +kernel
theorem dX7_order_257 : decode cX7_order 257 = .ok (.bipush 40, 2) := by decide +kernel
theorem dX7_order_259 : decode cX7_order 259 = .ok (.iload 10, 2) := by decide +kernel
theorem dX7_order_261 : decode cX7_order 261 = .ok (.imul, 1) := by decide +kernel
theorem dX7_order_262 : decode cX7_order 262 = .ok (.iadd, 1) := by decide +kernel
theorem dX7_order_263 : decode cX7_order 263 = .ok (.aload_n 0, 1) := by decide +kernel
theorem dX7_order_264 : decode cX7_order 264 = .ok (.iload 10, 2) := by decide +kernel
theorem dX7_order_266 : decode cX7_order 266 = .ok (.iconst 3, 1) := by decide +kernel
theorem dX7_order_267 : decode cX7_order 267 = .ok (.invokevirtual 77, 3) := by decide +kernel
theorem dX7_order_270 : decode cX7_order 270 = .ok (.iadd, 1) := by decide +kernel
theorem dX7_order_271 : decode cX7_order 271 = .ok (.iload 9, 2) := by decide +kernel
theorem dX7_order_273 : decode cX7_order 273 = .ok (.iastore, 1) := by decide +kernel
theorem dX7_order_274 : decode cX7_order 274 = .ok (.aload_n 0, 1) := by decide +kernel
theorem dX7_order_275 : decode cX7_order 275 = .ok (.iload 10, 2) := by decide +kernel
theorem dX7_order_277 : decode cX7_order 277 = .ok (.iconst 3, 1) := by decide +kernel
theorem dX7_order_278 : decode cX7_order 278 = .ok (.invokevirtual 80, 3) := by decide +kernel
theorem dX7_order_281 : decode cX7_order 281 = .ok (.iinc 10 1, 3) := by decide +kernel
theorem dX7_order_284 : decode cX7_order 284 = .ok (.goto (-64), 3) := by decide +kernel
theorem dX7_order_287 : decode cX7_order 287 = .ok (.iload 9, 2) := by decide +kernel
theorem dX7_order_289 : decode cX7_order 289 = .ok (.ireturn, 1) := by decide +kernel
set_option maxRecDepth 20000 in
theorem ggX7_cancel_X7_isTag : GoodIn wsX7_cancel wsX7_isTag := goodIn_r _ [4, 5, 6, 3, 7] (by decide +kernel) (by decide +kernel)
set_option maxRecDepth 20000 in
theorem gX7_cancel_X7_isTag : GoodIn wsX7_cancel (va_wsS RX7 57 yX7_isTag wsX7_isTag) := goodIn_app (goodIn_of _ (by decide +kernel)) ggX7_cancel_X7_isTag
set_option maxRecDepth 20000 in
theorem ggX7_cancel_X7_latest : GoodIn wsX7_cancel wsX7_latest := goodIn_r _ [11, 12, 13, 14, 15, 3, 16, 33, 34, 35, 36, 37, 38, 39, 40, 41, 42, 43, 44, 45, 46] (by decide +kernel) (by decide +kernel)
set_option maxRecDepth 20000 in
theorem gX7_cancel_X7_latest : GoodIn wsX7_cancel (wsV RX7 64 RX7 yX7_latest wsX7_latest) := goodIn_app (goodIn_of _ (by decide +kernel)) ggX7_cancel_X7_latest
set_option maxRecDepth 20000 in
theorem ggX7_cancel_X7_of : GoodIn wsX7_cancel wsX7_of := goodIn_r _ [16, 12, 33, 34, 35, 36, 37, 38, 39, 40, 41, 42, 43, 44, 45, 46] (by decide +kernel) (by decide +kernel)
set_option maxRecDepth 20000 in
theorem gX7_cancel_X7_of : GoodIn wsX7_cancel (wsV RX7 50 RX7 yX7_of wsX7_of) := goodIn_app (goodIn_of _ (by decide +kernel)) ggX7_cancel_X7_of
set_option maxRecDepth 20000 in
theorem ggX7_cancel_X7_refused : GoodIn wsX7_cancel wsX7_refused := goodIn_r _ [20, 21, 33, 34, 35, 36, 37, 38, 39, 40, 41, 42, 43, 44, 45, 46] (by decide +kernel) (by decide +kernel)
set_option maxRecDepth 20000 in
theorem gX7_cancel_X7_refused : GoodIn wsX7_cancel (wsV RX7 42 RX7 yX7_refused wsX7_refused) := goodIn_app (goodIn_of _ (by decide +kernel)) ggX7_cancel_X7_refused
set_option maxRecDepth 20000 in
theorem ggX7_cancel_X7_saves : GoodIn wsX7_cancel wsX7_saves := goodIn_r _ [25, 26, 27, 28, 12, 33, 34, 35, 36, 37, 38, 39, 40, 41, 42, 43, 44, 45, 46] (by decide +kernel) (by decide +kernel)
set_option maxRecDepth 20000 in
theorem gX7_cancel_X7_saves : GoodIn wsX7_cancel (wsV RX7 70 RX7 yX7_saves wsX7_saves) := goodIn_app (goodIn_of _ (by decide +kernel)) ggX7_cancel_X7_saves
set_option maxRecDepth 20000 in
theorem ggX7_cancel_X7_put : GoodIn wsX7_cancel wsX7_put := goodIn_r _ [32, 12, 33, 34, 35, 36, 37, 38, 39, 40, 41, 42, 43, 44, 45, 46] (by decide +kernel) (by decide +kernel)
set_option maxRecDepth 20000 in
theorem gX7_cancel_X7_put : GoodIn wsX7_cancel (wsV RX7 73 RX7 yX7_put wsX7_put) := goodIn_app (goodIn_of _ (by decide +kernel)) ggX7_cancel_X7_put
theorem dX7_cancel_0 : decode cX7_cancel 0 = .ok (.iload_n 1, 1) := by decide +kernel
theorem dX7_cancel_1 : decode cX7_cancel 1 = .ok (.iload_n 2, 1) := by decide +kernel
theorem dX7_cancel_2 : decode cX7_cancel 2 = .ok (.invokestatic 57, 3) := by decide +kernel
theorem dX7_cancel_5 : decode cX7_cancel 5 = .ok (.istore_n 3, 1) := by decide +kernel
theorem dX7_cancel_6 : decode cX7_cancel 6 = .ok (.iload_n 3, 1) := by decide +kernel
theorem dX7_cancel_7 : decode cX7_cancel 7 = .ok (.ifCond .eq 12, 3) := by decide +kernel
theorem dX7_cancel_10 : decode cX7_cancel 10 = .ok (.aload_n 0, 1) := by decide +kernel
theorem dX7_cancel_11 : decode cX7_cancel 11 = .ok (.iload_n 1, 1) := by decide +kernel
theorem dX7_cancel_12 : decode cX7_cancel 12 = .ok (.iload_n 2, 1) := by decide +kernel
theorem dX7_cancel_13 : decode cX7_cancel 13 = .ok (.invokevirtual 64, 3) := by decide +kernel
theorem dX7_cancel_16 : decode cX7_cancel 16 = .ok (.goto 4, 3) := by decide +kernel
theorem dX7_cancel_19 : decode cX7_cancel 19 = .ok (.iconst (-1), 1) := by decide +kernel
theorem dX7_cancel_20 : decode cX7_cancel 20 = .ok (.istore 4, 2) := by decide +kernel
theorem dX7_cancel_22 : decode cX7_cancel 22 = .ok (.iload 4, 2) := by decide +kernel
theorem dX7_cancel_24 : decode cX7_cancel 24 = .ok (.iconst (-1), 1) := by decide +kernel
theorem dX7_cancel_25 : decode cX7_cancel 25 = .ok (.if_icmp .eq 17, 3) := by decide +kernel
theorem dX7_cancel_28 : decode cX7_cancel 28 = .ok (.aload_n 0, 1) := by decide +kernel
theorem dX7_cancel_29 : decode cX7_cancel 29 = .ok (.iload 4, 2) := by decide +kernel
theorem dX7_cancel_31 : decode cX7_cancel 31 = .ok (.iconst 5, 1) := by decide +kernel
theorem dX7_cancel_32 : decode cX7_cancel 32 = .ok (.invokevirtual 50, 3) := by decide +kernel
theorem dX7_cancel_35 : decode cX7_cancel 35 = .ok (.ifCond .ne 7, 3) := by decide +kernel
theorem dX7_cancel_38 : decode cX7_cancel 38 = .ok (.iconst 1, 1) := by decide +kernel
theorem dX7_cancel_39 : decode cX7_cancel 39 = .ok (.goto 4, 3) := by decide +kernel
theorem dX7_cancel_42 : decode cX7_cancel 42 = .ok (.iconst 0, 1) := by decide +kernel
theorem dX7_cancel_43 : decode cX7_cancel 43 = .ok (.istore 5, 2) := by decide +kernel
theorem dX7_cancel_45 : decode cX7_cancel 45 = .ok (.aload_n 0, 1) := by decide +kernel
theorem dX7_cancel_46 : decode cX7_cancel 46 = .ok (.iload_n 3, 1) := by decide +kernel
theorem dX7_cancel_47 : decode cX7_cancel 47 = .ok (.ifCond .ne 7, 3) := by decide +kernel
theorem dX7_cancel_50 : decode cX7_cancel 50 = .ok (.iconst 1, 1) := by decide +kernel
theorem dX7_cancel_51 : decode cX7_cancel 51 = .ok (.goto 13, 3) := by decide +kernel
theorem dX7_cancel_54 : decode cX7_cancel 54 = .ok (.iload 5, 2) := by decide +kernel
theorem dX7_cancel_56 : decode cX7_cancel 56 = .ok (.ifCond .ne 7, 3) := by decide +kernel
theorem dX7_cancel_59 : decode cX7_cancel 59 = .ok (.iconst 2, 1) := by decide +kernel
theorem dX7_cancel_60 : decode cX7_cancel 60 = .ok (.goto 4, 3) := by decide +kernel
theorem dX7_cancel_63 : decode cX7_cancel 63 = .ok (.iconst 0, 1) := by decide +kernel
theorem dX7_cancel_64 : decode cX7_cancel 64 = .ok (.invokevirtual 42, 3) := by decide +kernel
theorem dX7_cancel_67 : decode cX7_cancel 67 = .ok (.ifCond .eq 5, 3) := by decide +kernel
theorem dX7_cancel_70 : decode cX7_cancel 70 = .ok (.iconst 0, 1) := by decide +kernel
theorem dX7_cancel_71 : decode cX7_cancel 71 = .ok (.ireturn, 1) := by decide +kernel
theorem dX7_cancel_72 : decode cX7_cancel 72 = .ok (.aload_n 0, 1) := by decide +kernel
theorem dX7_cancel_73 : decode cX7_cancel 73 = .ok (.invokevirtual 70, 3) := by decide +kernel
theorem dX7_cancel_76 : decode cX7_cancel 76 = .ok (.aload_n 0, 1) := by decide +kernel
theorem dX7_cancel_77 : decode cX7_cancel 77 = .ok (.iload 4, 2) := by decide +kernel
theorem dX7_cancel_79 : decode cX7_cancel 79 = .ok (.iconst 5, 1) := by decide +kernel
theorem dX7_cancel_80 : decode cX7_cancel 80 = .ok (.iconst 3, 1) := by decide +kernel
theorem dX7_cancel_81 : decode cX7_cancel 81 = .ok (.invokevirtual 73, 3) := by decide +kernel
theorem dX7_cancel_84 : decode cX7_cancel 84 = .ok (.iload 4, 2) := by decide +kernel
theorem dX7_cancel_86 : decode cX7_cancel 86 = .ok (.ireturn, 1) := by decide +kernel
set_option maxRecDepth 20000 in
theorem ggX7_touches_X7_of : GoodIn wsX7_touches wsX7_of := goodIn_r _ [5, 6, 7, 8, 9, 10, 11, 12, 13, 14, 15, 16, 17, 18, 19, 20] (by decide +kernel) (by decide +kernel)
set_option maxRecDepth 20000 in
theorem gX7_touches_X7_of : GoodIn wsX7_touches (wsV RX7 50 RX7 yX7_of wsX7_of) := goodIn_app (goodIn_of _ (by decide +kernel)) ggX7_touches_X7_of
theorem dX7_touches_0 : decode cX7_touches 0 = .ok (.aload_n 0, 1) := by decide +kernel
theorem dX7_touches_1 : decode cX7_touches 1 = .ok (.iload_n 1, 1) := by decide +kernel
theorem dX7_touches_2 : decode cX7_touches 2 = .ok (.iconst 2, 1) := by decide +kernel
theorem dX7_touches_3 : decode cX7_touches 3 = .ok (.invokevirtual 50, 3) := by decide +kernel
theorem dX7_touches_6 : decode cX7_touches 6 = .ok (.iconst 3, 1) := by decide +kernel
theorem dX7_touches_7 : decode cX7_touches 7 = .ok (.if_icmp .eq 17, 3) := by decide +kernel
theorem dX7_touches_10 : decode cX7_touches 10 = .ok (.aload_n 0, 1) := by decide +kernel
theorem dX7_touches_11 : decode cX7_touches 11 = .ok (.iload_n 1, 1) := by decide +kernel
theorem dX7_touches_12 : decode cX7_touches 12 = .ok (.iconst 3, 1) := by decide +kernel
theorem dX7_touches_13 : decode cX7_touches 13 = .ok (.invokevirtual 50, 3) := by decide +kernel
theorem dX7_touches_16 : decode cX7_touches 16 = .ok (.iload_n 2, 1) := by decide +kernel
theorem dX7_touches_17 : decode cX7_touches 17 = .ok (.if_icmp .ne 7, 3) := by decide +kernel
theorem dX7_touches_20 : decode cX7_touches 20 = .ok (.iconst 1, 1) := by decide +kernel
theorem dX7_touches_21 : decode cX7_touches 21 = .ok (.goto 4, 3) := by decide +kernel
theorem dX7_touches_24 : decode cX7_touches 24 = .ok (.iconst 0, 1) := by decide +kernel
theorem dX7_touches_25 : decode cX7_touches 25 = .ok (.istore_n 3, 1) := by decide +kernel
theorem dX7_touches_26 : decode cX7_touches 26 = .ok (.iload_n 3, 1) := by decide +kernel
theorem dX7_touches_27 : decode cX7_touches 27 = .ok (.ifCond .ne 23, 3) := by decide +kernel
theorem dX7_touches_30 : decode cX7_touches 30 = .ok (.aload_n 0, 1) := by decide +kernel
theorem dX7_touches_31 : decode cX7_touches 31 = .ok (.iload_n 1, 1) := by decide +kernel
theorem dX7_touches_32 : decode cX7_touches 32 = .ok (.iconst 2, 1) := by decide +kernel
theorem dX7_touches_33 : decode cX7_touches 33 = .ok (.invokevirtual 50, 3) := by decide +kernel
theorem dX7_touches_36 : decode cX7_touches 36 = .ok (.iconst 2, 1) := by decide +kernel
theorem dX7_touches_37 : decode cX7_touches 37 = .ok (.if_icmp .ne 17, 3) := by decide +kernel
theorem dX7_touches_40 : decode cX7_touches 40 = .ok (.aload_n 0, 1) := by decide +kernel
theorem dX7_touches_41 : decode cX7_touches 41 = .ok (.iload_n 1, 1) := by decide +kernel
theorem dX7_touches_42 : decode cX7_touches 42 = .ok (.iconst 4, 1) := by decide +kernel
theorem dX7_touches_43 : decode cX7_touches 43 = .ok (.invokevirtual 50, 3) := by decide +kernel
theorem dX7_touches_46 : decode cX7_touches 46 = .ok (.iload_n 2, 1) := by decide +kernel
theorem dX7_touches_47 : decode cX7_touches 47 = .ok (.if_icmp .ne 7, 3) := by decide +kernel
theorem dX7_touches_50 : decode cX7_touches 50 = .ok (.iconst 1, 1) := by decide +kernel
theorem dX7_touches_51 : decode cX7_touches 51 = .ok (.goto 4, 3) := by decide +kernel
theorem dX7_touches_54 : decode cX7_touches 54 = .ok (.iconst 0, 1) := by decide +kernel
theorem dX7_touches_55 : decode cX7_touches 55 = .ok (.ireturn, 1) := by decide +kernel
set_option maxRecDepth 20000 in
theorem ggX7_waits_X7_isOpen : GoodIn wsX7_waits wsX7_isOpen := goodIn_r _ [5, 6, 7, 8, 4, 9, 10, 15, 16, 17, 18, 19, 20, 21, 22, 23, 24, 25, 26, 27, 28] (by decide +kernel) (by decide +kernel)
set_option maxRecDepth 20000 in
theorem gX7_waits_X7_isOpen : GoodIn wsX7_waits (wsV RX7 67 RX7 yX7_isOpen wsX7_isOpen) := goodIn_app (goodIn_of _ (by decide +kernel)) ggX7_waits_X7_isOpen
set_option maxRecDepth 20000 in
theorem ggX7_waits_X7_of : GoodIn wsX7_waits wsX7_of := goodIn_r _ [9, 10, 15, 16, 17, 18, 19, 20, 21, 22, 23, 24, 25, 26, 27, 28] (by decide +kernel) (by decide +kernel)
set_option maxRecDepth 20000 in
theorem gX7_waits_X7_of : GoodIn wsX7_waits (wsV RX7 50 RX7 yX7_of wsX7_of) := goodIn_app (goodIn_of _ (by decide +kernel)) ggX7_waits_X7_of
set_option maxRecDepth 20000 in
theorem ggX7_waits_X7_touches : GoodIn wsX7_waits wsX7_touches := goodIn_r _ [14, 6, 7, 8, 4, 9, 10, 15, 16, 17, 18, 19, 20, 21, 22, 23, 24, 25, 26, 27, 28] (by decide +kernel) (by decide +kernel)
set_option maxRecDepth 20000 in
theorem gX7_waits_X7_touches : GoodIn wsX7_waits (wsV RX7 84 RX7 yX7_touches wsX7_touches) := goodIn_app (goodIn_of _ (by decide +kernel)) ggX7_waits_X7_touches
theorem dX7_waits_0 : decode cX7_waits 0 = .ok (.aload_n 0, 1) := by decide +kernel
theorem dX7_waits_1 : decode cX7_waits 1 = .ok (.iload_n 2, 1) := by decide +kernel
theorem dX7_waits_2 : decode cX7_waits 2 = .ok (.invokevirtual 67, 3) := by decide +kernel
theorem dX7_waits_5 : decode cX7_waits 5 = .ok (.ifCond .ne 5, 3) := by decide +kernel
theorem dX7_waits_8 : decode cX7_waits 8 = .ok (.iconst 0, 1) := by decide +kernel
theorem dX7_waits_9 : decode cX7_waits 9 = .ok (.ireturn, 1) := by decide +kernel
theorem dX7_waits_10 : decode cX7_waits 10 = .ok (.aload_n 0, 1) := by decide +kernel
theorem dX7_waits_11 : decode cX7_waits 11 = .ok (.iload_n 1, 1) := by decide +kernel
theorem dX7_waits_12 : decode cX7_waits 12 = .ok (.iconst 2, 1) := by decide +kernel
theorem dX7_waits_13 : decode cX7_waits 13 = .ok (.invokevirtual 50, 3) := by decide +kernel
theorem dX7_waits_16 : decode cX7_waits 16 = .ok (.iconst 3, 1) := by decide +kernel
theorem dX7_waits_17 : decode cX7_waits 17 = .ok (.if_icmp .eq 13, 3) := by decide +kernel
theorem dX7_waits_20 : decode cX7_waits 20 = .ok (.aload_n 0, 1) := by decide +kernel
theorem dX7_waits_21 : decode cX7_waits 21 = .ok (.iload_n 2, 1) := by decide +kernel
theorem dX7_waits_22 : decode cX7_waits 22 = .ok (.iconst 2, 1) := by decide +kernel
theorem dX7_waits_23 : decode cX7_waits 23 = .ok (.invokevirtual 50, 3) := by decide +kernel
theorem dX7_waits_26 : decode cX7_waits 26 = .ok (.iconst 3, 1) := by decide +kernel
theorem dX7_waits_27 : decode cX7_waits 27 = .ok (.if_icmp .ne 7, 3) := by decide +kernel
theorem dX7_waits_30 : decode cX7_waits 30 = .ok (.iconst 1, 1) := by decide +kernel
theorem dX7_waits_31 : decode cX7_waits 31 = .ok (.goto 4, 3) := by decide +kernel
theorem dX7_waits_34 : decode cX7_waits 34 = .ok (.iconst 0, 1) := by decide +kernel
theorem dX7_waits_35 : decode cX7_waits 35 = .ok (.istore_n 3, 1) := by decide +kernel
theorem dX7_waits_36 : decode cX7_waits 36 = .ok (.iconst 0, 1) := by decide +kernel
theorem dX7_waits_37 : decode cX7_waits 37 = .ok (.istore 4, 2) := by decide +kernel
theorem dX7_waits_39 : decode cX7_waits 39 = .ok (.iload 4, 2) := by decide +kernel
theorem dX7_waits_41 : decode cX7_waits 41 = .ok (.bipush 16, 2) := by decide +kernel
theorem dX7_waits_43 : decode cX7_waits 43 = .ok (.if_icmp .ge 39, 3) := by decide +kernel
theorem dX7_waits_46 : decode cX7_waits 46 = .ok (.iload_n 3, 1) := by decide +kernel
theorem dX7_waits_47 : decode cX7_waits 47 = .ok (.ifCond .ne 23, 3) := by decide +kernel
theorem dX7_waits_50 : decode cX7_waits 50 = .ok (.aload_n 0, 1) := by decide +kernel
theorem dX7_waits_51 : decode cX7_waits 51 = .ok (.iload_n 1, 1) := by decide +kernel
theorem dX7_waits_52 : decode cX7_waits 52 = .ok (.iload 4, 2) := by decide +kernel
theorem dX7_waits_54 : decode cX7_waits 54 = .ok (.invokevirtual 84, 3) := by decide +kernel
theorem dX7_waits_57 : decode cX7_waits 57 = .ok (.ifCond .eq 17, 3) := by decide +kernel
theorem dX7_waits_60 : decode cX7_waits 60 = .ok (.aload_n 0, 1) := by decide +kernel
theorem dX7_waits_61 : decode cX7_waits 61 = .ok (.iload_n 2, 1) := by decide +kernel
theorem dX7_waits_62 : decode cX7_waits 62 = .ok (.iload 4, 2) := by decide +kernel
theorem dX7_waits_64 : decode cX7_waits 64 = .ok (.invokevirtual 84, 3) := by decide +kernel
theorem dX7_waits_67 : decode cX7_waits 67 = .ok (.ifCond .eq 7, 3) := by decide +kernel
theorem dX7_waits_70 : decode cX7_waits 70 = .ok (.iconst 1, 1) := by decide +kernel
theorem dX7_waits_71 : decode cX7_waits 71 = .ok (.goto 4, 3) := by decide +kernel
theorem dX7_waits_74 : decode cX7_waits 74 = .ok (.iconst 0, 1) := by decide +kernel
theorem dX7_waits_75 : decode cX7_waits 75 = .ok (.istore_n 3, 1) := by decide +kernel
theorem dX7_waits_76 : decode cX7_waits 76 = .ok (.iinc 4 1, 3) := by decide +kernel
theorem dX7_waits_79 : decode cX7_waits 79 = .ok (.goto (-40), 3) := by decide +kernel
theorem dX7_waits_82 : decode cX7_waits 82 = .ok (.iload_n 3, 1) := by decide +kernel
theorem dX7_waits_83 : decode cX7_waits 83 = .ok (.ireturn, 1) := by decide +kernel
set_option maxRecDepth 20000 in
theorem ggX7_firstWaited_X7_waits : GoodIn wsX7_firstWaited wsX7_waits := goodIn_r _ [5, 6, 7, 8, 4, 9, 10, 11, 12, 13, 14, 15, 16, 17, 18, 19, 20, 21, 22, 23, 24, 25, 26, 27, 28, 29, 30, 31, 32] (by decide +kernel) (by decide +kernel)
set_option maxRecDepth 20000 in
theorem gX7_firstWaited_X7_waits : GoodIn wsX7_firstWaited (wsV RX7 87 RX7 yX7_waits wsX7_waits) := goodIn_app (goodIn_of _ (by decide +kernel)) ggX7_firstWaited_X7_waits
theorem dX7_firstWaited_0 : decode cX7_firstWaited 0 = .ok (.iconst 0, 1) := by decide +kernel
theorem dX7_firstWaited_1 : decode cX7_firstWaited 1 = .ok (.istore_n 2, 1) := by decide +kernel
theorem dX7_firstWaited_2 : decode cX7_firstWaited 2 = .ok (.iload_n 2, 1) := by decide +kernel
theorem dX7_firstWaited_3 : decode cX7_firstWaited 3 = .ok (.iload_n 1, 1) := by decide +kernel
theorem dX7_firstWaited_4 : decode cX7_firstWaited 4 = .ok (.if_icmp .ge 20, 3) := by decide +kernel
theorem dX7_firstWaited_7 : decode cX7_firstWaited 7 = .ok (.aload_n 0, 1) := by decide +kernel
theorem dX7_firstWaited_8 : decode cX7_firstWaited 8 = .ok (.iload_n 1, 1) := by decide +kernel
theorem dX7_firstWaited_9 : decode cX7_firstWaited 9 = .ok (.iload_n 2, 1) := by decide +kernel
theorem dX7_firstWaited_10 : decode cX7_firstWaited 10 = .ok (.invokevirtual 87, 3) := by decide +kernel
theorem dX7_firstWaited_13 : decode cX7_firstWaited 13 = .ok (.ifCond .eq 5, 3) := by decide +kernel
theorem dX7_firstWaited_16 : decode cX7_firstWaited 16 = .ok (.iload_n 2, 1) := by decide +kernel
theorem dX7_firstWaited_17 : decode cX7_firstWaited 17 = .ok (.ireturn, 1) := by decide +kernel
theorem dX7_firstWaited_18 : decode cX7_firstWaited 18 = .ok (.iinc 2 1, 3) := by decide +kernel
theorem dX7_firstWaited_21 : decode cX7_firstWaited 21 = .ok (.goto (-19), 3) := by decide +kernel
theorem dX7_firstWaited_24 : decode cX7_firstWaited 24 = .ok (.iconst (-1), 1) := by decide +kernel
theorem dX7_firstWaited_25 : decode cX7_firstWaited 25 = .ok (.ireturn, 1) := by decide +kernel
set_option maxRecDepth 20000 in
theorem ggX7_hasArrived_X7_of : GoodIn wsX7_hasArrived wsX7_of := goodIn_r _ [6, 1, 7, 8, 9, 10, 11, 12, 13, 14, 15, 16, 17, 18, 19, 20] (by decide +kernel) (by decide +kernel)
set_option maxRecDepth 20000 in
theorem gX7_hasArrived_X7_of : GoodIn wsX7_hasArrived (wsV RX7 50 RX7 yX7_of wsX7_of) := goodIn_app (goodIn_of _ (by decide +kernel)) ggX7_hasArrived_X7_of
theorem dX7_hasArrived_0 : decode cX7_hasArrived 0 = .ok (.aload_n 0, 1) := by decide +kernel
theorem dX7_hasArrived_1 : decode cX7_hasArrived 1 = .ok (.iload_n 1, 1) := by decide +kernel
theorem dX7_hasArrived_2 : decode cX7_hasArrived 2 = .ok (.bipush 10, 2) := by decide +kernel
theorem dX7_hasArrived_4 : decode cX7_hasArrived 4 = .ok (.iload_n 2, 1) := by decide +kernel
theorem dX7_hasArrived_5 : decode cX7_hasArrived 5 = .ok (.iadd, 1) := by decide +kernel
theorem dX7_hasArrived_6 : decode cX7_hasArrived 6 = .ok (.invokevirtual 50, 3) := by decide +kernel
theorem dX7_hasArrived_9 : decode cX7_hasArrived 9 = .ok (.aload_n 0, 1) := by decide +kernel
theorem dX7_hasArrived_10 : decode cX7_hasArrived 10 = .ok (.getfield 7, 3) := by decide +kernel
theorem dX7_hasArrived_13 : decode cX7_hasArrived 13 = .ok (.iconst 0, 1) := by decide +kernel
theorem dX7_hasArrived_14 : decode cX7_hasArrived 14 = .ok (.iaload, 1) := by decide +kernel
theorem dX7_hasArrived_15 : decode cX7_hasArrived 15 = .ok (.if_icmp .gt 7, 3) := by decide +kernel
theorem dX7_hasArrived_18 : decode cX7_hasArrived 18 = .ok (.iconst 1, 1) := by decide +kernel
theorem dX7_hasArrived_19 : decode cX7_hasArrived 19 = .ok (.goto 4, 3) := by decide +kernel
theorem dX7_hasArrived_22 : decode cX7_hasArrived 22 = .ok (.iconst 0, 1) := by decide +kernel
theorem dX7_hasArrived_23 : decode cX7_hasArrived 23 = .ok (.ireturn, 1) := by decide +kernel
theorem dX7_mailed_0 : decode cX7_mailed 0 = .ok (.aload_n 0, 1) := by decide +kernel
theorem dX7_mailed_1 : decode cX7_mailed 1 = .ok (.getfield 7, 3) := by decide +kernel
theorem dX7_mailed_4 : decode cX7_mailed 4 = .ok (.bipush 36, 2) := by decide +kernel
theorem dX7_mailed_6 : decode cX7_mailed 6 = .ok (.bipush 40, 2) := by decide +kernel
theorem dX7_mailed_8 : decode cX7_mailed 8 = .ok (.iload_n 1, 1) := by decide +kernel
theorem dX7_mailed_9 : decode cX7_mailed 9 = .ok (.imul, 1) := by decide +kernel
theorem dX7_mailed_10 : decode cX7_mailed 10 = .ok (.iadd, 1) := by decide +kernel
theorem dX7_mailed_11 : decode cX7_mailed 11 = .ok (.iload_n 2, 1) := by decide +kernel
theorem dX7_mailed_12 : decode cX7_mailed 12 = .ok (.iadd, 1) := by decide +kernel
theorem dX7_mailed_13 : decode cX7_mailed 13 = .ok (.iaload, 1) := by decide +kernel
theorem dX7_mailed_14 : decode cX7_mailed 14 = .ok (.ireturn, 1) := by decide +kernel
set_option maxRecDepth 20000 in
theorem ggX7_arrived_X7_control : GoodIn wsX7_arrived wsX7_control := goodIn_r _ [5, 6, 19, 20, 21, 22, 23, 24, 25, 26, 27, 28, 29, 30, 31, 32] (by decide +kernel) (by decide +kernel)
set_option maxRecDepth 20000 in
theorem gX7_arrived_X7_control : GoodIn wsX7_arrived (wsV RX7 77 RX7 yX7_control wsX7_control) := goodIn_app (goodIn_of _ (by decide +kernel)) ggX7_arrived_X7_control
set_option maxRecDepth 20000 in
theorem ggX7_arrived_X7_mailed : GoodIn wsX7_arrived wsX7_mailed := goodIn_r _ [10, 6, 19, 20, 21, 22, 23, 24, 25, 26, 27, 28, 29, 30, 31, 32] (by decide +kernel) (by decide +kernel)
set_option maxRecDepth 20000 in
theorem gX7_arrived_X7_mailed : GoodIn wsX7_arrived (wsV RX7 90 RX7 yX7_mailed wsX7_mailed) := goodIn_app (goodIn_of _ (by decide +kernel)) ggX7_arrived_X7_mailed
set_option maxRecDepth 20000 in
theorem ggX7_arrived_X7_hasArrived : GoodIn wsX7_arrived wsX7_hasArrived := goodIn_r _ [14, 6, 15, 16, 17, 4, 18, 19, 20, 21, 22, 23, 24, 25, 26, 27, 28, 29, 30, 31, 32] (by decide +kernel) (by decide +kernel)
set_option maxRecDepth 20000 in
theorem gX7_arrived_X7_hasArrived : GoodIn wsX7_arrived (wsV RX7 93 RX7 yX7_hasArrived wsX7_hasArrived) := goodIn_app (goodIn_of _ (by decide +kernel)) ggX7_arrived_X7_hasArrived
theorem dX7_arrived_0 : decode cX7_arrived 0 = .ok (.iconst 0, 1) := by decide +kernel
theorem dX7_arrived_1 : decode cX7_arrived 1 = .ok (.istore_n 2, 1) := by decide +kernel
theorem dX7_arrived_2 : decode cX7_arrived 2 = .ok (.iconst 0, 1) := by decide +kernel
theorem dX7_arrived_3 : decode cX7_arrived 3 = .ok (.istore_n 3, 1) := by decide +kernel
theorem dX7_arrived_4 : decode cX7_arrived 4 = .ok (.iload_n 3, 1) := by decide +kernel
theorem dX7_arrived_5 : decode cX7_arrived 5 = .ok (.aload_n 0, 1) := by decide +kernel
theorem dX7_arrived_6 : decode cX7_arrived 6 = .ok (.iload_n 1, 1) := by decide +kernel
theorem dX7_arrived_7 : decode cX7_arrived 7 = .ok (.iconst 3, 1) := by decide +kernel
theorem dX7_arrived_8 : decode cX7_arrived 8 = .ok (.invokevirtual 77, 3) := by decide +kernel
theorem dX7_arrived_11 : decode cX7_arrived 11 = .ok (.if_icmp .ge 31, 3) := by decide +kernel
theorem dX7_arrived_14 : decode cX7_arrived 14 = .ok (.iload_n 2, 1) := by decide +kernel
theorem dX7_arrived_15 : decode cX7_arrived 15 = .ok (.aload_n 0, 1) := by decide +kernel
theorem dX7_arrived_16 : decode cX7_arrived 16 = .ok (.aload_n 0, 1) := by decide +kernel
theorem dX7_arrived_17 : decode cX7_arrived 17 = .ok (.iload_n 1, 1) := by decide +kernel
theorem dX7_arrived_18 : decode cX7_arrived 18 = .ok (.iload_n 3, 1) := by decide +kernel
theorem dX7_arrived_19 : decode cX7_arrived 19 = .ok (.invokevirtual 90, 3) := by decide +kernel
theorem dX7_arrived_22 : decode cX7_arrived 22 = .ok (.iload_n 1, 1) := by decide +kernel
theorem dX7_arrived_23 : decode cX7_arrived 23 = .ok (.invokevirtual 93, 3) := by decide +kernel
theorem dX7_arrived_26 : decode cX7_arrived 26 = .ok (.ifCond .eq 7, 3) := by decide +kernel
theorem dX7_arrived_29 : decode cX7_arrived 29 = .ok (.iconst 1, 1) := by decide +kernel
theorem dX7_arrived_30 : decode cX7_arrived 30 = .ok (.goto 4, 3) := by decide +kernel
theorem dX7_arrived_33 : decode cX7_arrived 33 = .ok (.iconst 0, 1) := by decide +kernel
theorem dX7_arrived_34 : decode cX7_arrived 34 = .ok (.iadd, 1) := by decide +kernel
theorem dX7_arrived_35 : decode cX7_arrived 35 = .ok (.istore_n 2, 1) := by decide +kernel
theorem dX7_arrived_36 : decode cX7_arrived 36 = .ok (.iinc 3 1, 3) := by decide +kernel
theorem dX7_arrived_39 : decode cX7_arrived 39 = .ok (.goto (-35), 3) := by decide +kernel
theorem dX7_arrived_42 : decode cX7_arrived 42 = .ok (.iload_n 2, 1) := by decide +kernel
theorem dX7_arrived_43 : decode cX7_arrived 43 = .ok (.ireturn, 1) := by decide +kernel
set_option maxRecDepth 20000 in
theorem ggX7_leaves_X7_control : GoodIn wsX7_leaves wsX7_control := goodIn_r _ [6, 1, 7, 8, 9, 10, 11, 12, 13, 14, 15, 16, 17, 18, 19, 20] (by decide +kernel) (by decide +kernel)
set_option maxRecDepth 20000 in
theorem gX7_leaves_X7_control : GoodIn wsX7_leaves (wsV RX7 77 RX7 yX7_control wsX7_control) := goodIn_app (goodIn_of _ (by decide +kernel)) ggX7_leaves_X7_control
theorem dX7_leaves_0 : decode cX7_leaves 0 = .ok (.aload_n 0, 1) := by decide +kernel
theorem dX7_leaves_1 : decode cX7_leaves 1 = .ok (.getfield 7, 3) := by decide +kernel
theorem dX7_leaves_4 : decode cX7_leaves 4 = .ok (.bipush 20, 2) := by decide +kernel
theorem dX7_leaves_6 : decode cX7_leaves 6 = .ok (.bipush 8, 2) := by decide +kernel
theorem dX7_leaves_8 : decode cX7_leaves 8 = .ok (.iload_n 1, 1) := by decide +kernel
theorem dX7_leaves_9 : decode cX7_leaves 9 = .ok (.imul, 1) := by decide +kernel
theorem dX7_leaves_10 : decode cX7_leaves 10 = .ok (.iadd, 1) := by decide +kernel
theorem dX7_leaves_11 : decode cX7_leaves 11 = .ok (.iconst 3, 1) := by decide +kernel
theorem dX7_leaves_12 : decode cX7_leaves 12 = .ok (.iadd, 1) := by decide +kernel
theorem dX7_leaves_13 : decode cX7_leaves 13 = .ok (.dup2, 1) := by decide +kernel
theorem dX7_leaves_14 : decode cX7_leaves 14 = .ok (.iaload, 1) := by decide +kernel
theorem dX7_leaves_15 : decode cX7_leaves 15 = .ok (.iconst 1, 1) := by decide +kernel
theorem dX7_leaves_16 : decode cX7_leaves 16 = .ok (.isub, 1) := by decide +kernel
theorem dX7_leaves_17 : decode cX7_leaves 17 = .ok (.iastore, 1) := by decide +kernel
theorem dX7_leaves_18 : decode cX7_leaves 18 = .ok (.iload_n 2, 1) := by decide +kernel
theorem dX7_leaves_19 : decode cX7_leaves 19 = .ok (.istore_n 3, 1) := by decide +kernel
theorem dX7_leaves_20 : decode cX7_leaves 20 = .ok (.iload_n 3, 1) := by decide +kernel
theorem dX7_leaves_21 : decode cX7_leaves 21 = .ok (.aload_n 0, 1) := by decide +kernel
theorem dX7_leaves_22 : decode cX7_leaves 22 = .ok (.iload_n 1, 1) := by decide +kernel
theorem dX7_leaves_23 : decode cX7_leaves 23 = .ok (.iconst 3, 1) := by decide +kernel
theorem dX7_leaves_24 : decode cX7_leaves 24 = .ok (.invokevirtual 77, 3) := by decide +kernel
theorem dX7_leaves_27 : decode cX7_leaves 27 = .ok (.if_icmp .ge 39, 3) := by decide +kernel
theorem dX7_leaves_30 : decode cX7_leaves 30 = .ok (.aload_n 0, 1) := by decide +kernel
theorem dX7_leaves_31 : decode cX7_leaves 31 = .ok (.getfield 7, 3) := by decide +kernel
theorem dX7_leaves_34 : decode cX7_leaves 34 = .ok (.bipush 36, 2) := by decide +kernel
theorem dX7_leaves_36 : decode cX7_leaves 36 = .ok (.bipush 40, 2) := by decide +kernel
theorem dX7_leaves_38 : decode cX7_leaves 38 = .ok (.iload_n 1, 1) := by decide +kernel
theorem dX7_leaves_39 : decode cX7_leaves 39 = .ok (.imul, 1) := by decide +kernel
theorem dX7_leaves_40 : decode cX7_leaves 40 = .ok (.iadd, 1) := by decide +kernel
theorem dX7_leaves_41 : decode cX7_leaves 41 = .ok (.iload_n 3, 1) := by decide +kernel
theorem dX7_leaves_42 : decode cX7_leaves 42 = .ok (.iadd, 1) := by decide +kernel
theorem dX7_leaves_43 : decode cX7_leaves 43 = .ok (.aload_n 0, 1) := by decide +kernel
theorem dX7_leaves_44 : decode cX7_leaves 44 = .ok (.getfield 7, 3) := by decide +kernel
theorem dX7_leaves_47 : decode cX7_leaves 47 = .ok (.bipush 36, 2) := by decide +kernel
theorem dX7_leaves_49 : decode cX7_leaves 49 = .ok (.bipush 40, 2) := by decide +kernel
theorem dX7_leaves_51 : decode cX7_leaves 51 = .ok (.iload_n 1, 1) := by decide +kernel
theorem dX7_leaves_52 : decode cX7_leaves 52 = .ok (.imul, 1) := by decide +kernel
theorem dX7_leaves_53 : decode cX7_leaves 53 = .ok (.iadd, 1) := by decide +kernel
theorem dX7_leaves_54 : decode cX7_leaves 54 = .ok (.iload_n 3, 1) := by decide +kernel
theorem dX7_leaves_55 : decode cX7_leaves 55 = .ok (.iadd, 1) := by decide +kernel
theorem dX7_leaves_56 : decode cX7_leaves 56 = .ok (.iconst 1, 1) := by decide +kernel
theorem dX7_leaves_57 : decode cX7_leaves 57 = .ok (.iadd, 1) := by decide +kernel
theorem dX7_leaves_58 : decode cX7_leaves 58 = .ok (.iaload, 1) := by decide +kernel
theorem dX7_leaves_59 : decode cX7_leaves 59 = .ok (.iastore, 1) := by decide +kernel
theorem dX7_leaves_60 : decode cX7_leaves 60 = .ok (.iinc 3 1, 3) := by decide +kernel
theorem dX7_leaves_63 : decode cX7_leaves 63 = .ok (.goto (-43), 3) := by decide +kernel
theorem dX7_leaves_66 : decode cX7_leaves 66 = .ok (.return_, 1) := by decide +kernel
set_option maxRecDepth 20000 in
theorem ggX7_turns_X7_isController : GoodIn wsX7_turns wsX7_isController := goodIn_r _ [5, 6, 7, 4, 8] (by decide +kernel) (by decide +kernel)
set_option maxRecDepth 20000 in
theorem gX7_turns_X7_isController : GoodIn wsX7_turns (va_wsS RX7 96 yX7_isController wsX7_isController) := goodIn_app (goodIn_of _ (by decide +kernel)) ggX7_turns_X7_isController
set_option maxRecDepth 20000 in
theorem ggX7_turns_X7_control : GoodIn wsX7_turns wsX7_control := goodIn_r _ [12, 1, 41, 42, 43, 44, 45, 46, 47, 48, 49, 50, 51, 52, 53, 54] (by decide +kernel) (by decide +kernel)
set_option maxRecDepth 20000 in
theorem gX7_turns_X7_control : GoodIn wsX7_turns (wsV RX7 77 RX7 yX7_control wsX7_control) := goodIn_app (goodIn_of _ (by decide +kernel)) ggX7_turns_X7_control
set_option maxRecDepth 20000 in
theorem ggX7_turns_X7_refused : GoodIn wsX7_turns wsX7_refused := goodIn_r _ [16, 17, 41, 42, 43, 44, 45, 46, 47, 48, 49, 50, 51, 52, 53, 54] (by decide +kernel) (by decide +kernel)
set_option maxRecDepth 20000 in
theorem gX7_turns_X7_refused : GoodIn wsX7_turns (wsV RX7 42 RX7 yX7_refused wsX7_refused) := goodIn_app (goodIn_of _ (by decide +kernel)) ggX7_turns_X7_refused
set_option maxRecDepth 20000 in
theorem ggX7_turns_X7_saves : GoodIn wsX7_turns wsX7_saves := goodIn_r _ [21, 22, 23, 24, 1, 41, 42, 43, 44, 45, 46, 47, 48, 49, 50, 51, 52, 53, 54] (by decide +kernel) (by decide +kernel)
set_option maxRecDepth 20000 in
theorem gX7_turns_X7_saves : GoodIn wsX7_turns (wsV RX7 70 RX7 yX7_saves wsX7_saves) := goodIn_app (goodIn_of _ (by decide +kernel)) ggX7_turns_X7_saves
set_option maxRecDepth 20000 in
theorem ggX7_turns_X7_arrived : GoodIn wsX7_turns wsX7_arrived := goodIn_r _ [28, 9, 10, 11, 4, 12, 1, 29, 30, 31, 32, 33, 34, 35, 36, 37, 38, 39, 40, 41, 42, 43, 44, 45, 46, 47, 48, 49, 50, 51, 52, 53, 54] (by decide +kernel) (by decide +kernel)
set_option maxRecDepth 20000 in
theorem gX7_turns_X7_arrived : GoodIn wsX7_turns (wsV RX7 99 RX7 yX7_arrived wsX7_arrived) := goodIn_app (goodIn_of _ (by decide +kernel)) ggX7_turns_X7_arrived
theorem dX7_turns_0 : decode cX7_turns 0 = .ok (.aload_n 0, 1) := by decide +kernel
theorem dX7_turns_1 : decode cX7_turns 1 = .ok (.iload_n 1, 1) := by decide +kernel
theorem dX7_turns_2 : decode cX7_turns 2 = .ok (.invokestatic 96, 3) := by decide +kernel
theorem dX7_turns_5 : decode cX7_turns 5 = .ok (.ifCond .ne 7, 3) := by decide +kernel
theorem dX7_turns_8 : decode cX7_turns 8 = .ok (.iconst 1, 1) := by decide +kernel
theorem dX7_turns_9 : decode cX7_turns 9 = .ok (.goto 18, 3) := by decide +kernel
theorem dX7_turns_12 : decode cX7_turns 12 = .ok (.aload_n 0, 1) := by decide +kernel
theorem dX7_turns_13 : decode cX7_turns 13 = .ok (.iload_n 1, 1) := by decide +kernel
theorem dX7_turns_14 : decode cX7_turns 14 = .ok (.iconst 0, 1) := by decide +kernel
theorem dX7_turns_15 : decode cX7_turns 15 = .ok (.invokevirtual 77, 3) := by decide +kernel
theorem dX7_turns_18 : decode cX7_turns 18 = .ok (.iload_n 2, 1) := by decide +kernel
theorem dX7_turns_19 : decode cX7_turns 19 = .ok (.if_icmp .ne 7, 3) := by decide +kernel
theorem dX7_turns_22 : decode cX7_turns 22 = .ok (.iconst 2, 1) := by decide +kernel
theorem dX7_turns_23 : decode cX7_turns 23 = .ok (.goto 4, 3) := by decide +kernel
theorem dX7_turns_26 : decode cX7_turns 26 = .ok (.iconst 0, 1) := by decide +kernel
theorem dX7_turns_27 : decode cX7_turns 27 = .ok (.invokevirtual 42, 3) := by decide +kernel
theorem dX7_turns_30 : decode cX7_turns 30 = .ok (.ifCond .eq 5, 3) := by decide +kernel
theorem dX7_turns_33 : decode cX7_turns 33 = .ok (.iconst 0, 1) := by decide +kernel
theorem dX7_turns_34 : decode cX7_turns 34 = .ok (.ireturn, 1) := by decide +kernel
theorem dX7_turns_35 : decode cX7_turns 35 = .ok (.aload_n 0, 1) := by decide +kernel
theorem dX7_turns_36 : decode cX7_turns 36 = .ok (.invokevirtual 70, 3) := by decide +kernel
theorem dX7_turns_39 : decode cX7_turns 39 = .ok (.aload_n 0, 1) := by decide +kernel
theorem dX7_turns_40 : decode cX7_turns 40 = .ok (.getfield 7, 3) := by decide +kernel
theorem dX7_turns_43 : decode cX7_turns 43 = .ok (.bipush 20, 2) := by decide +kernel
theorem dX7_turns_45 : decode cX7_turns 45 = .ok (.bipush 8, 2) := by decide +kernel
theorem dX7_turns_47 : decode cX7_turns 47 = .ok (.iload_n 1, 1) := by decide +kernel
theorem dX7_turns_48 : decode cX7_turns 48 = .ok (.imul, 1) := by decide +kernel
theorem dX7_turns_49 : decode cX7_turns 49 = .ok (.iadd, 1) := by decide +kernel
theorem dX7_turns_50 : decode cX7_turns 50 = .ok (.iconst 0, 1) := by decide +kernel
theorem dX7_turns_51 : decode cX7_turns 51 = .ok (.iadd, 1) := by decide +kernel
theorem dX7_turns_52 : decode cX7_turns 52 = .ok (.iload_n 2, 1) := by decide +kernel
theorem dX7_turns_53 : decode cX7_turns 53 = .ok (.iastore, 1) := by decide +kernel
theorem dX7_turns_54 : decode cX7_turns 54 = .ok (.aload_n 0, 1) := by decide +kernel
theorem dX7_turns_55 : decode cX7_turns 55 = .ok (.iload_n 1, 1) := by decide +kernel
theorem dX7_turns_56 : decode cX7_turns 56 = .ok (.invokevirtual 99, 3) := by decide +kernel
theorem dX7_turns_59 : decode cX7_turns 59 = .ok (.ireturn, 1) := by decide +kernel
set_option maxRecDepth 20000 in
theorem ggX7_wake_X7_turns : GoodIn wsX7_wake wsX7_turns := goodIn_r _ [5, 6, 7, 8, 4, 9, 10, 11, 12, 13, 14, 15, 16, 17, 18, 19, 20, 21, 22, 23, 24, 25, 26, 27, 28, 29, 30, 31, 32, 33, 34, 35, 36, 37, 38, 39, 40, 41, 42, 43, 44, 45, 46, 47, 48, 49, 50, 51, 52, 53, 54, 55, 56, 57, 58] (by decide +kernel) (by decide +kernel)
set_option maxRecDepth 20000 in
theorem gX7_wake_X7_turns : GoodIn wsX7_wake (wsV RX7 103 RX7 yX7_turns wsX7_turns) := goodIn_app (goodIn_of _ (by decide +kernel)) ggX7_wake_X7_turns
theorem dX7_wake_0 : decode cX7_wake 0 = .ok (.aload_n 0, 1) := by decide +kernel
theorem dX7_wake_1 : decode cX7_wake 1 = .ok (.iload_n 1, 1) := by decide +kernel
theorem dX7_wake_2 : decode cX7_wake 2 = .ok (.iconst 1, 1) := by decide +kernel
theorem dX7_wake_3 : decode cX7_wake 3 = .ok (.invokevirtual 103, 3) := by decide +kernel
theorem dX7_wake_6 : decode cX7_wake 6 = .ok (.ireturn, 1) := by decide +kernel
set_option maxRecDepth 20000 in
theorem ggX7_sleep_X7_turns : GoodIn wsX7_sleep wsX7_turns := goodIn_r _ [5, 6, 7, 8, 4, 9, 10, 11, 12, 13, 14, 15, 16, 17, 18, 19, 20, 21, 22, 23, 24, 25, 26, 27, 28, 29, 30, 31, 32, 33, 34, 35, 36, 37, 38, 39, 40, 41, 42, 43, 44, 45, 46, 47, 48, 49, 50, 51, 52, 53, 54, 55, 56, 57, 58] (by decide +kernel) (by decide +kernel)
set_option maxRecDepth 20000 in
theorem gX7_sleep_X7_turns : GoodIn wsX7_sleep (wsV RX7 103 RX7 yX7_turns wsX7_turns) := goodIn_app (goodIn_of _ (by decide +kernel)) ggX7_sleep_X7_turns
theorem dX7_sleep_0 : decode cX7_sleep 0 = .ok (.aload_n 0, 1) := by decide +kernel
theorem dX7_sleep_1 : decode cX7_sleep 1 = .ok (.iload_n 1, 1) := by decide +kernel
theorem dX7_sleep_2 : decode cX7_sleep 2 = .ok (.iconst 0, 1) := by decide +kernel
theorem dX7_sleep_3 : decode cX7_sleep 3 = .ok (.invokevirtual 103, 3) := by decide +kernel
theorem dX7_sleep_6 : decode cX7_sleep 6 = .ok (.ireturn, 1) := by decide +kernel
set_option maxRecDepth 20000 in
theorem ggX7_sets_X7_isController : GoodIn wsX7_sets wsX7_isController := goodIn_r _ [5, 6, 7, 4, 8] (by decide +kernel) (by decide +kernel)
set_option maxRecDepth 20000 in
theorem gX7_sets_X7_isController : GoodIn wsX7_sets (va_wsS RX7 96 yX7_isController wsX7_isController) := goodIn_app (goodIn_of _ (by decide +kernel)) ggX7_sets_X7_isController
set_option maxRecDepth 20000 in
theorem ggX7_sets_X7_within : GoodIn wsX7_sets wsX7_within := goodIn_r _ [8] (by decide +kernel) (by decide +kernel)
set_option maxRecDepth 20000 in
theorem gX7_sets_X7_within : GoodIn wsX7_sets (va_wsS RX7 46 yX7_within wsX7_within) := goodIn_app (goodIn_of _ (by decide +kernel)) ggX7_sets_X7_within
set_option maxRecDepth 20000 in
theorem ggX7_sets_X7_refused : GoodIn wsX7_sets wsX7_refused := goodIn_r _ [12, 13, 25, 26, 27, 28, 29, 30, 31, 32, 33, 34, 35, 36, 37, 38] (by decide +kernel) (by decide +kernel)
set_option maxRecDepth 20000 in
theorem gX7_sets_X7_refused : GoodIn wsX7_sets (wsV RX7 42 RX7 yX7_refused wsX7_refused) := goodIn_app (goodIn_of _ (by decide +kernel)) ggX7_sets_X7_refused
set_option maxRecDepth 20000 in
theorem ggX7_sets_X7_saves : GoodIn wsX7_sets wsX7_saves := goodIn_r _ [17, 18, 19, 20, 1, 25, 26, 27, 28, 29, 30, 31, 32, 33, 34, 35, 36, 37, 38] (by decide +kernel) (by decide +kernel)
set_option maxRecDepth 20000 in
theorem gX7_sets_X7_saves : GoodIn wsX7_sets (wsV RX7 70 RX7 yX7_saves wsX7_saves) := goodIn_app (goodIn_of _ (by decide +kernel)) ggX7_sets_X7_saves
set_option maxRecDepth 20000 in
theorem ggX7_sets_X7_control : GoodIn wsX7_sets wsX7_control := goodIn_r _ [24, 1, 25, 26, 27, 28, 29, 30, 31, 32, 33, 34, 35, 36, 37, 38] (by decide +kernel) (by decide +kernel)
set_option maxRecDepth 20000 in
theorem gX7_sets_X7_control : GoodIn wsX7_sets (wsV RX7 77 RX7 yX7_control wsX7_control) := goodIn_app (goodIn_of _ (by decide +kernel)) ggX7_sets_X7_control
theorem dX7_sets_0 : decode cX7_sets 0 = .ok (.aload_n 0, 1) := by decide +kernel
theorem dX7_sets_1 : decode cX7_sets 1 = .ok (.iload_n 1, 1) := by decide +kernel
theorem dX7_sets_2 : decode cX7_sets 2 = .ok (.invokestatic 96, 3) := by decide +kernel
theorem dX7_sets_5 : decode cX7_sets 5 = .ok (.ifCond .ne 7, 3) := by decide +kernel
theorem dX7_sets_8 : decode cX7_sets 8 = .ok (.iconst 1, 1) := by decide +kernel
theorem dX7_sets_9 : decode cX7_sets 9 = .ok (.goto 18, 3) := by decide +kernel
theorem dX7_sets_12 : decode cX7_sets 12 = .ok (.iload_n 3, 1) := by decide +kernel
theorem dX7_sets_13 : decode cX7_sets 13 = .ok (.iconst 0, 1) := by decide +kernel
theorem dX7_sets_14 : decode cX7_sets 14 = .ok (.bipush 20, 2) := by decide +kernel
theorem dX7_sets_16 : decode cX7_sets 16 = .ok (.invokestatic 46, 3) := by decide +kernel
theorem dX7_sets_19 : decode cX7_sets 19 = .ok (.ifCond .ne 7, 3) := by decide +kernel
theorem dX7_sets_22 : decode cX7_sets 22 = .ok (.iconst 2, 1) := by decide +kernel
theorem dX7_sets_23 : decode cX7_sets 23 = .ok (.goto 4, 3) := by decide +kernel
theorem dX7_sets_26 : decode cX7_sets 26 = .ok (.iconst 0, 1) := by decide +kernel
theorem dX7_sets_27 : decode cX7_sets 27 = .ok (.invokevirtual 42, 3) := by decide +kernel
theorem dX7_sets_30 : decode cX7_sets 30 = .ok (.ifCond .eq 5, 3) := by decide +kernel
theorem dX7_sets_33 : decode cX7_sets 33 = .ok (.iconst 0, 1) := by decide +kernel
theorem dX7_sets_34 : decode cX7_sets 34 = .ok (.ireturn, 1) := by decide +kernel
theorem dX7_sets_35 : decode cX7_sets 35 = .ok (.aload_n 0, 1) := by decide +kernel
theorem dX7_sets_36 : decode cX7_sets 36 = .ok (.invokevirtual 70, 3) := by decide +kernel
theorem dX7_sets_39 : decode cX7_sets 39 = .ok (.aload_n 0, 1) := by decide +kernel
theorem dX7_sets_40 : decode cX7_sets 40 = .ok (.iload_n 1, 1) := by decide +kernel
theorem dX7_sets_41 : decode cX7_sets 41 = .ok (.iload_n 2, 1) := by decide +kernel
theorem dX7_sets_42 : decode cX7_sets 42 = .ok (.invokevirtual 77, 3) := by decide +kernel
theorem dX7_sets_45 : decode cX7_sets 45 = .ok (.istore 4, 2) := by decide +kernel
theorem dX7_sets_47 : decode cX7_sets 47 = .ok (.aload_n 0, 1) := by decide +kernel
theorem dX7_sets_48 : decode cX7_sets 48 = .ok (.getfield 7, 3) := by decide +kernel
theorem dX7_sets_51 : decode cX7_sets 51 = .ok (.bipush 20, 2) := by decide +kernel
theorem dX7_sets_53 : decode cX7_sets 53 = .ok (.bipush 8, 2) := by decide +kernel
theorem dX7_sets_55 : decode cX7_sets 55 = .ok (.iload_n 1, 1) := by decide +kernel
theorem dX7_sets_56 : decode cX7_sets 56 = .ok (.imul, 1) := by decide +kernel
theorem dX7_sets_57 : decode cX7_sets 57 = .ok (.iadd, 1) := by decide +kernel
theorem dX7_sets_58 : decode cX7_sets 58 = .ok (.iload_n 2, 1) := by decide +kernel
theorem dX7_sets_59 : decode cX7_sets 59 = .ok (.iadd, 1) := by decide +kernel
theorem dX7_sets_60 : decode cX7_sets 60 = .ok (.iload_n 3, 1) := by decide +kernel
theorem dX7_sets_61 : decode cX7_sets 61 = .ok (.iastore, 1) := by decide +kernel
theorem dX7_sets_62 : decode cX7_sets 62 = .ok (.iload 4, 2) := by decide +kernel
theorem dX7_sets_64 : decode cX7_sets 64 = .ok (.ireturn, 1) := by decide +kernel
set_option maxRecDepth 20000 in
theorem ggX7_setDelay_X7_sets : GoodIn wsX7_setDelay wsX7_sets := goodIn_r _ [5, 6, 7, 8, 4, 9, 10, 11, 12, 13, 14, 15, 16, 17, 18, 19, 20, 21, 22, 23, 24, 25, 26, 27, 28, 29, 30, 31, 32, 33, 34, 35, 36, 37, 38, 39, 40, 41, 42] (by decide +kernel) (by decide +kernel)
set_option maxRecDepth 20000 in
theorem gX7_setDelay_X7_sets : GoodIn wsX7_setDelay (wsV RX7 106 RX7 yX7_sets wsX7_sets) := goodIn_app (goodIn_of _ (by decide +kernel)) ggX7_setDelay_X7_sets
theorem dX7_setDelay_0 : decode cX7_setDelay 0 = .ok (.aload_n 0, 1) := by decide +kernel
theorem dX7_setDelay_1 : decode cX7_setDelay 1 = .ok (.iload_n 1, 1) := by decide +kernel
theorem dX7_setDelay_2 : decode cX7_setDelay 2 = .ok (.iconst 1, 1) := by decide +kernel
theorem dX7_setDelay_3 : decode cX7_setDelay 3 = .ok (.iload_n 2, 1) := by decide +kernel
theorem dX7_setDelay_4 : decode cX7_setDelay 4 = .ok (.invokevirtual 106, 3) := by decide +kernel
theorem dX7_setDelay_7 : decode cX7_setDelay 7 = .ok (.ireturn, 1) := by decide +kernel
set_option maxRecDepth 20000 in
theorem ggX7_setAlarm_X7_sets : GoodIn wsX7_setAlarm wsX7_sets := goodIn_r _ [5, 6, 7, 8, 4, 9, 10, 11, 12, 13, 14, 15, 16, 17, 18, 19, 20, 21, 22, 23, 24, 25, 26, 27, 28, 29, 30, 31, 32, 33, 34, 35, 36, 37, 38, 39, 40, 41, 42] (by decide +kernel) (by decide +kernel)
set_option maxRecDepth 20000 in
theorem gX7_setAlarm_X7_sets : GoodIn wsX7_setAlarm (wsV RX7 106 RX7 yX7_sets wsX7_sets) := goodIn_app (goodIn_of _ (by decide +kernel)) ggX7_setAlarm_X7_sets
theorem dX7_setAlarm_0 : decode cX7_setAlarm 0 = .ok (.aload_n 0, 1) := by decide +kernel
theorem dX7_setAlarm_1 : decode cX7_setAlarm 1 = .ok (.iload_n 1, 1) := by decide +kernel
theorem dX7_setAlarm_2 : decode cX7_setAlarm 2 = .ok (.iconst 2, 1) := by decide +kernel
theorem dX7_setAlarm_3 : decode cX7_setAlarm 3 = .ok (.iload_n 2, 1) := by decide +kernel
theorem dX7_setAlarm_4 : decode cX7_setAlarm 4 = .ok (.invokevirtual 106, 3) := by decide +kernel
theorem dX7_setAlarm_7 : decode cX7_setAlarm 7 = .ok (.ireturn, 1) := by decide +kernel
set_option maxRecDepth 20000 in
theorem ggX7_begins_X7_of : GoodIn wsX7_begins wsX7_of := goodIn_r _ [6, 1, 11, 12, 13, 14, 15, 16, 17, 18, 19, 20, 21, 22, 23, 24] (by decide +kernel) (by decide +kernel)
set_option maxRecDepth 20000 in
theorem gX7_begins_X7_of : GoodIn wsX7_begins (wsV RX7 50 RX7 yX7_of wsX7_of) := goodIn_app (goodIn_of _ (by decide +kernel)) ggX7_begins_X7_of
set_option maxRecDepth 20000 in
theorem ggX7_begins_X7_put : GoodIn wsX7_begins wsX7_put := goodIn_r _ [10, 1, 11, 12, 13, 14, 15, 16, 17, 18, 19, 20, 21, 22, 23, 24] (by decide +kernel) (by decide +kernel)
set_option maxRecDepth 20000 in
theorem gX7_begins_X7_put : GoodIn wsX7_begins (wsV RX7 73 RX7 yX7_put wsX7_put) := goodIn_app (goodIn_of _ (by decide +kernel)) ggX7_begins_X7_put
theorem dX7_begins_0 : decode cX7_begins 0 = .ok (.aload_n 0, 1) := by decide +kernel
theorem dX7_begins_1 : decode cX7_begins 1 = .ok (.getfield 7, 3) := by decide +kernel
theorem dX7_begins_4 : decode cX7_begins 4 = .ok (.iconst 2, 1) := by decide +kernel
theorem dX7_begins_5 : decode cX7_begins 5 = .ok (.iload_n 1, 1) := by decide +kernel
theorem dX7_begins_6 : decode cX7_begins 6 = .ok (.iastore, 1) := by decide +kernel
theorem dX7_begins_7 : decode cX7_begins 7 = .ok (.aload_n 0, 1) := by decide +kernel
theorem dX7_begins_8 : decode cX7_begins 8 = .ok (.getfield 7, 3) := by decide +kernel
theorem dX7_begins_11 : decode cX7_begins 11 = .ok (.iconst 3, 1) := by decide +kernel
theorem dX7_begins_12 : decode cX7_begins 12 = .ok (.aload_n 0, 1) := by decide +kernel
theorem dX7_begins_13 : decode cX7_begins 13 = .ok (.getfield 7, 3) := by decide +kernel
theorem dX7_begins_16 : decode cX7_begins 16 = .ok (.iconst 4, 1) := by decide +kernel
theorem dX7_begins_17 : decode cX7_begins 17 = .ok (.aload_n 0, 1) := by decide +kernel
theorem dX7_begins_18 : decode cX7_begins 18 = .ok (.iload_n 1, 1) := by decide +kernel
theorem dX7_begins_19 : decode cX7_begins 19 = .ok (.iconst 3, 1) := by decide +kernel
theorem dX7_begins_20 : decode cX7_begins 20 = .ok (.invokevirtual 50, 3) := by decide +kernel
theorem dX7_begins_23 : decode cX7_begins 23 = .ok (.iadd, 1) := by decide +kernel
theorem dX7_begins_24 : decode cX7_begins 24 = .ok (.iaload, 1) := by decide +kernel
theorem dX7_begins_25 : decode cX7_begins 25 = .ok (.iastore, 1) := by decide +kernel
theorem dX7_begins_26 : decode cX7_begins 26 = .ok (.aload_n 0, 1) := by decide +kernel
theorem dX7_begins_27 : decode cX7_begins 27 = .ok (.iload_n 1, 1) := by decide +kernel
theorem dX7_begins_28 : decode cX7_begins 28 = .ok (.iconst 5, 1) := by decide +kernel
theorem dX7_begins_29 : decode cX7_begins 29 = .ok (.iconst 1, 1) := by decide +kernel
theorem dX7_begins_30 : decode cX7_begins 30 = .ok (.invokevirtual 73, 3) := by decide +kernel
theorem dX7_begins_33 : decode cX7_begins 33 = .ok (.return_, 1) := by decide +kernel
set_option maxRecDepth 20000 in
theorem ggX7_writes_X7_of : GoodIn wsX7_writes wsX7_of := goodIn_r _ [6, 1, 7, 8, 9, 10, 11, 12, 13, 14, 15, 16, 17, 18, 19, 20] (by decide +kernel) (by decide +kernel)
set_option maxRecDepth 20000 in
theorem gX7_writes_X7_of : GoodIn wsX7_writes (wsV RX7 50 RX7 yX7_of wsX7_of) := goodIn_app (goodIn_of _ (by decide +kernel)) ggX7_writes_X7_of
theorem dX7_writes_0 : decode cX7_writes 0 = .ok (.iconst 4, 1) := by decide +kernel
theorem dX7_writes_1 : decode cX7_writes 1 = .ok (.aload_n 0, 1) := by decide +kernel
theorem dX7_writes_2 : decode cX7_writes 2 = .ok (.iload_n 1, 1) := by decide +kernel
theorem dX7_writes_3 : decode cX7_writes 3 = .ok (.iconst 3, 1) := by decide +kernel
theorem dX7_writes_4 : decode cX7_writes 4 = .ok (.invokevirtual 50, 3) := by decide +kernel
theorem dX7_writes_7 : decode cX7_writes 7 = .ok (.iadd, 1) := by decide +kernel
theorem dX7_writes_8 : decode cX7_writes 8 = .ok (.istore_n 2, 1) := by decide +kernel
theorem dX7_writes_9 : decode cX7_writes 9 = .ok (.aload_n 0, 1) := by decide +kernel
theorem dX7_writes_10 : decode cX7_writes 10 = .ok (.iload_n 1, 1) := by decide +kernel
theorem dX7_writes_11 : decode cX7_writes 11 = .ok (.iconst 2, 1) := by decide +kernel
theorem dX7_writes_12 : decode cX7_writes 12 = .ok (.invokevirtual 50, 3) := by decide +kernel
theorem dX7_writes_15 : decode cX7_writes 15 = .ok (.tableswitch 84 0 2 #[25, 40, 62], 25) := by decide +kernel
theorem dX7_writes_40 : decode cX7_writes 40 = .ok (.aload_n 0, 1) := by decide +kernel
theorem dX7_writes_41 : decode cX7_writes 41 = .ok (.getfield 7, 3) := by decide +kernel
theorem dX7_writes_44 : decode cX7_writes 44 = .ok (.iload_n 2, 1) := by decide +kernel
theorem dX7_writes_45 : decode cX7_writes 45 = .ok (.aload_n 0, 1) := by decide +kernel
theorem dX7_writes_46 : decode cX7_writes 46 = .ok (.iload_n 1, 1) := by decide +kernel
theorem dX7_writes_47 : decode cX7_writes 47 = .ok (.iconst 4, 1) := by decide +kernel
theorem dX7_writes_48 : decode cX7_writes 48 = .ok (.invokevirtual 50, 3) := by decide +kernel
theorem dX7_writes_51 : decode cX7_writes 51 = .ok (.iastore, 1) := by decide +kernel
theorem dX7_writes_52 : decode cX7_writes 52 = .ok (.goto 47, 3) := by decide +kernel
theorem dX7_writes_55 : decode cX7_writes 55 = .ok (.aload_n 0, 1) := by decide +kernel
theorem dX7_writes_56 : decode cX7_writes 56 = .ok (.getfield 7, 3) := by decide +kernel
theorem dX7_writes_59 : decode cX7_writes 59 = .ok (.iload_n 2, 1) := by decide +kernel
theorem dX7_writes_60 : decode cX7_writes 60 = .ok (.aload_n 0, 1) := by decide +kernel
theorem dX7_writes_61 : decode cX7_writes 61 = .ok (.getfield 7, 3) := by decide +kernel
theorem dX7_writes_64 : decode cX7_writes 64 = .ok (.iconst 3, 1) := by decide +kernel
theorem dX7_writes_65 : decode cX7_writes 65 = .ok (.iaload, 1) := by decide +kernel
theorem dX7_writes_66 : decode cX7_writes 66 = .ok (.aload_n 0, 1) := by decide +kernel
theorem dX7_writes_67 : decode cX7_writes 67 = .ok (.iload_n 1, 1) := by decide +kernel
theorem dX7_writes_68 : decode cX7_writes 68 = .ok (.iconst 4, 1) := by decide +kernel
theorem dX7_writes_69 : decode cX7_writes 69 = .ok (.invokevirtual 50, 3) := by decide +kernel
theorem dX7_writes_72 : decode cX7_writes 72 = .ok (.iadd, 1) := by decide +kernel
theorem dX7_writes_73 : decode cX7_writes 73 = .ok (.iastore, 1) := by decide +kernel
theorem dX7_writes_74 : decode cX7_writes 74 = .ok (.goto 25, 3) := by decide +kernel
theorem dX7_writes_77 : decode cX7_writes 77 = .ok (.aload_n 0, 1) := by decide +kernel
theorem dX7_writes_78 : decode cX7_writes 78 = .ok (.getfield 7, 3) := by decide +kernel
theorem dX7_writes_81 : decode cX7_writes 81 = .ok (.iload_n 2, 1) := by decide +kernel
theorem dX7_writes_82 : decode cX7_writes 82 = .ok (.aload_n 0, 1) := by decide +kernel
theorem dX7_writes_83 : decode cX7_writes 83 = .ok (.getfield 7, 3) := by decide +kernel
theorem dX7_writes_86 : decode cX7_writes 86 = .ok (.iconst 4, 1) := by decide +kernel
theorem dX7_writes_87 : decode cX7_writes 87 = .ok (.aload_n 0, 1) := by decide +kernel
theorem dX7_writes_88 : decode cX7_writes 88 = .ok (.iload_n 1, 1) := by decide +kernel
theorem dX7_writes_89 : decode cX7_writes 89 = .ok (.iconst 4, 1) := by decide +kernel
theorem dX7_writes_90 : decode cX7_writes 90 = .ok (.invokevirtual 50, 3) := by decide +kernel
theorem dX7_writes_93 : decode cX7_writes 93 = .ok (.iadd, 1) := by decide +kernel
theorem dX7_writes_94 : decode cX7_writes 94 = .ok (.iaload, 1) := by decide +kernel
theorem dX7_writes_95 : decode cX7_writes 95 = .ok (.iastore, 1) := by decide +kernel
theorem dX7_writes_96 : decode cX7_writes 96 = .ok (.goto 3, 3) := by decide +kernel
theorem dX7_writes_99 : decode cX7_writes 99 = .ok (.return_, 1) := by decide +kernel
set_option maxRecDepth 20000 in
theorem ggX7_ends_X7_put : GoodIn wsX7_ends wsX7_put := goodIn_r _ [6, 1, 11, 12, 13, 14, 15, 16, 17, 18, 19, 20, 21, 22, 23, 24] (by decide +kernel) (by decide +kernel)
set_option maxRecDepth 20000 in
theorem gX7_ends_X7_put : GoodIn wsX7_ends (wsV RX7 73 RX7 yX7_put wsX7_put) := goodIn_app (goodIn_of _ (by decide +kernel)) ggX7_ends_X7_put
set_option maxRecDepth 20000 in
theorem ggX7_ends_X7_more : GoodIn wsX7_ends wsX7_more := goodIn_r _ [10, 1, 11, 12, 13, 14, 15, 16, 17, 18, 19, 20, 21, 22, 23, 24] (by decide +kernel) (by decide +kernel)
set_option maxRecDepth 20000 in
theorem gX7_ends_X7_more : GoodIn wsX7_ends (wsV RX7 80 RX7 yX7_more wsX7_more) := goodIn_app (goodIn_of _ (by decide +kernel)) ggX7_ends_X7_more
theorem dX7_ends_0 : decode cX7_ends 0 = .ok (.aload_n 0, 1) := by decide +kernel
theorem dX7_ends_1 : decode cX7_ends 1 = .ok (.iload_n 1, 1) := by decide +kernel
theorem dX7_ends_2 : decode cX7_ends 2 = .ok (.iconst 5, 1) := by decide +kernel
theorem dX7_ends_3 : decode cX7_ends 3 = .ok (.iconst 2, 1) := by decide +kernel
theorem dX7_ends_4 : decode cX7_ends 4 = .ok (.invokevirtual 73, 3) := by decide +kernel
theorem dX7_ends_7 : decode cX7_ends 7 = .ok (.aload_n 0, 1) := by decide +kernel
theorem dX7_ends_8 : decode cX7_ends 8 = .ok (.iload_n 1, 1) := by decide +kernel
theorem dX7_ends_9 : decode cX7_ends 9 = .ok (.bipush 6, 2) := by decide +kernel
theorem dX7_ends_11 : decode cX7_ends 11 = .ok (.iload_n 2, 1) := by decide +kernel
theorem dX7_ends_12 : decode cX7_ends 12 = .ok (.invokevirtual 73, 3) := by decide +kernel
theorem dX7_ends_15 : decode cX7_ends 15 = .ok (.aload_n 0, 1) := by decide +kernel
theorem dX7_ends_16 : decode cX7_ends 16 = .ok (.iload_n 1, 1) := by decide +kernel
theorem dX7_ends_17 : decode cX7_ends 17 = .ok (.bipush 8, 2) := by decide +kernel
theorem dX7_ends_19 : decode cX7_ends 19 = .ok (.aload_n 0, 1) := by decide +kernel
theorem dX7_ends_20 : decode cX7_ends 20 = .ok (.getfield 7, 3) := by decide +kernel
theorem dX7_ends_23 : decode cX7_ends 23 = .ok (.iconst 0, 1) := by decide +kernel
theorem dX7_ends_24 : decode cX7_ends 24 = .ok (.iaload, 1) := by decide +kernel
theorem dX7_ends_25 : decode cX7_ends 25 = .ok (.invokevirtual 73, 3) := by decide +kernel
theorem dX7_ends_28 : decode cX7_ends 28 = .ok (.aload_n 0, 1) := by decide +kernel
theorem dX7_ends_29 : decode cX7_ends 29 = .ok (.iload_n 2, 1) := by decide +kernel
theorem dX7_ends_30 : decode cX7_ends 30 = .ok (.iconst 4, 1) := by decide +kernel
theorem dX7_ends_31 : decode cX7_ends 31 = .ok (.invokevirtual 80, 3) := by decide +kernel
theorem dX7_ends_34 : decode cX7_ends 34 = .ok (.return_, 1) := by decide +kernel
set_option maxRecDepth 20000 in
theorem ggX7_isTorn_X7_of : GoodIn wsX7_isTorn wsX7_of := goodIn_r _ [6, 1, 7, 8, 9, 10, 11, 12, 13, 14, 15, 16, 17, 18, 19, 20] (by decide +kernel) (by decide +kernel)
set_option maxRecDepth 20000 in
theorem gX7_isTorn_X7_of : GoodIn wsX7_isTorn (wsV RX7 50 RX7 yX7_of wsX7_of) := goodIn_app (goodIn_of _ (by decide +kernel)) ggX7_isTorn_X7_of
theorem dX7_isTorn_0 : decode cX7_isTorn 0 = .ok (.aload_n 0, 1) := by decide +kernel
theorem dX7_isTorn_1 : decode cX7_isTorn 1 = .ok (.getfield 7, 3) := by decide +kernel
theorem dX7_isTorn_4 : decode cX7_isTorn 4 = .ok (.iconst 2, 1) := by decide +kernel
theorem dX7_isTorn_5 : decode cX7_isTorn 5 = .ok (.iaload, 1) := by decide +kernel
theorem dX7_isTorn_6 : decode cX7_isTorn 6 = .ok (.iconst (-1), 1) := by decide +kernel
theorem dX7_isTorn_7 : decode cX7_isTorn 7 = .ok (.if_icmp .eq 22, 3) := by decide +kernel
theorem dX7_isTorn_10 : decode cX7_isTorn 10 = .ok (.aload_n 0, 1) := by decide +kernel
theorem dX7_isTorn_11 : decode cX7_isTorn 11 = .ok (.aload_n 0, 1) := by decide +kernel
theorem dX7_isTorn_12 : decode cX7_isTorn 12 = .ok (.getfield 7, 3) := by decide +kernel
theorem dX7_isTorn_15 : decode cX7_isTorn 15 = .ok (.iconst 2, 1) := by decide +kernel
theorem dX7_isTorn_16 : decode cX7_isTorn 16 = .ok (.iaload, 1) := by decide +kernel
theorem dX7_isTorn_17 : decode cX7_isTorn 17 = .ok (.iconst 5, 1) := by decide +kernel
theorem dX7_isTorn_18 : decode cX7_isTorn 18 = .ok (.invokevirtual 50, 3) := by decide +kernel
theorem dX7_isTorn_21 : decode cX7_isTorn 21 = .ok (.iconst 1, 1) := by decide +kernel
theorem dX7_isTorn_22 : decode cX7_isTorn 22 = .ok (.if_icmp .ne 7, 3) := by decide +kernel
theorem dX7_isTorn_25 : decode cX7_isTorn 25 = .ok (.iconst 1, 1) := by decide +kernel
theorem dX7_isTorn_26 : decode cX7_isTorn 26 = .ok (.goto 4, 3) := by decide +kernel
theorem dX7_isTorn_29 : decode cX7_isTorn 29 = .ok (.iconst 0, 1) := by decide +kernel
theorem dX7_isTorn_30 : decode cX7_isTorn 30 = .ok (.ireturn, 1) := by decide +kernel
set_option maxRecDepth 20000 in
theorem ggX7_works_X7_isTorn : GoodIn wsX7_works wsX7_isTorn := goodIn_r _ [6, 1, 7, 8, 9, 5, 10, 67, 68, 69, 70, 71, 72, 73, 74, 75, 76, 77, 78, 79, 80] (by decide +kernel) (by decide +kernel)
set_option maxRecDepth 20000 in
theorem gX7_works_X7_isTorn : GoodIn wsX7_works (wsV RX7 110 RX7 yX7_isTorn wsX7_isTorn) := goodIn_app (goodIn_of _ (by decide +kernel)) ggX7_works_X7_isTorn
set_option maxRecDepth 20000 in
theorem ggX7_works_X7_writes : GoodIn wsX7_works wsX7_writes := goodIn_r _ [14, 1, 7, 8, 9, 5, 10, 67, 68, 69, 70, 71, 72, 73, 74, 75, 76, 77, 78, 79, 80] (by decide +kernel) (by decide +kernel)
set_option maxRecDepth 20000 in
theorem gX7_works_X7_writes : GoodIn wsX7_works (wsV RX7 114 RX7 yX7_writes wsX7_writes) := goodIn_app (goodIn_of _ (by decide +kernel)) ggX7_works_X7_writes
set_option maxRecDepth 20000 in
theorem ggX7_works_X7_ends : GoodIn wsX7_works wsX7_ends := goodIn_r _ [18, 1, 19, 20, 21, 5, 22, 23, 24, 25, 26, 67, 68, 69, 70, 71, 72, 73, 74, 75, 76, 77, 78, 79, 80] (by decide +kernel) (by decide +kernel)
set_option maxRecDepth 20000 in
theorem gX7_works_X7_ends : GoodIn wsX7_works (wsV RX7 118 RX7 yX7_ends wsX7_ends) := goodIn_app (goodIn_of _ (by decide +kernel)) ggX7_works_X7_ends
set_option maxRecDepth 20000 in
theorem ggX7_works_X7_put : GoodIn wsX7_works wsX7_put := goodIn_r _ [22, 1, 67, 68, 69, 70, 71, 72, 73, 74, 75, 76, 77, 78, 79, 80] (by decide +kernel) (by decide +kernel)
set_option maxRecDepth 20000 in
theorem gX7_works_X7_put : GoodIn wsX7_works (wsV RX7 73 RX7 yX7_put wsX7_put) := goodIn_app (goodIn_of _ (by decide +kernel)) ggX7_works_X7_put
set_option maxRecDepth 20000 in
theorem ggX7_works_X7_more : GoodIn wsX7_works wsX7_more := goodIn_r _ [26, 1, 67, 68, 69, 70, 71, 72, 73, 74, 75, 76, 77, 78, 79, 80] (by decide +kernel) (by decide +kernel)
set_option maxRecDepth 20000 in
theorem gX7_works_X7_more : GoodIn wsX7_works (wsV RX7 80 RX7 yX7_more wsX7_more) := goodIn_app (goodIn_of _ (by decide +kernel)) ggX7_works_X7_more
set_option maxRecDepth 20000 in
theorem ggX7_works_X7_control : GoodIn wsX7_works wsX7_control := goodIn_r _ [30, 1, 67, 68, 69, 70, 71, 72, 73, 74, 75, 76, 77, 78, 79, 80] (by decide +kernel) (by decide +kernel)
set_option maxRecDepth 20000 in
theorem gX7_works_X7_control : GoodIn wsX7_works (wsV RX7 77 RX7 yX7_control wsX7_control) := goodIn_app (goodIn_of _ (by decide +kernel)) ggX7_works_X7_control
set_option maxRecDepth 20000 in
theorem ggX7_works_X7_mailed : GoodIn wsX7_works wsX7_mailed := goodIn_r _ [34, 1, 67, 68, 69, 70, 71, 72, 73, 74, 75, 76, 77, 78, 79, 80] (by decide +kernel) (by decide +kernel)
set_option maxRecDepth 20000 in
theorem gX7_works_X7_mailed : GoodIn wsX7_works (wsV RX7 90 RX7 yX7_mailed wsX7_mailed) := goodIn_app (goodIn_of _ (by decide +kernel)) ggX7_works_X7_mailed
set_option maxRecDepth 20000 in
theorem ggX7_works_X7_hasArrived : GoodIn wsX7_works wsX7_hasArrived := goodIn_r _ [38, 1, 7, 8, 9, 5, 10, 67, 68, 69, 70, 71, 72, 73, 74, 75, 76, 77, 78, 79, 80] (by decide +kernel) (by decide +kernel)
set_option maxRecDepth 20000 in
theorem gX7_works_X7_hasArrived : GoodIn wsX7_works (wsV RX7 93 RX7 yX7_hasArrived wsX7_hasArrived) := goodIn_app (goodIn_of _ (by decide +kernel)) ggX7_works_X7_hasArrived
set_option maxRecDepth 20000 in
theorem ggX7_works_X7_isOpen : GoodIn wsX7_works wsX7_isOpen := goodIn_r _ [42, 7, 8, 9, 5, 10, 1, 67, 68, 69, 70, 71, 72, 73, 74, 75, 76, 77, 78, 79, 80] (by decide +kernel) (by decide +kernel)
set_option maxRecDepth 20000 in
theorem gX7_works_X7_isOpen : GoodIn wsX7_works (wsV RX7 67 RX7 yX7_isOpen wsX7_isOpen) := goodIn_app (goodIn_of _ (by decide +kernel)) ggX7_works_X7_isOpen
set_option maxRecDepth 20000 in
theorem ggX7_works_X7_of : GoodIn wsX7_works wsX7_of := goodIn_r _ [10, 1, 67, 68, 69, 70, 71, 72, 73, 74, 75, 76, 77, 78, 79, 80] (by decide +kernel) (by decide +kernel)
set_option maxRecDepth 20000 in
theorem gX7_works_X7_of : GoodIn wsX7_works (wsV RX7 50 RX7 yX7_of wsX7_of) := goodIn_app (goodIn_of _ (by decide +kernel)) ggX7_works_X7_of
set_option maxRecDepth 20000 in
theorem ggX7_works_X7_leaves : GoodIn wsX7_works wsX7_leaves := goodIn_r _ [46, 1, 27, 28, 29, 5, 30, 67, 68, 69, 70, 71, 72, 73, 74, 75, 76, 77, 78, 79, 80] (by decide +kernel) (by decide +kernel)
set_option maxRecDepth 20000 in
theorem gX7_works_X7_leaves : GoodIn wsX7_works (wsV RX7 121 RX7 yX7_leaves wsX7_leaves) := goodIn_app (goodIn_of _ (by decide +kernel)) ggX7_works_X7_leaves
set_option maxRecDepth 20000 in
theorem ggX7_works_X7_firstWaited : GoodIn wsX7_works wsX7_firstWaited := goodIn_r _ [50, 51, 52, 53, 5, 54, 39, 40, 41, 42, 7, 8, 9, 10, 1, 55, 56, 57, 58, 67, 68, 69, 70, 71, 72, 73, 74, 75, 76, 77, 78, 79, 80] (by decide +kernel) (by decide +kernel)
set_option maxRecDepth 20000 in
theorem gX7_works_X7_firstWaited : GoodIn wsX7_works (wsV RX7 124 RX7 yX7_firstWaited wsX7_firstWaited) := goodIn_app (goodIn_of _ (by decide +kernel)) ggX7_works_X7_firstWaited
set_option maxRecDepth 20000 in
theorem ggX7_works_X7_takes : GoodIn wsX7_works wsX7_takes := goodIn_r _ [62, 1, 31, 32, 33, 5, 34, 63, 64, 65, 66, 7, 8, 9, 10, 19, 20, 21, 22, 11, 12, 13, 14, 15, 16, 17, 18, 23, 24, 25, 26, 43, 44, 45, 46, 27, 28, 29, 30, 67, 68, 69, 70, 71, 72, 73, 74, 75, 76, 77, 78, 79, 80] (by decide +kernel) (by decide +kernel)
set_option maxRecDepth 20000 in
theorem gX7_works_X7_takes : GoodIn wsX7_works (wsV RX7 127 RX7 yX7_takes wsX7_takes) := goodIn_app (goodIn_of _ (by decide +kernel)) ggX7_works_X7_takes
theorem dX7_works_0 : decode cX7_works 0 = .ok (.aload_n 0, 1) := by decide +kernel
theorem dX7_works_1 : decode cX7_works 1 = .ok (.invokevirtual 110, 3) := by decide +kernel
theorem dX7_works_4 : decode cX7_works 4 = .ok (.ifCond .eq 37, 3) := by decide +kernel
theorem dX7_works_7 : decode cX7_works 7 = .ok (.aload_n 0, 1) := by decide +kernel
theorem dX7_works_8 : decode cX7_works 8 = .ok (.getfield 7, 3) := by decide +kernel
theorem dX7_works_11 : decode cX7_works 11 = .ok (.iconst 2, 1) := by decide +kernel
theorem dX7_works_12 : decode cX7_works 12 = .ok (.iaload, 1) := by decide +kernel
theorem dX7_works_13 : decode cX7_works 13 = .ok (.istore_n 3, 1) := by decide +kernel
theorem dX7_works_14 : decode cX7_works 14 = .ok (.aload_n 0, 1) := by decide +kernel
theorem dX7_works_15 : decode cX7_works 15 = .ok (.iload_n 3, 1) := by decide +kernel
theorem dX7_works_16 : decode cX7_works 16 = .ok (.invokevirtual 114, 3) := by decide +kernel
theorem dX7_works_19 : decode cX7_works 19 = .ok (.aload_n 0, 1) := by decide +kernel
theorem dX7_works_20 : decode cX7_works 20 = .ok (.iload_n 3, 1) := by decide +kernel
theorem dX7_works_21 : decode cX7_works 21 = .ok (.iload_n 1, 1) := by decide +kernel
theorem dX7_works_22 : decode cX7_works 22 = .ok (.invokevirtual 118, 3) := by decide +kernel
theorem dX7_works_25 : decode cX7_works 25 = .ok (.aload_n 0, 1) := by decide +kernel
theorem dX7_works_26 : decode cX7_works 26 = .ok (.iload_n 3, 1) := by decide +kernel
theorem dX7_works_27 : decode cX7_works 27 = .ok (.bipush 9, 2) := by decide +kernel
theorem dX7_works_29 : decode cX7_works 29 = .ok (.iconst 1, 1) := by decide +kernel
theorem dX7_works_30 : decode cX7_works 30 = .ok (.invokevirtual 73, 3) := by decide +kernel
theorem dX7_works_33 : decode cX7_works 33 = .ok (.aload_n 0, 1) := by decide +kernel
theorem dX7_works_34 : decode cX7_works 34 = .ok (.iload_n 1, 1) := by decide +kernel
theorem dX7_works_35 : decode cX7_works 35 = .ok (.iconst 5, 1) := by decide +kernel
theorem dX7_works_36 : decode cX7_works 36 = .ok (.invokevirtual 80, 3) := by decide +kernel
theorem dX7_works_39 : decode cX7_works 39 = .ok (.iconst 1, 1) := by decide +kernel
theorem dX7_works_40 : decode cX7_works 40 = .ok (.ireturn, 1) := by decide +kernel
theorem dX7_works_41 : decode cX7_works 41 = .ok (.iconst 0, 1) := by decide +kernel
theorem dX7_works_42 : decode cX7_works 42 = .ok (.istore_n 3, 1) := by decide +kernel
theorem dX7_works_43 : decode cX7_works 43 = .ok (.iload_n 3, 1) := by decide +kernel
theorem dX7_works_44 : decode cX7_works 44 = .ok (.aload_n 0, 1) := by decide +kernel
theorem dX7_works_45 : decode cX7_works 45 = .ok (.iload_n 1, 1) := by decide +kernel
theorem dX7_works_46 : decode cX7_works 46 = .ok (.iconst 3, 1) := by decide +kernel
theorem dX7_works_47 : decode cX7_works 47 = .ok (.invokevirtual 77, 3) := by decide +kernel
theorem dX7_works_50 : decode cX7_works 50 = .ok (.if_icmp .ge 118, 3) := by decide +kernel
theorem dX7_works_53 : decode cX7_works 53 = .ok (.aload_n 0, 1) := by decide +kernel
theorem dX7_works_54 : decode cX7_works 54 = .ok (.iload_n 1, 1) := by decide +kernel
theorem dX7_works_55 : decode cX7_works 55 = .ok (.iload_n 3, 1) := by decide +kernel
theorem dX7_works_56 : decode cX7_works 56 = .ok (.invokevirtual 90, 3) := by decide +kernel
theorem dX7_works_59 : decode cX7_works 59 = .ok (.istore 4, 2) := by decide +kernel
theorem dX7_works_61 : decode cX7_works 61 = .ok (.aload_n 0, 1) := by decide +kernel
theorem dX7_works_62 : decode cX7_works 62 = .ok (.iload 4, 2) := by decide +kernel
theorem dX7_works_64 : decode cX7_works 64 = .ok (.iload_n 1, 1) := by decide +kernel
theorem dX7_works_65 : decode cX7_works 65 = .ok (.invokevirtual 93, 3) := by decide +kernel
theorem dX7_works_68 : decode cX7_works 68 = .ok (.ifCond .ne 9, 3) := by decide +kernel
theorem dX7_works_71 : decode cX7_works 71 = .ok (.iinc 3 1, 3) := by decide +kernel
theorem dX7_works_74 : decode cX7_works 74 = .ok (.goto 91, 3) := by decide +kernel
theorem dX7_works_77 : decode cX7_works 77 = .ok (.aload_n 0, 1) := by decide +kernel
theorem dX7_works_78 : decode cX7_works 78 = .ok (.iload 4, 2) := by decide +kernel
theorem dX7_works_80 : decode cX7_works 80 = .ok (.invokevirtual 67, 3) := by decide +kernel
theorem dX7_works_83 : decode cX7_works 83 = .ok (.ifCond .ne 58, 3) := by decide +kernel
theorem dX7_works_86 : decode cX7_works 86 = .ok (.aload_n 0, 1) := by decide +kernel
theorem dX7_works_87 : decode cX7_works 87 = .ok (.getfield 7, 3) := by decide +kernel
theorem dX7_works_90 : decode cX7_works 90 = .ok (.bipush 20, 2) := by decide +kernel
theorem dX7_works_92 : decode cX7_works 92 = .ok (.bipush 8, 2) := by decide +kernel
theorem dX7_works_94 : decode cX7_works 94 = .ok (.iload_n 1, 1) := by decide +kernel
theorem dX7_works_95 : decode cX7_works 95 = .ok (.imul, 1) := by decide +kernel
theorem dX7_works_96 : decode cX7_works 96 = .ok (.iadd, 1) := by decide +kernel
theorem dX7_works_97 : decode cX7_works 97 = .ok (.bipush 6, 2) := by decide +kernel
theorem dX7_works_99 : decode cX7_works 99 = .ok (.iadd, 1) := by decide +kernel
theorem dX7_works_100 : decode cX7_works 100 = .ok (.dup2, 1) := by decide +kernel
theorem dX7_works_101 : decode cX7_works 101 = .ok (.iaload, 1) := by decide +kernel
theorem dX7_works_102 : decode cX7_works 102 = .ok (.aload_n 0, 1) := by decide +kernel
theorem dX7_works_103 : decode cX7_works 103 = .ok (.iload 4, 2) := by decide +kernel
theorem dX7_works_105 : decode cX7_works 105 = .ok (.iconst 5, 1) := by decide +kernel
theorem dX7_works_106 : decode cX7_works 106 = .ok (.invokevirtual 50, 3) := by decide +kernel
theorem dX7_works_109 : decode cX7_works 109 = .ok (.iconst 2, 1) := by decide +kernel
theorem dX7_works_110 : decode cX7_works 110 = .ok (.if_icmp .ne 19, 3) := by decide +kernel
theorem dX7_works_113 : decode cX7_works 113 = .ok (.aload_n 0, 1) := by decide +kernel
theorem dX7_works_114 : decode cX7_works 114 = .ok (.iload 4, 2) := by decide +kernel
theorem dX7_works_116 : decode cX7_works 116 = .ok (.bipush 6, 2) := by decide +kernel
theorem dX7_works_118 : decode cX7_works 118 = .ok (.invokevirtual 50, 3) := by decide +kernel
theorem dX7_works_121 : decode cX7_works 121 = .ok (.iload_n 1, 1) := by decide +kernel
theorem dX7_works_122 : decode cX7_works 122 = .ok (.if_icmp .eq 7, 3) := by decide +kernel
theorem dX7_works_125 : decode cX7_works 125 = .ok (.iconst 1, 1) := by decide +kernel
theorem dX7_works_126 : decode cX7_works 126 = .ok (.goto 4, 3) := by decide +kernel
theorem dX7_works_129 : decode cX7_works 129 = .ok (.iconst 0, 1) := by decide +kernel
theorem dX7_works_130 : decode cX7_works 130 = .ok (.iadd, 1) := by decide +kernel
theorem dX7_works_131 : decode cX7_works 131 = .ok (.iastore, 1) := by decide +kernel
theorem dX7_works_132 : decode cX7_works 132 = .ok (.aload_n 0, 1) := by decide +kernel
theorem dX7_works_133 : decode cX7_works 133 = .ok (.iload_n 1, 1) := by decide +kernel
theorem dX7_works_134 : decode cX7_works 134 = .ok (.iload_n 3, 1) := by decide +kernel
theorem dX7_works_135 : decode cX7_works 135 = .ok (.invokevirtual 121, 3) := by decide +kernel
theorem dX7_works_138 : decode cX7_works 138 = .ok (.goto 27, 3) := by decide +kernel
theorem dX7_works_141 : decode cX7_works 141 = .ok (.aload_n 0, 1) := by decide +kernel
theorem dX7_works_142 : decode cX7_works 142 = .ok (.iload 4, 2) := by decide +kernel
theorem dX7_works_144 : decode cX7_works 144 = .ok (.invokevirtual 124, 3) := by decide +kernel
theorem dX7_works_147 : decode cX7_works 147 = .ok (.iconst (-1), 1) := by decide +kernel
theorem dX7_works_148 : decode cX7_works 148 = .ok (.if_icmp .eq 9, 3) := by decide +kernel
theorem dX7_works_151 : decode cX7_works 151 = .ok (.iinc 3 1, 3) := by decide +kernel
theorem dX7_works_154 : decode cX7_works 154 = .ok (.goto 11, 3) := by decide +kernel
theorem dX7_works_157 : decode cX7_works 157 = .ok (.aload_n 0, 1) := by decide +kernel
theorem dX7_works_158 : decode cX7_works 158 = .ok (.iload_n 1, 1) := by decide +kernel
theorem dX7_works_159 : decode cX7_works 159 = .ok (.iload_n 3, 1) := by decide +kernel
theorem dX7_works_160 : decode cX7_works 160 = .ok (.iload_n 2, 1) := by decide +kernel
theorem dX7_works_161 : decode cX7_works 161 = .ok (.invokevirtual 127, 3) := by decide +kernel
theorem dX7_works_164 : decode cX7_works 164 = .ok (.ireturn, 1) := by decide +kernel
theorem dX7_works_165 : decode cX7_works 165 = .ok (.goto (-122), 3) := by decide +kernel
theorem dX7_works_168 : decode cX7_works 168 = .ok (.iconst 0, 1) := by decide +kernel
theorem dX7_works_169 : decode cX7_works 169 = .ok (.ireturn, 1) := by decide +kernel
set_option maxRecDepth 20000 in
theorem ggX7_takes_X7_mailed : GoodIn wsX7_takes wsX7_mailed := goodIn_r _ [6, 1, 39, 40, 41, 42, 43, 44, 45, 46, 47, 48, 49, 50, 51, 52] (by decide +kernel) (by decide +kernel)
set_option maxRecDepth 20000 in
theorem gX7_takes_X7_mailed : GoodIn wsX7_takes (wsV RX7 90 RX7 yX7_mailed wsX7_mailed) := goodIn_app (goodIn_of _ (by decide +kernel)) ggX7_takes_X7_mailed
set_option maxRecDepth 20000 in
theorem ggX7_takes_X7_begins : GoodIn wsX7_takes wsX7_begins := goodIn_r _ [10, 1, 11, 12, 13, 5, 14, 15, 16, 17, 18, 39, 40, 41, 42, 43, 44, 45, 46, 47, 48, 49, 50, 51, 52] (by decide +kernel) (by decide +kernel)
set_option maxRecDepth 20000 in
theorem gX7_takes_X7_begins : GoodIn wsX7_takes (wsV RX7 130 RX7 yX7_begins wsX7_begins) := goodIn_app (goodIn_of _ (by decide +kernel)) ggX7_takes_X7_begins
set_option maxRecDepth 20000 in
theorem ggX7_takes_X7_writes : GoodIn wsX7_takes wsX7_writes := goodIn_r _ [22, 1, 11, 12, 13, 5, 14, 39, 40, 41, 42, 43, 44, 45, 46, 47, 48, 49, 50, 51, 52] (by decide +kernel) (by decide +kernel)
set_option maxRecDepth 20000 in
theorem gX7_takes_X7_writes : GoodIn wsX7_takes (wsV RX7 114 RX7 yX7_writes wsX7_writes) := goodIn_app (goodIn_of _ (by decide +kernel)) ggX7_takes_X7_writes
set_option maxRecDepth 20000 in
theorem ggX7_takes_X7_ends : GoodIn wsX7_takes wsX7_ends := goodIn_r _ [26, 1, 15, 16, 17, 5, 18, 27, 28, 29, 30, 39, 40, 41, 42, 43, 44, 45, 46, 47, 48, 49, 50, 51, 52] (by decide +kernel) (by decide +kernel)
set_option maxRecDepth 20000 in
theorem gX7_takes_X7_ends : GoodIn wsX7_takes (wsV RX7 118 RX7 yX7_ends wsX7_ends) := goodIn_app (goodIn_of _ (by decide +kernel)) ggX7_takes_X7_ends
set_option maxRecDepth 20000 in
theorem ggX7_takes_X7_leaves : GoodIn wsX7_takes wsX7_leaves := goodIn_r _ [34, 1, 35, 36, 37, 5, 38, 39, 40, 41, 42, 43, 44, 45, 46, 47, 48, 49, 50, 51, 52] (by decide +kernel) (by decide +kernel)
set_option maxRecDepth 20000 in
theorem gX7_takes_X7_leaves : GoodIn wsX7_takes (wsV RX7 121 RX7 yX7_leaves wsX7_leaves) := goodIn_app (goodIn_of _ (by decide +kernel)) ggX7_takes_X7_leaves
set_option maxRecDepth 20000 in
theorem ggX7_takes_X7_more : GoodIn wsX7_takes wsX7_more := goodIn_r _ [30, 1, 39, 40, 41, 42, 43, 44, 45, 46, 47, 48, 49, 50, 51, 52] (by decide +kernel) (by decide +kernel)
set_option maxRecDepth 20000 in
theorem gX7_takes_X7_more : GoodIn wsX7_takes (wsV RX7 80 RX7 yX7_more wsX7_more) := goodIn_app (goodIn_of _ (by decide +kernel)) ggX7_takes_X7_more
theorem dX7_takes_0 : decode cX7_takes 0 = .ok (.aload_n 0, 1) := by decide +kernel
theorem dX7_takes_1 : decode cX7_takes 1 = .ok (.iload_n 1, 1) := by decide +kernel
theorem dX7_takes_2 : decode cX7_takes 2 = .ok (.iload_n 2, 1) := by decide +kernel
theorem dX7_takes_3 : decode cX7_takes 3 = .ok (.invokevirtual 90, 3) := by decide +kernel
theorem dX7_takes_6 : decode cX7_takes 6 = .ok (.istore 4, 2) := by decide +kernel
theorem dX7_takes_8 : decode cX7_takes 8 = .ok (.aload_n 0, 1) := by decide +kernel
theorem dX7_takes_9 : decode cX7_takes 9 = .ok (.iload 4, 2) := by decide +kernel
theorem dX7_takes_11 : decode cX7_takes 11 = .ok (.invokevirtual 130, 3) := by decide +kernel
theorem dX7_takes_14 : decode cX7_takes 14 = .ok (.iload_n 3, 1) := by decide +kernel
theorem dX7_takes_15 : decode cX7_takes 15 = .ok (.iconst 1, 1) := by decide +kernel
theorem dX7_takes_16 : decode cX7_takes 16 = .ok (.if_icmp .le 9, 3) := by decide +kernel
theorem dX7_takes_19 : decode cX7_takes 19 = .ok (.aload_n 0, 1) := by decide +kernel
theorem dX7_takes_20 : decode cX7_takes 20 = .ok (.iload 4, 2) := by decide +kernel
theorem dX7_takes_22 : decode cX7_takes 22 = .ok (.invokevirtual 114, 3) := by decide +kernel
theorem dX7_takes_25 : decode cX7_takes 25 = .ok (.iload_n 3, 1) := by decide +kernel
theorem dX7_takes_26 : decode cX7_takes 26 = .ok (.iconst 2, 1) := by decide +kernel
theorem dX7_takes_27 : decode cX7_takes 27 = .ok (.if_icmp .le 18, 3) := by decide +kernel
theorem dX7_takes_30 : decode cX7_takes 30 = .ok (.aload_n 0, 1) := by decide +kernel
theorem dX7_takes_31 : decode cX7_takes 31 = .ok (.iload 4, 2) := by decide +kernel
theorem dX7_takes_33 : decode cX7_takes 33 = .ok (.iload_n 1, 1) := by decide +kernel
theorem dX7_takes_34 : decode cX7_takes 34 = .ok (.invokevirtual 118, 3) := by decide +kernel
theorem dX7_takes_37 : decode cX7_takes 37 = .ok (.aload_n 0, 1) := by decide +kernel
theorem dX7_takes_38 : decode cX7_takes 38 = .ok (.iload_n 1, 1) := by decide +kernel
theorem dX7_takes_39 : decode cX7_takes 39 = .ok (.iload_n 2, 1) := by decide +kernel
theorem dX7_takes_40 : decode cX7_takes 40 = .ok (.invokevirtual 121, 3) := by decide +kernel
theorem dX7_takes_43 : decode cX7_takes 43 = .ok (.iconst 2, 1) := by decide +kernel
theorem dX7_takes_44 : decode cX7_takes 44 = .ok (.ireturn, 1) := by decide +kernel
theorem dX7_takes_45 : decode cX7_takes 45 = .ok (.aload_n 0, 1) := by decide +kernel
theorem dX7_takes_46 : decode cX7_takes 46 = .ok (.getfield 7, 3) := by decide +kernel
theorem dX7_takes_49 : decode cX7_takes 49 = .ok (.bipush 20, 2) := by decide +kernel
theorem dX7_takes_51 : decode cX7_takes 51 = .ok (.bipush 8, 2) := by decide +kernel
theorem dX7_takes_53 : decode cX7_takes 53 = .ok (.iload_n 1, 1) := by decide +kernel
theorem dX7_takes_54 : decode cX7_takes 54 = .ok (.imul, 1) := by decide +kernel
theorem dX7_takes_55 : decode cX7_takes 55 = .ok (.iadd, 1) := by decide +kernel
theorem dX7_takes_56 : decode cX7_takes 56 = .ok (.iconst 0, 1) := by decide +kernel
theorem dX7_takes_57 : decode cX7_takes 57 = .ok (.iadd, 1) := by decide +kernel
theorem dX7_takes_58 : decode cX7_takes 58 = .ok (.iconst 0, 1) := by decide +kernel
theorem dX7_takes_59 : decode cX7_takes 59 = .ok (.iastore, 1) := by decide +kernel
theorem dX7_takes_60 : decode cX7_takes 60 = .ok (.aload_n 0, 1) := by decide +kernel
theorem dX7_takes_61 : decode cX7_takes 61 = .ok (.iload_n 1, 1) := by decide +kernel
theorem dX7_takes_62 : decode cX7_takes 62 = .ok (.bipush 7, 2) := by decide +kernel
theorem dX7_takes_64 : decode cX7_takes 64 = .ok (.invokevirtual 80, 3) := by decide +kernel
theorem dX7_takes_67 : decode cX7_takes 67 = .ok (.iconst 3, 1) := by decide +kernel
theorem dX7_takes_68 : decode cX7_takes 68 = .ok (.ireturn, 1) := by decide +kernel
set_option maxRecDepth 20000 in
theorem ggX7_work_X7_isController : GoodIn wsX7_work wsX7_isController := goodIn_r _ [4, 5, 6, 3, 7] (by decide +kernel) (by decide +kernel)
set_option maxRecDepth 20000 in
theorem gX7_work_X7_isController : GoodIn wsX7_work (va_wsS RX7 96 yX7_isController wsX7_isController) := goodIn_app (goodIn_of _ (by decide +kernel)) ggX7_work_X7_isController
set_option maxRecDepth 20000 in
theorem ggX7_work_X7_within : GoodIn wsX7_work wsX7_within := goodIn_r _ [7] (by decide +kernel) (by decide +kernel)
set_option maxRecDepth 20000 in
theorem gX7_work_X7_within : GoodIn wsX7_work (va_wsS RX7 46 yX7_within wsX7_within) := goodIn_app (goodIn_of _ (by decide +kernel)) ggX7_work_X7_within
set_option maxRecDepth 20000 in
theorem ggX7_work_X7_control : GoodIn wsX7_work wsX7_control := goodIn_r _ [11, 12, 89, 90, 91, 92, 93, 94, 95, 96, 97, 98, 99, 100, 101, 102] (by decide +kernel) (by decide +kernel)
set_option maxRecDepth 20000 in
theorem gX7_work_X7_control : GoodIn wsX7_work (wsV RX7 77 RX7 yX7_control wsX7_control) := goodIn_app (goodIn_of _ (by decide +kernel)) ggX7_work_X7_control
set_option maxRecDepth 20000 in
theorem ggX7_work_X7_refused : GoodIn wsX7_work wsX7_refused := goodIn_r _ [16, 17, 89, 90, 91, 92, 93, 94, 95, 96, 97, 98, 99, 100, 101, 102] (by decide +kernel) (by decide +kernel)
set_option maxRecDepth 20000 in
theorem gX7_work_X7_refused : GoodIn wsX7_work (wsV RX7 42 RX7 yX7_refused wsX7_refused) := goodIn_app (goodIn_of _ (by decide +kernel)) ggX7_work_X7_refused
set_option maxRecDepth 20000 in
theorem ggX7_work_X7_saves : GoodIn wsX7_work wsX7_saves := goodIn_r _ [21, 22, 23, 24, 12, 89, 90, 91, 92, 93, 94, 95, 96, 97, 98, 99, 100, 101, 102] (by decide +kernel) (by decide +kernel)
set_option maxRecDepth 20000 in
theorem gX7_work_X7_saves : GoodIn wsX7_work (wsV RX7 70 RX7 yX7_saves wsX7_saves) := goodIn_app (goodIn_of _ (by decide +kernel)) ggX7_work_X7_saves
set_option maxRecDepth 20000 in
theorem ggX7_work_X7_works : GoodIn wsX7_work wsX7_works := goodIn_r _ [28, 12, 29, 30, 31, 3, 32, 33, 34, 35, 36, 37, 38, 39, 40, 41, 42, 43, 44, 45, 46, 47, 48, 49, 50, 51, 52, 8, 9, 10, 11, 53, 54, 55, 56, 57, 58, 59, 60, 61, 62, 63, 64, 65, 66, 67, 68, 69, 70, 71, 72, 73, 74, 75, 76, 77, 78, 79, 80, 81, 82, 83, 84, 85, 86, 87, 88, 89, 90, 91, 92, 93, 94, 95, 96, 97, 98, 99, 100, 101, 102] (by decide +kernel) (by decide +kernel)
set_option maxRecDepth 20000 in
theorem gX7_work_X7_works : GoodIn wsX7_work (wsV RX7 133 RX7 yX7_works wsX7_works) := goodIn_app (goodIn_of _ (by decide +kernel)) ggX7_work_X7_works
theorem dX7_work_0 : decode cX7_work 0 = .ok (.aload_n 0, 1) := by decide +kernel
theorem dX7_work_1 : decode cX7_work 1 = .ok (.iload_n 1, 1) := by decide +kernel
theorem dX7_work_2 : decode cX7_work 2 = .ok (.invokestatic 96, 3) := by decide +kernel
theorem dX7_work_5 : decode cX7_work 5 = .ok (.ifCond .ne 7, 3) := by decide +kernel
theorem dX7_work_8 : decode cX7_work 8 = .ok (.iconst 1, 1) := by decide +kernel
theorem dX7_work_9 : decode cX7_work 9 = .ok (.goto 30, 3) := by decide +kernel
theorem dX7_work_12 : decode cX7_work 12 = .ok (.iload_n 2, 1) := by decide +kernel
theorem dX7_work_13 : decode cX7_work 13 = .ok (.iconst 1, 1) := by decide +kernel
theorem dX7_work_14 : decode cX7_work 14 = .ok (.iconst 3, 1) := by decide +kernel
theorem dX7_work_15 : decode cX7_work 15 = .ok (.invokestatic 46, 3) := by decide +kernel
theorem dX7_work_18 : decode cX7_work 18 = .ok (.ifCond .ne 7, 3) := by decide +kernel
theorem dX7_work_21 : decode cX7_work 21 = .ok (.iconst 2, 1) := by decide +kernel
theorem dX7_work_22 : decode cX7_work 22 = .ok (.goto 17, 3) := by decide +kernel
theorem dX7_work_25 : decode cX7_work 25 = .ok (.aload_n 0, 1) := by decide +kernel
theorem dX7_work_26 : decode cX7_work 26 = .ok (.iload_n 1, 1) := by decide +kernel
theorem dX7_work_27 : decode cX7_work 27 = .ok (.iconst 0, 1) := by decide +kernel
theorem dX7_work_28 : decode cX7_work 28 = .ok (.invokevirtual 77, 3) := by decide +kernel
theorem dX7_work_31 : decode cX7_work 31 = .ok (.ifCond .ne 7, 3) := by decide +kernel
theorem dX7_work_34 : decode cX7_work 34 = .ok (.iconst 3, 1) := by decide +kernel
theorem dX7_work_35 : decode cX7_work 35 = .ok (.goto 4, 3) := by decide +kernel
theorem dX7_work_38 : decode cX7_work 38 = .ok (.iconst 0, 1) := by decide +kernel
theorem dX7_work_39 : decode cX7_work 39 = .ok (.invokevirtual 42, 3) := by decide +kernel
theorem dX7_work_42 : decode cX7_work 42 = .ok (.ifCond .eq 5, 3) := by decide +kernel
theorem dX7_work_45 : decode cX7_work 45 = .ok (.iconst 0, 1) := by decide +kernel
theorem dX7_work_46 : decode cX7_work 46 = .ok (.ireturn, 1) := by decide +kernel
theorem dX7_work_47 : decode cX7_work 47 = .ok (.aload_n 0, 1) := by decide +kernel
theorem dX7_work_48 : decode cX7_work 48 = .ok (.invokevirtual 70, 3) := by decide +kernel
theorem dX7_work_51 : decode cX7_work 51 = .ok (.aload_n 0, 1) := by decide +kernel
theorem dX7_work_52 : decode cX7_work 52 = .ok (.iload_n 1, 1) := by decide +kernel
theorem dX7_work_53 : decode cX7_work 53 = .ok (.iload_n 2, 1) := by decide +kernel
theorem dX7_work_54 : decode cX7_work 54 = .ok (.invokevirtual 133, 3) := by decide +kernel
theorem dX7_work_57 : decode cX7_work 57 = .ok (.ireturn, 1) := by decide +kernel
set_option maxRecDepth 20000 in
theorem ggX7_ordersIn_X7_of : GoodIn wsX7_ordersIn wsX7_of := goodIn_r _ [6, 1, 7, 8, 9, 10, 11, 12, 13, 14, 15, 16, 17, 18, 19, 20] (by decide +kernel) (by decide +kernel)
set_option maxRecDepth 20000 in
theorem gX7_ordersIn_X7_of : GoodIn wsX7_ordersIn (wsV RX7 50 RX7 yX7_of wsX7_of) := goodIn_app (goodIn_of _ (by decide +kernel)) ggX7_ordersIn_X7_of
theorem dX7_ordersIn_0 : decode cX7_ordersIn 0 = .ok (.iconst 0, 1) := by decide +kernel
theorem dX7_ordersIn_1 : decode cX7_ordersIn 1 = .ok (.istore_n 2, 1) := by decide +kernel
theorem dX7_ordersIn_2 : decode cX7_ordersIn 2 = .ok (.iconst 0, 1) := by decide +kernel
theorem dX7_ordersIn_3 : decode cX7_ordersIn 3 = .ok (.istore_n 3, 1) := by decide +kernel
theorem dX7_ordersIn_4 : decode cX7_ordersIn 4 = .ok (.iload_n 3, 1) := by decide +kernel
theorem dX7_ordersIn_5 : decode cX7_ordersIn 5 = .ok (.aload_n 0, 1) := by decide +kernel
theorem dX7_ordersIn_6 : decode cX7_ordersIn 6 = .ok (.getfield 7, 3) := by decide +kernel
theorem dX7_ordersIn_9 : decode cX7_ordersIn 9 = .ok (.iconst 1, 1) := by decide +kernel
theorem dX7_ordersIn_10 : decode cX7_ordersIn 10 = .ok (.iaload, 1) := by decide +kernel
theorem dX7_ordersIn_11 : decode cX7_ordersIn 11 = .ok (.if_icmp .ge 27, 3) := by decide +kernel
theorem dX7_ordersIn_14 : decode cX7_ordersIn 14 = .ok (.iload_n 2, 1) := by decide +kernel
theorem dX7_ordersIn_15 : decode cX7_ordersIn 15 = .ok (.aload_n 0, 1) := by decide +kernel
theorem dX7_ordersIn_16 : decode cX7_ordersIn 16 = .ok (.iload_n 3, 1) := by decide +kernel
theorem dX7_ordersIn_17 : decode cX7_ordersIn 17 = .ok (.iconst 5, 1) := by decide +kernel
theorem dX7_ordersIn_18 : decode cX7_ordersIn 18 = .ok (.invokevirtual 50, 3) := by decide +kernel
theorem dX7_ordersIn_21 : decode cX7_ordersIn 21 = .ok (.iload_n 1, 1) := by decide +kernel
theorem dX7_ordersIn_22 : decode cX7_ordersIn 22 = .ok (.if_icmp .ne 7, 3) := by decide +kernel
theorem dX7_ordersIn_25 : decode cX7_ordersIn 25 = .ok (.iconst 1, 1) := by decide +kernel
theorem dX7_ordersIn_26 : decode cX7_ordersIn 26 = .ok (.goto 4, 3) := by decide +kernel
theorem dX7_ordersIn_29 : decode cX7_ordersIn 29 = .ok (.iconst 0, 1) := by decide +kernel
theorem dX7_ordersIn_30 : decode cX7_ordersIn 30 = .ok (.iadd, 1) := by decide +kernel
theorem dX7_ordersIn_31 : decode cX7_ordersIn 31 = .ok (.istore_n 2, 1) := by decide +kernel
theorem dX7_ordersIn_32 : decode cX7_ordersIn 32 = .ok (.iinc 3 1, 3) := by decide +kernel
theorem dX7_ordersIn_35 : decode cX7_ordersIn 35 = .ok (.goto (-31), 3) := by decide +kernel
theorem dX7_ordersIn_38 : decode cX7_ordersIn 38 = .ok (.iload_n 2, 1) := by decide +kernel
theorem dX7_ordersIn_39 : decode cX7_ordersIn 39 = .ok (.ireturn, 1) := by decide +kernel
set_option maxRecDepth 20000 in
theorem ggX7_passes_X7_control : GoodIn wsX7_passes wsX7_control := goodIn_r _ [6, 1, 71, 72, 73, 74, 75, 76, 77, 78, 79, 80, 81, 82, 83, 84] (by decide +kernel) (by decide +kernel)
set_option maxRecDepth 20000 in
theorem gX7_passes_X7_control : GoodIn wsX7_passes (wsV RX7 77 RX7 yX7_control wsX7_control) := goodIn_app (goodIn_of _ (by decide +kernel)) ggX7_passes_X7_control
set_option maxRecDepth 20000 in
theorem ggX7_passes_X7_works : GoodIn wsX7_passes wsX7_works := goodIn_r _ [10, 1, 11, 12, 13, 5, 14, 15, 16, 17, 18, 19, 20, 21, 22, 23, 24, 25, 26, 27, 28, 29, 30, 31, 32, 33, 34, 2, 3, 4, 6, 35, 36, 37, 38, 39, 40, 41, 42, 43, 44, 45, 46, 47, 48, 49, 50, 51, 52, 53, 54, 55, 56, 57, 58, 59, 60, 61, 62, 63, 64, 65, 66, 67, 68, 69, 70, 71, 72, 73, 74, 75, 76, 77, 78, 79, 80, 81, 82, 83, 84] (by decide +kernel) (by decide +kernel)
set_option maxRecDepth 20000 in
theorem gX7_passes_X7_works : GoodIn wsX7_passes (wsV RX7 133 RX7 yX7_works wsX7_works) := goodIn_app (goodIn_of _ (by decide +kernel)) ggX7_passes_X7_works
theorem dX7_passes_0 : decode cX7_passes 0 = .ok (.iconst 0, 1) := by decide +kernel
theorem dX7_passes_1 : decode cX7_passes 1 = .ok (.istore_n 1, 1) := by decide +kernel
theorem dX7_passes_2 : decode cX7_passes 2 = .ok (.iload_n 1, 1) := by decide +kernel
theorem dX7_passes_3 : decode cX7_passes 3 = .ok (.iconst 2, 1) := by decide +kernel
theorem dX7_passes_4 : decode cX7_passes 4 = .ok (.if_icmp .ge 46, 3) := by decide +kernel
theorem dX7_passes_7 : decode cX7_passes 7 = .ok (.aload_n 0, 1) := by decide +kernel
theorem dX7_passes_8 : decode cX7_passes 8 = .ok (.iload_n 1, 1) := by decide +kernel
theorem dX7_passes_9 : decode cX7_passes 9 = .ok (.iconst 2, 1) := by decide +kernel
theorem dX7_passes_10 : decode cX7_passes 10 = .ok (.invokevirtual 77, 3) := by decide +kernel
theorem dX7_passes_13 : decode cX7_passes 13 = .ok (.istore_n 2, 1) := by decide +kernel
theorem dX7_passes_14 : decode cX7_passes 14 = .ok (.iload_n 2, 1) := by decide +kernel
theorem dX7_passes_15 : decode cX7_passes 15 = .ok (.ifCond .eq 29, 3) := by decide +kernel
theorem dX7_passes_18 : decode cX7_passes 18 = .ok (.aload_n 0, 1) := by decide +kernel
theorem dX7_passes_19 : decode cX7_passes 19 = .ok (.getfield 7, 3) := by decide +kernel
theorem dX7_passes_22 : decode cX7_passes 22 = .ok (.iconst 0, 1) := by decide +kernel
theorem dX7_passes_23 : decode cX7_passes 23 = .ok (.iaload, 1) := by decide +kernel
theorem dX7_passes_24 : decode cX7_passes 24 = .ok (.iload_n 2, 1) := by decide +kernel
theorem dX7_passes_25 : decode cX7_passes 25 = .ok (.irem, 1) := by decide +kernel
theorem dX7_passes_26 : decode cX7_passes 26 = .ok (.ifCond .ne 18, 3) := by decide +kernel
theorem dX7_passes_29 : decode cX7_passes 29 = .ok (.aload_n 0, 1) := by decide +kernel
theorem dX7_passes_30 : decode cX7_passes 30 = .ok (.getfield 7, 3) := by decide +kernel
theorem dX7_passes_33 : decode cX7_passes 33 = .ok (.bipush 20, 2) := by decide +kernel
theorem dX7_passes_35 : decode cX7_passes 35 = .ok (.bipush 8, 2) := by decide +kernel
theorem dX7_passes_37 : decode cX7_passes 37 = .ok (.iload_n 1, 1) := by decide +kernel
theorem dX7_passes_38 : decode cX7_passes 38 = .ok (.imul, 1) := by decide +kernel
theorem dX7_passes_39 : decode cX7_passes 39 = .ok (.iadd, 1) := by decide +kernel
theorem dX7_passes_40 : decode cX7_passes 40 = .ok (.iconst 0, 1) := by decide +kernel
theorem dX7_passes_41 : decode cX7_passes 41 = .ok (.iadd, 1) := by decide +kernel
theorem dX7_passes_42 : decode cX7_passes 42 = .ok (.iconst 1, 1) := by decide +kernel
theorem dX7_passes_43 : decode cX7_passes 43 = .ok (.iastore, 1) := by decide +kernel
theorem dX7_passes_44 : decode cX7_passes 44 = .ok (.iinc 1 1, 3) := by decide +kernel
theorem dX7_passes_47 : decode cX7_passes 47 = .ok (.goto (-45), 3) := by decide +kernel
theorem dX7_passes_50 : decode cX7_passes 50 = .ok (.aload_n 0, 1) := by decide +kernel
theorem dX7_passes_51 : decode cX7_passes 51 = .ok (.getfield 7, 3) := by decide +kernel
theorem dX7_passes_54 : decode cX7_passes 54 = .ok (.iconst 0, 1) := by decide +kernel
theorem dX7_passes_55 : decode cX7_passes 55 = .ok (.iaload, 1) := by decide +kernel
theorem dX7_passes_56 : decode cX7_passes 56 = .ok (.iconst 2, 1) := by decide +kernel
theorem dX7_passes_57 : decode cX7_passes 57 = .ok (.irem, 1) := by decide +kernel
theorem dX7_passes_58 : decode cX7_passes 58 = .ok (.istore_n 1, 1) := by decide +kernel
theorem dX7_passes_59 : decode cX7_passes 59 = .ok (.aload_n 0, 1) := by decide +kernel
theorem dX7_passes_60 : decode cX7_passes 60 = .ok (.iload_n 1, 1) := by decide +kernel
theorem dX7_passes_61 : decode cX7_passes 61 = .ok (.iconst 0, 1) := by decide +kernel
theorem dX7_passes_62 : decode cX7_passes 62 = .ok (.invokevirtual 77, 3) := by decide +kernel
theorem dX7_passes_65 : decode cX7_passes 65 = .ok (.iconst 1, 1) := by decide +kernel
theorem dX7_passes_66 : decode cX7_passes 66 = .ok (.if_icmp .ne 10, 3) := by decide +kernel
theorem dX7_passes_69 : decode cX7_passes 69 = .ok (.aload_n 0, 1) := by decide +kernel
theorem dX7_passes_70 : decode cX7_passes 70 = .ok (.iload_n 1, 1) := by decide +kernel
theorem dX7_passes_71 : decode cX7_passes 71 = .ok (.iconst 3, 1) := by decide +kernel
theorem dX7_passes_72 : decode cX7_passes 72 = .ok (.invokevirtual 133, 3) := by decide +kernel
theorem dX7_passes_75 : decode cX7_passes 75 = .ok (.pop, 1) := by decide +kernel
theorem dX7_passes_76 : decode cX7_passes 76 = .ok (.aload_n 0, 1) := by decide +kernel
theorem dX7_passes_77 : decode cX7_passes 77 = .ok (.iconst 1, 1) := by decide +kernel
theorem dX7_passes_78 : decode cX7_passes 78 = .ok (.iload_n 1, 1) := by decide +kernel
theorem dX7_passes_79 : decode cX7_passes 79 = .ok (.isub, 1) := by decide +kernel
theorem dX7_passes_80 : decode cX7_passes 80 = .ok (.iconst 0, 1) := by decide +kernel
theorem dX7_passes_81 : decode cX7_passes 81 = .ok (.invokevirtual 77, 3) := by decide +kernel
theorem dX7_passes_84 : decode cX7_passes 84 = .ok (.iconst 1, 1) := by decide +kernel
theorem dX7_passes_85 : decode cX7_passes 85 = .ok (.if_icmp .ne 12, 3) := by decide +kernel
theorem dX7_passes_88 : decode cX7_passes 88 = .ok (.aload_n 0, 1) := by decide +kernel
theorem dX7_passes_89 : decode cX7_passes 89 = .ok (.iconst 1, 1) := by decide +kernel
theorem dX7_passes_90 : decode cX7_passes 90 = .ok (.iload_n 1, 1) := by decide +kernel
theorem dX7_passes_91 : decode cX7_passes 91 = .ok (.isub, 1) := by decide +kernel
theorem dX7_passes_92 : decode cX7_passes 92 = .ok (.iconst 3, 1) := by decide +kernel
theorem dX7_passes_93 : decode cX7_passes 93 = .ok (.invokevirtual 133, 3) := by decide +kernel
theorem dX7_passes_96 : decode cX7_passes 96 = .ok (.pop, 1) := by decide +kernel
theorem dX7_passes_97 : decode cX7_passes 97 = .ok (.aload_n 0, 1) := by decide +kernel
theorem dX7_passes_98 : decode cX7_passes 98 = .ok (.getfield 7, 3) := by decide +kernel
theorem dX7_passes_101 : decode cX7_passes 101 = .ok (.iconst 0, 1) := by decide +kernel
theorem dX7_passes_102 : decode cX7_passes 102 = .ok (.dup2, 1) := by decide +kernel
theorem dX7_passes_103 : decode cX7_passes 103 = .ok (.iaload, 1) := by decide +kernel
theorem dX7_passes_104 : decode cX7_passes 104 = .ok (.iconst 1, 1) := by decide +kernel
theorem dX7_passes_105 : decode cX7_passes 105 = .ok (.iadd, 1) := by decide +kernel
theorem dX7_passes_106 : decode cX7_passes 106 = .ok (.iastore, 1) := by decide +kernel
theorem dX7_passes_107 : decode cX7_passes 107 = .ok (.return_, 1) := by decide +kernel
set_option maxRecDepth 20000 in
theorem ggX7_pass_X7_within : GoodIn wsX7_pass wsX7_within := goodIn_r _ [5] (by decide +kernel) (by decide +kernel)
set_option maxRecDepth 20000 in
theorem gX7_pass_X7_within : GoodIn wsX7_pass (va_wsS RX7 46 yX7_within wsX7_within) := goodIn_app (goodIn_of _ (by decide +kernel)) ggX7_pass_X7_within
set_option maxRecDepth 20000 in
theorem ggX7_pass_X7_refused : GoodIn wsX7_pass wsX7_refused := goodIn_r _ [9, 10, 94, 95, 96, 97, 98, 99, 100, 101, 102, 103, 104, 105, 106, 107] (by decide +kernel) (by decide +kernel)
set_option maxRecDepth 20000 in
theorem gX7_pass_X7_refused : GoodIn wsX7_pass (wsV RX7 42 RX7 yX7_refused wsX7_refused) := goodIn_app (goodIn_of _ (by decide +kernel)) ggX7_pass_X7_refused
set_option maxRecDepth 20000 in
theorem ggX7_pass_X7_saves : GoodIn wsX7_pass wsX7_saves := goodIn_r _ [14, 15, 16, 17, 1, 94, 95, 96, 97, 98, 99, 100, 101, 102, 103, 104, 105, 106, 107] (by decide +kernel) (by decide +kernel)
set_option maxRecDepth 20000 in
theorem gX7_pass_X7_saves : GoodIn wsX7_pass (wsV RX7 70 RX7 yX7_saves wsX7_saves) := goodIn_app (goodIn_of _ (by decide +kernel)) ggX7_pass_X7_saves
set_option maxRecDepth 20000 in
theorem ggX7_pass_X7_ordersIn : GoodIn wsX7_pass wsX7_ordersIn := goodIn_r _ [21, 1, 22, 23, 24, 4, 25, 94, 95, 96, 97, 98, 99, 100, 101, 102, 103, 104, 105, 106, 107] (by decide +kernel) (by decide +kernel)
set_option maxRecDepth 20000 in
theorem gX7_pass_X7_ordersIn : GoodIn wsX7_pass (wsV RX7 136 RX7 yX7_ordersIn wsX7_ordersIn) := goodIn_app (goodIn_of _ (by decide +kernel)) ggX7_pass_X7_ordersIn
set_option maxRecDepth 20000 in
theorem ggX7_pass_X7_passes : GoodIn wsX7_pass wsX7_passes := goodIn_r _ [29, 1, 30, 31, 32, 4, 33, 34, 35, 36, 37, 38, 39, 40, 41, 22, 23, 24, 25, 42, 43, 44, 45, 46, 47, 48, 49, 50, 51, 52, 53, 54, 55, 56, 57, 58, 59, 60, 61, 62, 63, 64, 65, 66, 67, 68, 69, 70, 71, 72, 73, 74, 75, 76, 77, 78, 79, 80, 81, 82, 83, 84, 85, 86, 87, 88, 89, 90, 91, 92, 93, 94, 95, 96, 97, 98, 99, 100, 101, 102, 103, 104, 105, 106, 107] (by decide +kernel) (by decide +kernel)
set_option maxRecDepth 20000 in
theorem gX7_pass_X7_passes : GoodIn wsX7_pass (wsV RX7 139 RX7 yX7_passes wsX7_passes) := goodIn_app (goodIn_of _ (by decide +kernel)) ggX7_pass_X7_passes
theorem dX7_pass_0 : decode cX7_pass 0 = .ok (.aload_n 0, 1) := by decide +kernel
theorem dX7_pass_1 : decode cX7_pass 1 = .ok (.iload_n 1, 1) := by decide +kernel
theorem dX7_pass_2 : decode cX7_pass 2 = .ok (.iconst 1, 1) := by decide +kernel
theorem dX7_pass_3 : decode cX7_pass 3 = .ok (.bipush 50, 2) := by decide +kernel
theorem dX7_pass_5 : decode cX7_pass 5 = .ok (.invokestatic 46, 3) := by decide +kernel
theorem dX7_pass_8 : decode cX7_pass 8 = .ok (.ifCond .ne 7, 3) := by decide +kernel
theorem dX7_pass_11 : decode cX7_pass 11 = .ok (.iconst 1, 1) := by decide +kernel
theorem dX7_pass_12 : decode cX7_pass 12 = .ok (.goto 22, 3) := by decide +kernel
theorem dX7_pass_15 : decode cX7_pass 15 = .ok (.aload_n 0, 1) := by decide +kernel
theorem dX7_pass_16 : decode cX7_pass 16 = .ok (.getfield 7, 3) := by decide +kernel
theorem dX7_pass_19 : decode cX7_pass 19 = .ok (.iconst 0, 1) := by decide +kernel
theorem dX7_pass_20 : decode cX7_pass 20 = .ok (.iaload, 1) := by decide +kernel
theorem dX7_pass_21 : decode cX7_pass 21 = .ok (.iload_n 1, 1) := by decide +kernel
theorem dX7_pass_22 : decode cX7_pass 22 = .ok (.iadd, 1) := by decide +kernel
theorem dX7_pass_23 : decode cX7_pass 23 = .ok (.sipush 9999, 3) := by decide +kernel
theorem dX7_pass_26 : decode cX7_pass 26 = .ok (.if_icmp .le 7, 3) := by decide +kernel
theorem dX7_pass_29 : decode cX7_pass 29 = .ok (.iconst 2, 1) := by decide +kernel
theorem dX7_pass_30 : decode cX7_pass 30 = .ok (.goto 4, 3) := by decide +kernel
theorem dX7_pass_33 : decode cX7_pass 33 = .ok (.iconst 0, 1) := by decide +kernel
theorem dX7_pass_34 : decode cX7_pass 34 = .ok (.invokevirtual 42, 3) := by decide +kernel
theorem dX7_pass_37 : decode cX7_pass 37 = .ok (.ifCond .eq 5, 3) := by decide +kernel
theorem dX7_pass_40 : decode cX7_pass 40 = .ok (.iconst 0, 1) := by decide +kernel
theorem dX7_pass_41 : decode cX7_pass 41 = .ok (.ireturn, 1) := by decide +kernel
theorem dX7_pass_42 : decode cX7_pass 42 = .ok (.aload_n 0, 1) := by decide +kernel
theorem dX7_pass_43 : decode cX7_pass 43 = .ok (.invokevirtual 70, 3) := by decide +kernel
theorem dX7_pass_46 : decode cX7_pass 46 = .ok (.aload_n 0, 1) := by decide +kernel
theorem dX7_pass_47 : decode cX7_pass 47 = .ok (.iconst 2, 1) := by decide +kernel
theorem dX7_pass_48 : decode cX7_pass 48 = .ok (.invokevirtual 136, 3) := by decide +kernel
theorem dX7_pass_51 : decode cX7_pass 51 = .ok (.istore_n 2, 1) := by decide +kernel
theorem dX7_pass_52 : decode cX7_pass 52 = .ok (.iconst 0, 1) := by decide +kernel
theorem dX7_pass_53 : decode cX7_pass 53 = .ok (.istore_n 3, 1) := by decide +kernel
theorem dX7_pass_54 : decode cX7_pass 54 = .ok (.iload_n 3, 1) := by decide +kernel
theorem dX7_pass_55 : decode cX7_pass 55 = .ok (.iload_n 1, 1) := by decide +kernel
theorem dX7_pass_56 : decode cX7_pass 56 = .ok (.if_icmp .ge 13, 3) := by decide +kernel
theorem dX7_pass_59 : decode cX7_pass 59 = .ok (.aload_n 0, 1) := by decide +kernel
theorem dX7_pass_60 : decode cX7_pass 60 = .ok (.invokevirtual 139, 3) := by decide +kernel
theorem dX7_pass_63 : decode cX7_pass 63 = .ok (.iinc 3 1, 3) := by decide +kernel
theorem dX7_pass_66 : decode cX7_pass 66 = .ok (.goto (-12), 3) := by decide +kernel
theorem dX7_pass_69 : decode cX7_pass 69 = .ok (.aload_n 0, 1) := by decide +kernel
theorem dX7_pass_70 : decode cX7_pass 70 = .ok (.iconst 2, 1) := by decide +kernel
theorem dX7_pass_71 : decode cX7_pass 71 = .ok (.invokevirtual 136, 3) := by decide +kernel
theorem dX7_pass_74 : decode cX7_pass 74 = .ok (.iload_n 2, 1) := by decide +kernel
theorem dX7_pass_75 : decode cX7_pass 75 = .ok (.isub, 1) := by decide +kernel
theorem dX7_pass_76 : decode cX7_pass 76 = .ok (.ireturn, 1) := by decide +kernel
set_option maxRecDepth 20000 in
theorem ggX7_lose_X7_isController : GoodIn wsX7_lose wsX7_isController := goodIn_r _ [5, 6, 7, 4, 8] (by decide +kernel) (by decide +kernel)
set_option maxRecDepth 20000 in
theorem gX7_lose_X7_isController : GoodIn wsX7_lose (va_wsS RX7 96 yX7_isController wsX7_isController) := goodIn_app (goodIn_of _ (by decide +kernel)) ggX7_lose_X7_isController
set_option maxRecDepth 20000 in
theorem ggX7_lose_X7_refused : GoodIn wsX7_lose wsX7_refused := goodIn_r _ [12, 13, 25, 26, 27, 28, 29, 30, 31, 32, 33, 34, 35, 36, 37, 38] (by decide +kernel) (by decide +kernel)
set_option maxRecDepth 20000 in
theorem gX7_lose_X7_refused : GoodIn wsX7_lose (wsV RX7 42 RX7 yX7_refused wsX7_refused) := goodIn_app (goodIn_of _ (by decide +kernel)) ggX7_lose_X7_refused
set_option maxRecDepth 20000 in
theorem ggX7_lose_X7_saves : GoodIn wsX7_lose wsX7_saves := goodIn_r _ [17, 18, 19, 20, 1, 25, 26, 27, 28, 29, 30, 31, 32, 33, 34, 35, 36, 37, 38] (by decide +kernel) (by decide +kernel)
set_option maxRecDepth 20000 in
theorem gX7_lose_X7_saves : GoodIn wsX7_lose (wsV RX7 70 RX7 yX7_saves wsX7_saves) := goodIn_app (goodIn_of _ (by decide +kernel)) ggX7_lose_X7_saves
set_option maxRecDepth 20000 in
theorem ggX7_lose_X7_control : GoodIn wsX7_lose wsX7_control := goodIn_r _ [24, 1, 25, 26, 27, 28, 29, 30, 31, 32, 33, 34, 35, 36, 37, 38] (by decide +kernel) (by decide +kernel)
set_option maxRecDepth 20000 in
theorem gX7_lose_X7_control : GoodIn wsX7_lose (wsV RX7 77 RX7 yX7_control wsX7_control) := goodIn_app (goodIn_of _ (by decide +kernel)) ggX7_lose_X7_control
theorem dX7_lose_0 : decode cX7_lose 0 = .ok (.aload_n 0, 1) := by decide +kernel
theorem dX7_lose_1 : decode cX7_lose 1 = .ok (.iload_n 1, 1) := by decide +kernel
theorem dX7_lose_2 : decode cX7_lose 2 = .ok (.invokestatic 96, 3) := by decide +kernel
theorem dX7_lose_5 : decode cX7_lose 5 = .ok (.ifCond .ne 7, 3) := by decide +kernel
theorem dX7_lose_8 : decode cX7_lose 8 = .ok (.iconst 1, 1) := by decide +kernel
theorem dX7_lose_9 : decode cX7_lose 9 = .ok (.goto 4, 3) := by decide +kernel
theorem dX7_lose_12 : decode cX7_lose 12 = .ok (.iconst 0, 1) := by decide +kernel
theorem dX7_lose_13 : decode cX7_lose 13 = .ok (.invokevirtual 42, 3) := by decide +kernel
theorem dX7_lose_16 : decode cX7_lose 16 = .ok (.ifCond .eq 5, 3) := by decide +kernel
theorem dX7_lose_19 : decode cX7_lose 19 = .ok (.iconst 0, 1) := by decide +kernel
theorem dX7_lose_20 : decode cX7_lose 20 = .ok (.ireturn, 1) := by decide +kernel
theorem dX7_lose_21 : decode cX7_lose 21 = .ok (.aload_n 0, 1) := by decide +kernel
theorem dX7_lose_22 : decode cX7_lose 22 = .ok (.invokevirtual 70, 3) := by decide +kernel
theorem dX7_lose_25 : decode cX7_lose 25 = .ok (.aload_n 0, 1) := by decide +kernel
theorem dX7_lose_26 : decode cX7_lose 26 = .ok (.iload_n 1, 1) := by decide +kernel
theorem dX7_lose_27 : decode cX7_lose 27 = .ok (.iconst 3, 1) := by decide +kernel
theorem dX7_lose_28 : decode cX7_lose 28 = .ok (.invokevirtual 77, 3) := by decide +kernel
theorem dX7_lose_31 : decode cX7_lose 31 = .ok (.istore_n 2, 1) := by decide +kernel
theorem dX7_lose_32 : decode cX7_lose 32 = .ok (.aload_n 0, 1) := by decide +kernel
theorem dX7_lose_33 : decode cX7_lose 33 = .ok (.getfield 7, 3) := by decide +kernel
theorem dX7_lose_36 : decode cX7_lose 36 = .ok (.bipush 20, 2) := by decide +kernel
theorem dX7_lose_38 : decode cX7_lose 38 = .ok (.bipush 8, 2) := by decide +kernel
theorem dX7_lose_40 : decode cX7_lose 40 = .ok (.iload_n 1, 1) := by decide +kernel
theorem dX7_lose_41 : decode cX7_lose 41 = .ok (.imul, 1) := by decide +kernel
theorem dX7_lose_42 : decode cX7_lose 42 = .ok (.iadd, 1) := by decide +kernel
theorem dX7_lose_43 : decode cX7_lose 43 = .ok (.iconst 3, 1) := by decide +kernel
theorem dX7_lose_44 : decode cX7_lose 44 = .ok (.iadd, 1) := by decide +kernel
theorem dX7_lose_45 : decode cX7_lose 45 = .ok (.iconst 0, 1) := by decide +kernel
theorem dX7_lose_46 : decode cX7_lose 46 = .ok (.iastore, 1) := by decide +kernel
theorem dX7_lose_47 : decode cX7_lose 47 = .ok (.iload_n 2, 1) := by decide +kernel
theorem dX7_lose_48 : decode cX7_lose 48 = .ok (.ireturn, 1) := by decide +kernel
set_option maxRecDepth 20000 in
theorem ggX7_block_X7_isBlock : GoodIn wsX7_block wsX7_isBlock := goodIn_r _ [5, 6, 7, 4, 8] (by decide +kernel) (by decide +kernel)
set_option maxRecDepth 20000 in
theorem gX7_block_X7_isBlock : GoodIn wsX7_block (va_wsS RX7 54 yX7_isBlock wsX7_isBlock) := goodIn_app (goodIn_of _ (by decide +kernel)) ggX7_block_X7_isBlock
set_option maxRecDepth 20000 in
theorem ggX7_block_X7_refused : GoodIn wsX7_block wsX7_refused := goodIn_r _ [12, 13, 14, 15, 16, 17, 18, 19, 20, 21, 22, 23, 24, 25, 26, 27] (by decide +kernel) (by decide +kernel)
set_option maxRecDepth 20000 in
theorem gX7_block_X7_refused : GoodIn wsX7_block (wsV RX7 42 RX7 yX7_refused wsX7_refused) := goodIn_app (goodIn_of _ (by decide +kernel)) ggX7_block_X7_refused
theorem dX7_block_0 : decode cX7_block 0 = .ok (.aload_n 0, 1) := by decide +kernel
theorem dX7_block_1 : decode cX7_block 1 = .ok (.iload_n 1, 1) := by decide +kernel
theorem dX7_block_2 : decode cX7_block 2 = .ok (.invokestatic 54, 3) := by decide +kernel
theorem dX7_block_5 : decode cX7_block 5 = .ok (.ifCond .ne 7, 3) := by decide +kernel
theorem dX7_block_8 : decode cX7_block 8 = .ok (.iconst 1, 1) := by decide +kernel
theorem dX7_block_9 : decode cX7_block 9 = .ok (.goto 4, 3) := by decide +kernel
theorem dX7_block_12 : decode cX7_block 12 = .ok (.iconst 0, 1) := by decide +kernel
theorem dX7_block_13 : decode cX7_block 13 = .ok (.invokevirtual 42, 3) := by decide +kernel
theorem dX7_block_16 : decode cX7_block 16 = .ok (.ifCond .eq 7, 3) := by decide +kernel
theorem dX7_block_19 : decode cX7_block 19 = .ok (.iconst 0, 1) := by decide +kernel
theorem dX7_block_20 : decode cX7_block 20 = .ok (.goto 11, 3) := by decide +kernel
theorem dX7_block_23 : decode cX7_block 23 = .ok (.aload_n 0, 1) := by decide +kernel
theorem dX7_block_24 : decode cX7_block 24 = .ok (.getfield 7, 3) := by decide +kernel
theorem dX7_block_27 : decode cX7_block 27 = .ok (.iconst 4, 1) := by decide +kernel
theorem dX7_block_28 : decode cX7_block 28 = .ok (.iload_n 1, 1) := by decide +kernel
theorem dX7_block_29 : decode cX7_block 29 = .ok (.iadd, 1) := by decide +kernel
theorem dX7_block_30 : decode cX7_block 30 = .ok (.iaload, 1) := by decide +kernel
theorem dX7_block_31 : decode cX7_block 31 = .ok (.ireturn, 1) := by decide +kernel
set_option maxRecDepth 20000 in
theorem ggX7_orderOf_X7_isOrder : GoodIn wsX7_orderOf wsX7_isOrder := goodIn_r _ [5, 6, 7, 8, 4, 9, 19, 20, 21, 22, 23, 24, 25, 26, 27, 28, 29, 30, 31, 32] (by decide +kernel) (by decide +kernel)
set_option maxRecDepth 20000 in
theorem gX7_orderOf_X7_isOrder : GoodIn wsX7_orderOf (wsV RX7 142 RX7 yX7_isOrder wsX7_isOrder) := goodIn_app (goodIn_of _ (by decide +kernel)) ggX7_orderOf_X7_isOrder
set_option maxRecDepth 20000 in
theorem ggX7_orderOf_X7_within : GoodIn wsX7_orderOf wsX7_within := goodIn_r _ [9] (by decide +kernel) (by decide +kernel)
set_option maxRecDepth 20000 in
theorem gX7_orderOf_X7_within : GoodIn wsX7_orderOf (va_wsS RX7 46 yX7_within wsX7_within) := goodIn_app (goodIn_of _ (by decide +kernel)) ggX7_orderOf_X7_within
set_option maxRecDepth 20000 in
theorem ggX7_orderOf_X7_refused : GoodIn wsX7_orderOf wsX7_refused := goodIn_r _ [13, 14, 19, 20, 21, 22, 23, 24, 25, 26, 27, 28, 29, 30, 31, 32] (by decide +kernel) (by decide +kernel)
set_option maxRecDepth 20000 in
theorem gX7_orderOf_X7_refused : GoodIn wsX7_orderOf (wsV RX7 42 RX7 yX7_refused wsX7_refused) := goodIn_app (goodIn_of _ (by decide +kernel)) ggX7_orderOf_X7_refused
set_option maxRecDepth 20000 in
theorem ggX7_orderOf_X7_of : GoodIn wsX7_orderOf wsX7_of := goodIn_r _ [18, 6, 19, 20, 21, 22, 23, 24, 25, 26, 27, 28, 29, 30, 31, 32] (by decide +kernel) (by decide +kernel)
set_option maxRecDepth 20000 in
theorem gX7_orderOf_X7_of : GoodIn wsX7_orderOf (wsV RX7 50 RX7 yX7_of wsX7_of) := goodIn_app (goodIn_of _ (by decide +kernel)) ggX7_orderOf_X7_of
theorem dX7_orderOf_0 : decode cX7_orderOf 0 = .ok (.aload_n 0, 1) := by decide +kernel
theorem dX7_orderOf_1 : decode cX7_orderOf 1 = .ok (.aload_n 0, 1) := by decide +kernel
theorem dX7_orderOf_2 : decode cX7_orderOf 2 = .ok (.iload_n 1, 1) := by decide +kernel
theorem dX7_orderOf_3 : decode cX7_orderOf 3 = .ok (.invokevirtual 142, 3) := by decide +kernel
theorem dX7_orderOf_6 : decode cX7_orderOf 6 = .ok (.ifCond .ne 7, 3) := by decide +kernel
theorem dX7_orderOf_9 : decode cX7_orderOf 9 = .ok (.iconst 1, 1) := by decide +kernel
theorem dX7_orderOf_10 : decode cX7_orderOf 10 = .ok (.goto 18, 3) := by decide +kernel
theorem dX7_orderOf_13 : decode cX7_orderOf 13 = .ok (.iload_n 2, 1) := by decide +kernel
theorem dX7_orderOf_14 : decode cX7_orderOf 14 = .ok (.iconst 0, 1) := by decide +kernel
theorem dX7_orderOf_15 : decode cX7_orderOf 15 = .ok (.bipush 9, 2) := by decide +kernel
theorem dX7_orderOf_17 : decode cX7_orderOf 17 = .ok (.invokestatic 46, 3) := by decide +kernel
theorem dX7_orderOf_20 : decode cX7_orderOf 20 = .ok (.ifCond .ne 7, 3) := by decide +kernel
theorem dX7_orderOf_23 : decode cX7_orderOf 23 = .ok (.iconst 2, 1) := by decide +kernel
theorem dX7_orderOf_24 : decode cX7_orderOf 24 = .ok (.goto 4, 3) := by decide +kernel
theorem dX7_orderOf_27 : decode cX7_orderOf 27 = .ok (.iconst 0, 1) := by decide +kernel
theorem dX7_orderOf_28 : decode cX7_orderOf 28 = .ok (.invokevirtual 42, 3) := by decide +kernel
theorem dX7_orderOf_31 : decode cX7_orderOf 31 = .ok (.ifCond .eq 7, 3) := by decide +kernel
theorem dX7_orderOf_34 : decode cX7_orderOf 34 = .ok (.iconst 0, 1) := by decide +kernel
theorem dX7_orderOf_35 : decode cX7_orderOf 35 = .ok (.goto 9, 3) := by decide +kernel
theorem dX7_orderOf_38 : decode cX7_orderOf 38 = .ok (.aload_n 0, 1) := by decide +kernel
theorem dX7_orderOf_39 : decode cX7_orderOf 39 = .ok (.iload_n 1, 1) := by decide +kernel
theorem dX7_orderOf_40 : decode cX7_orderOf 40 = .ok (.iload_n 2, 1) := by decide +kernel
theorem dX7_orderOf_41 : decode cX7_orderOf 41 = .ok (.invokevirtual 50, 3) := by decide +kernel
theorem dX7_orderOf_44 : decode cX7_orderOf 44 = .ok (.ireturn, 1) := by decide +kernel
set_option maxRecDepth 20000 in
theorem ggX7_orderWith_X7_isTag : GoodIn wsX7_orderWith wsX7_isTag := goodIn_r _ [4, 5, 6, 3, 7] (by decide +kernel) (by decide +kernel)
set_option maxRecDepth 20000 in
theorem gX7_orderWith_X7_isTag : GoodIn wsX7_orderWith (va_wsS RX7 57 yX7_isTag wsX7_isTag) := goodIn_app (goodIn_of _ (by decide +kernel)) ggX7_orderWith_X7_isTag
set_option maxRecDepth 20000 in
theorem ggX7_orderWith_X7_refused : GoodIn wsX7_orderWith wsX7_refused := goodIn_r _ [11, 12, 22, 23, 24, 25, 26, 27, 28, 29, 30, 31, 32, 33, 34, 35] (by decide +kernel) (by decide +kernel)
set_option maxRecDepth 20000 in
theorem gX7_orderWith_X7_refused : GoodIn wsX7_orderWith (wsV RX7 42 RX7 yX7_refused wsX7_refused) := goodIn_app (goodIn_of _ (by decide +kernel)) ggX7_orderWith_X7_refused
set_option maxRecDepth 20000 in
theorem ggX7_orderWith_X7_latest : GoodIn wsX7_orderWith wsX7_latest := goodIn_r _ [16, 17, 18, 19, 20, 3, 21, 22, 23, 24, 25, 26, 27, 28, 29, 30, 31, 32, 33, 34, 35] (by decide +kernel) (by decide +kernel)
set_option maxRecDepth 20000 in
theorem gX7_orderWith_X7_latest : GoodIn wsX7_orderWith (wsV RX7 64 RX7 yX7_latest wsX7_latest) := goodIn_app (goodIn_of _ (by decide +kernel)) ggX7_orderWith_X7_latest
theorem dX7_orderWith_0 : decode cX7_orderWith 0 = .ok (.aload_n 0, 1) := by decide +kernel
theorem dX7_orderWith_1 : decode cX7_orderWith 1 = .ok (.iload_n 1, 1) := by decide +kernel
theorem dX7_orderWith_2 : decode cX7_orderWith 2 = .ok (.iload_n 2, 1) := by decide +kernel
theorem dX7_orderWith_3 : decode cX7_orderWith 3 = .ok (.invokestatic 57, 3) := by decide +kernel
theorem dX7_orderWith_6 : decode cX7_orderWith 6 = .ok (.ifCond .ne 7, 3) := by decide +kernel
theorem dX7_orderWith_9 : decode cX7_orderWith 9 = .ok (.iconst 1, 1) := by decide +kernel
theorem dX7_orderWith_10 : decode cX7_orderWith 10 = .ok (.goto 4, 3) := by decide +kernel
theorem dX7_orderWith_13 : decode cX7_orderWith 13 = .ok (.iconst 0, 1) := by decide +kernel
theorem dX7_orderWith_14 : decode cX7_orderWith 14 = .ok (.invokevirtual 42, 3) := by decide +kernel
theorem dX7_orderWith_17 : decode cX7_orderWith 17 = .ok (.ifCond .eq 7, 3) := by decide +kernel
theorem dX7_orderWith_20 : decode cX7_orderWith 20 = .ok (.iconst 0, 1) := by decide +kernel
theorem dX7_orderWith_21 : decode cX7_orderWith 21 = .ok (.goto 9, 3) := by decide +kernel
theorem dX7_orderWith_24 : decode cX7_orderWith 24 = .ok (.aload_n 0, 1) := by decide +kernel
theorem dX7_orderWith_25 : decode cX7_orderWith 25 = .ok (.iload_n 1, 1) := by decide +kernel
theorem dX7_orderWith_26 : decode cX7_orderWith 26 = .ok (.iload_n 2, 1) := by decide +kernel
theorem dX7_orderWith_27 : decode cX7_orderWith 27 = .ok (.invokevirtual 64, 3) := by decide +kernel
theorem dX7_orderWith_30 : decode cX7_orderWith 30 = .ok (.ireturn, 1) := by decide +kernel
set_option maxRecDepth 20000 in
theorem ggX7_controller_X7_isController : GoodIn wsX7_controller wsX7_isController := goodIn_r _ [4, 5, 6, 3, 7] (by decide +kernel) (by decide +kernel)
set_option maxRecDepth 20000 in
theorem gX7_controller_X7_isController : GoodIn wsX7_controller (va_wsS RX7 96 yX7_isController wsX7_isController) := goodIn_app (goodIn_of _ (by decide +kernel)) ggX7_controller_X7_isController
set_option maxRecDepth 20000 in
theorem ggX7_controller_X7_within : GoodIn wsX7_controller wsX7_within := goodIn_r _ [7] (by decide +kernel) (by decide +kernel)
set_option maxRecDepth 20000 in
theorem gX7_controller_X7_within : GoodIn wsX7_controller (va_wsS RX7 46 yX7_within wsX7_within) := goodIn_app (goodIn_of _ (by decide +kernel)) ggX7_controller_X7_within
set_option maxRecDepth 20000 in
theorem ggX7_controller_X7_refused : GoodIn wsX7_controller wsX7_refused := goodIn_r _ [11, 12, 34, 35, 36, 37, 38, 39, 40, 41, 42, 43, 44, 45, 46, 47] (by decide +kernel) (by decide +kernel)
set_option maxRecDepth 20000 in
theorem gX7_controller_X7_refused : GoodIn wsX7_controller (wsV RX7 42 RX7 yX7_refused wsX7_refused) := goodIn_app (goodIn_of _ (by decide +kernel)) ggX7_controller_X7_refused
set_option maxRecDepth 20000 in
theorem ggX7_controller_X7_control : GoodIn wsX7_controller wsX7_control := goodIn_r _ [16, 17, 34, 35, 36, 37, 38, 39, 40, 41, 42, 43, 44, 45, 46, 47] (by decide +kernel) (by decide +kernel)
set_option maxRecDepth 20000 in
theorem gX7_controller_X7_control : GoodIn wsX7_controller (wsV RX7 77 RX7 yX7_control wsX7_control) := goodIn_app (goodIn_of _ (by decide +kernel)) ggX7_controller_X7_control
set_option maxRecDepth 20000 in
theorem ggX7_controller_X7_arrived : GoodIn wsX7_controller wsX7_arrived := goodIn_r _ [21, 13, 14, 15, 3, 16, 17, 22, 23, 24, 25, 26, 27, 28, 29, 30, 31, 32, 33, 34, 35, 36, 37, 38, 39, 40, 41, 42, 43, 44, 45, 46, 47] (by decide +kernel) (by decide +kernel)
set_option maxRecDepth 20000 in
theorem gX7_controller_X7_arrived : GoodIn wsX7_controller (wsV RX7 99 RX7 yX7_arrived wsX7_arrived) := goodIn_app (goodIn_of _ (by decide +kernel)) ggX7_controller_X7_arrived
theorem dX7_controller_0 : decode cX7_controller 0 = .ok (.aload_n 0, 1) := by decide +kernel
theorem dX7_controller_1 : decode cX7_controller 1 = .ok (.iload_n 1, 1) := by decide +kernel
theorem dX7_controller_2 : decode cX7_controller 2 = .ok (.invokestatic 96, 3) := by decide +kernel
theorem dX7_controller_5 : decode cX7_controller 5 = .ok (.ifCond .ne 7, 3) := by decide +kernel
theorem dX7_controller_8 : decode cX7_controller 8 = .ok (.iconst 1, 1) := by decide +kernel
theorem dX7_controller_9 : decode cX7_controller 9 = .ok (.goto 18, 3) := by decide +kernel
theorem dX7_controller_12 : decode cX7_controller 12 = .ok (.iload_n 2, 1) := by decide +kernel
theorem dX7_controller_13 : decode cX7_controller 13 = .ok (.iconst 0, 1) := by decide +kernel
theorem dX7_controller_14 : decode cX7_controller 14 = .ok (.bipush 8, 2) := by decide +kernel
theorem dX7_controller_16 : decode cX7_controller 16 = .ok (.invokestatic 46, 3) := by decide +kernel
theorem dX7_controller_19 : decode cX7_controller 19 = .ok (.ifCond .ne 7, 3) := by decide +kernel
theorem dX7_controller_22 : decode cX7_controller 22 = .ok (.iconst 2, 1) := by decide +kernel
theorem dX7_controller_23 : decode cX7_controller 23 = .ok (.goto 4, 3) := by decide +kernel
theorem dX7_controller_26 : decode cX7_controller 26 = .ok (.iconst 0, 1) := by decide +kernel
theorem dX7_controller_27 : decode cX7_controller 27 = .ok (.invokevirtual 42, 3) := by decide +kernel
theorem dX7_controller_30 : decode cX7_controller 30 = .ok (.ifCond .eq 5, 3) := by decide +kernel
theorem dX7_controller_33 : decode cX7_controller 33 = .ok (.iconst 0, 1) := by decide +kernel
theorem dX7_controller_34 : decode cX7_controller 34 = .ok (.ireturn, 1) := by decide +kernel
theorem dX7_controller_35 : decode cX7_controller 35 = .ok (.iload_n 2, 1) := by decide +kernel
theorem dX7_controller_36 : decode cX7_controller 36 = .ok (.iconst 4, 1) := by decide +kernel
theorem dX7_controller_37 : decode cX7_controller 37 = .ok (.if_icmp .ge 12, 3) := by decide +kernel
theorem dX7_controller_40 : decode cX7_controller 40 = .ok (.aload_n 0, 1) := by decide +kernel
theorem dX7_controller_41 : decode cX7_controller 41 = .ok (.iload_n 1, 1) := by decide +kernel
theorem dX7_controller_42 : decode cX7_controller 42 = .ok (.iload_n 2, 1) := by decide +kernel
theorem dX7_controller_43 : decode cX7_controller 43 = .ok (.invokevirtual 77, 3) := by decide +kernel
theorem dX7_controller_46 : decode cX7_controller 46 = .ok (.goto 24, 3) := by decide +kernel
theorem dX7_controller_49 : decode cX7_controller 49 = .ok (.iload_n 2, 1) := by decide +kernel
theorem dX7_controller_50 : decode cX7_controller 50 = .ok (.iconst 4, 1) := by decide +kernel
theorem dX7_controller_51 : decode cX7_controller 51 = .ok (.if_icmp .ne 11, 3) := by decide +kernel
theorem dX7_controller_54 : decode cX7_controller 54 = .ok (.aload_n 0, 1) := by decide +kernel
theorem dX7_controller_55 : decode cX7_controller 55 = .ok (.iload_n 1, 1) := by decide +kernel
theorem dX7_controller_56 : decode cX7_controller 56 = .ok (.invokevirtual 99, 3) := by decide +kernel
theorem dX7_controller_59 : decode cX7_controller 59 = .ok (.goto 11, 3) := by decide +kernel
theorem dX7_controller_62 : decode cX7_controller 62 = .ok (.aload_n 0, 1) := by decide +kernel
theorem dX7_controller_63 : decode cX7_controller 63 = .ok (.iload_n 1, 1) := by decide +kernel
theorem dX7_controller_64 : decode cX7_controller 64 = .ok (.iload_n 2, 1) := by decide +kernel
theorem dX7_controller_65 : decode cX7_controller 65 = .ok (.iconst 1, 1) := by decide +kernel
theorem dX7_controller_66 : decode cX7_controller 66 = .ok (.isub, 1) := by decide +kernel
theorem dX7_controller_67 : decode cX7_controller 67 = .ok (.invokevirtual 77, 3) := by decide +kernel
theorem dX7_controller_70 : decode cX7_controller 70 = .ok (.ireturn, 1) := by decide +kernel
set_option maxRecDepth 20000 in
theorem ggX7_mail_X7_isController : GoodIn wsX7_mail wsX7_isController := goodIn_r _ [4, 5, 6, 3, 7] (by decide +kernel) (by decide +kernel)
set_option maxRecDepth 20000 in
theorem gX7_mail_X7_isController : GoodIn wsX7_mail (va_wsS RX7 96 yX7_isController wsX7_isController) := goodIn_app (goodIn_of _ (by decide +kernel)) ggX7_mail_X7_isController
set_option maxRecDepth 20000 in
theorem ggX7_mail_X7_refused : GoodIn wsX7_mail wsX7_refused := goodIn_r _ [11, 12, 22, 23, 24, 25, 26, 27, 28, 29, 30, 31, 32, 33, 34, 35] (by decide +kernel) (by decide +kernel)
set_option maxRecDepth 20000 in
theorem gX7_mail_X7_refused : GoodIn wsX7_mail (wsV RX7 42 RX7 yX7_refused wsX7_refused) := goodIn_app (goodIn_of _ (by decide +kernel)) ggX7_mail_X7_refused
set_option maxRecDepth 20000 in
theorem ggX7_mail_X7_control : GoodIn wsX7_mail wsX7_control := goodIn_r _ [16, 17, 22, 23, 24, 25, 26, 27, 28, 29, 30, 31, 32, 33, 34, 35] (by decide +kernel) (by decide +kernel)
set_option maxRecDepth 20000 in
theorem gX7_mail_X7_control : GoodIn wsX7_mail (wsV RX7 77 RX7 yX7_control wsX7_control) := goodIn_app (goodIn_of _ (by decide +kernel)) ggX7_mail_X7_control
set_option maxRecDepth 20000 in
theorem ggX7_mail_X7_mailed : GoodIn wsX7_mail wsX7_mailed := goodIn_r _ [21, 17, 22, 23, 24, 25, 26, 27, 28, 29, 30, 31, 32, 33, 34, 35] (by decide +kernel) (by decide +kernel)
set_option maxRecDepth 20000 in
theorem gX7_mail_X7_mailed : GoodIn wsX7_mail (wsV RX7 90 RX7 yX7_mailed wsX7_mailed) := goodIn_app (goodIn_of _ (by decide +kernel)) ggX7_mail_X7_mailed
theorem dX7_mail_0 : decode cX7_mail 0 = .ok (.aload_n 0, 1) := by decide +kernel
theorem dX7_mail_1 : decode cX7_mail 1 = .ok (.iload_n 1, 1) := by decide +kernel
theorem dX7_mail_2 : decode cX7_mail 2 = .ok (.invokestatic 96, 3) := by decide +kernel
theorem dX7_mail_5 : decode cX7_mail 5 = .ok (.ifCond .ne 7, 3) := by decide +kernel
theorem dX7_mail_8 : decode cX7_mail 8 = .ok (.iconst 1, 1) := by decide +kernel
theorem dX7_mail_9 : decode cX7_mail 9 = .ok (.goto 12, 3) := by decide +kernel
theorem dX7_mail_12 : decode cX7_mail 12 = .ok (.iload_n 2, 1) := by decide +kernel
theorem dX7_mail_13 : decode cX7_mail 13 = .ok (.ifCond .ge 7, 3) := by decide +kernel
theorem dX7_mail_16 : decode cX7_mail 16 = .ok (.iconst 2, 1) := by decide +kernel
theorem dX7_mail_17 : decode cX7_mail 17 = .ok (.goto 4, 3) := by decide +kernel
theorem dX7_mail_20 : decode cX7_mail 20 = .ok (.iconst 0, 1) := by decide +kernel
theorem dX7_mail_21 : decode cX7_mail 21 = .ok (.invokevirtual 42, 3) := by decide +kernel
theorem dX7_mail_24 : decode cX7_mail 24 = .ok (.ifCond .eq 5, 3) := by decide +kernel
theorem dX7_mail_27 : decode cX7_mail 27 = .ok (.iconst 0, 1) := by decide +kernel
theorem dX7_mail_28 : decode cX7_mail 28 = .ok (.ireturn, 1) := by decide +kernel
theorem dX7_mail_29 : decode cX7_mail 29 = .ok (.iload_n 2, 1) := by decide +kernel
theorem dX7_mail_30 : decode cX7_mail 30 = .ok (.aload_n 0, 1) := by decide +kernel
theorem dX7_mail_31 : decode cX7_mail 31 = .ok (.iload_n 1, 1) := by decide +kernel
theorem dX7_mail_32 : decode cX7_mail 32 = .ok (.iconst 3, 1) := by decide +kernel
theorem dX7_mail_33 : decode cX7_mail 33 = .ok (.invokevirtual 77, 3) := by decide +kernel
theorem dX7_mail_36 : decode cX7_mail 36 = .ok (.if_icmp .ge 12, 3) := by decide +kernel
theorem dX7_mail_39 : decode cX7_mail 39 = .ok (.aload_n 0, 1) := by decide +kernel
theorem dX7_mail_40 : decode cX7_mail 40 = .ok (.iload_n 1, 1) := by decide +kernel
theorem dX7_mail_41 : decode cX7_mail 41 = .ok (.iload_n 2, 1) := by decide +kernel
theorem dX7_mail_42 : decode cX7_mail 42 = .ok (.invokevirtual 90, 3) := by decide +kernel
theorem dX7_mail_45 : decode cX7_mail 45 = .ok (.goto 4, 3) := by decide +kernel
theorem dX7_mail_48 : decode cX7_mail 48 = .ok (.iconst (-1), 1) := by decide +kernel
theorem dX7_mail_49 : decode cX7_mail 49 = .ok (.ireturn, 1) := by decide +kernel
theorem dX7_sum_0 : decode cX7_sum 0 = .ok (.iconst 0, 1) := by decide +kernel
theorem dX7_sum_1 : decode cX7_sum 1 = .ok (.istore_n 1, 1) := by decide +kernel
theorem dX7_sum_2 : decode cX7_sum 2 = .ok (.iconst 0, 1) := by decide +kernel
theorem dX7_sum_3 : decode cX7_sum 3 = .ok (.istore_n 2, 1) := by decide +kernel
theorem dX7_sum_4 : decode cX7_sum 4 = .ok (.iload_n 2, 1) := by decide +kernel
theorem dX7_sum_5 : decode cX7_sum 5 = .ok (.bipush 16, 2) := by decide +kernel
theorem dX7_sum_7 : decode cX7_sum 7 = .ok (.if_icmp .ge 20, 3) := by decide +kernel
theorem dX7_sum_10 : decode cX7_sum 10 = .ok (.iload_n 1, 1) := by decide +kernel
theorem dX7_sum_11 : decode cX7_sum 11 = .ok (.aload_n 0, 1) := by decide +kernel
theorem dX7_sum_12 : decode cX7_sum 12 = .ok (.getfield 7, 3) := by decide +kernel
theorem dX7_sum_15 : decode cX7_sum 15 = .ok (.iconst 4, 1) := by decide +kernel
theorem dX7_sum_16 : decode cX7_sum 16 = .ok (.iload_n 2, 1) := by decide +kernel
theorem dX7_sum_17 : decode cX7_sum 17 = .ok (.iadd, 1) := by decide +kernel
theorem dX7_sum_18 : decode cX7_sum 18 = .ok (.iaload, 1) := by decide +kernel
theorem dX7_sum_19 : decode cX7_sum 19 = .ok (.iadd, 1) := by decide +kernel
theorem dX7_sum_20 : decode cX7_sum 20 = .ok (.istore_n 1, 1) := by decide +kernel
theorem dX7_sum_21 : decode cX7_sum 21 = .ok (.iinc 2 1, 3) := by decide +kernel
theorem dX7_sum_24 : decode cX7_sum 24 = .ok (.goto (-20), 3) := by decide +kernel
theorem dX7_sum_27 : decode cX7_sum 27 = .ok (.iload_n 1, 1) := by decide +kernel
theorem dX7_sum_28 : decode cX7_sum 28 = .ok (.ireturn, 1) := by decide +kernel
set_option maxRecDepth 20000 in
theorem ggX7_whole_X7_within : GoodIn wsX7_whole wsX7_within := goodIn_r _ [6] (by decide +kernel) (by decide +kernel)
set_option maxRecDepth 20000 in
theorem gX7_whole_X7_within : GoodIn wsX7_whole (va_wsS RX7 46 yX7_within wsX7_within) := goodIn_app (goodIn_of _ (by decide +kernel)) ggX7_whole_X7_within
set_option maxRecDepth 20000 in
theorem ggX7_whole_X7_refused : GoodIn wsX7_whole wsX7_refused := goodIn_r _ [10, 11, 28, 29, 30, 31, 32, 33, 34, 35, 36, 37, 38, 39, 40, 41] (by decide +kernel) (by decide +kernel)
set_option maxRecDepth 20000 in
theorem gX7_whole_X7_refused : GoodIn wsX7_whole (wsV RX7 42 RX7 yX7_refused wsX7_refused) := goodIn_app (goodIn_of _ (by decide +kernel)) ggX7_whole_X7_refused
set_option maxRecDepth 20000 in
theorem ggX7_whole_X7_control : GoodIn wsX7_whole wsX7_control := goodIn_r _ [15, 1, 28, 29, 30, 31, 32, 33, 34, 35, 36, 37, 38, 39, 40, 41] (by decide +kernel) (by decide +kernel)
set_option maxRecDepth 20000 in
theorem gX7_whole_X7_control : GoodIn wsX7_whole (wsV RX7 77 RX7 yX7_control wsX7_control) := goodIn_app (goodIn_of _ (by decide +kernel)) ggX7_whole_X7_control
set_option maxRecDepth 20000 in
theorem ggX7_whole_X7_sum : GoodIn wsX7_whole wsX7_sum := goodIn_r _ [19, 1, 28, 29, 30, 31, 32, 33, 34, 35, 36, 37, 38, 39, 40, 41] (by decide +kernel) (by decide +kernel)
set_option maxRecDepth 20000 in
theorem gX7_whole_X7_sum : GoodIn wsX7_whole (wsV RX7 145 RX7 yX7_sum wsX7_sum) := goodIn_app (goodIn_of _ (by decide +kernel)) ggX7_whole_X7_sum
set_option maxRecDepth 20000 in
theorem ggX7_whole_X7_ordersIn : GoodIn wsX7_whole wsX7_ordersIn := goodIn_r _ [23, 1, 24, 25, 26, 5, 27, 28, 29, 30, 31, 32, 33, 34, 35, 36, 37, 38, 39, 40, 41] (by decide +kernel) (by decide +kernel)
set_option maxRecDepth 20000 in
theorem gX7_whole_X7_ordersIn : GoodIn wsX7_whole (wsV RX7 136 RX7 yX7_ordersIn wsX7_ordersIn) := goodIn_app (goodIn_of _ (by decide +kernel)) ggX7_whole_X7_ordersIn
theorem dX7_whole_0 : decode cX7_whole 0 = .ok (.aload_n 0, 1) := by decide +kernel
theorem dX7_whole_1 : decode cX7_whole 1 = .ok (.iload_n 1, 1) := by decide +kernel
theorem dX7_whole_2 : decode cX7_whole 2 = .ok (.iconst 0, 1) := by decide +kernel
theorem dX7_whole_3 : decode cX7_whole 3 = .ok (.bipush 11, 2) := by decide +kernel
theorem dX7_whole_5 : decode cX7_whole 5 = .ok (.invokestatic 46, 3) := by decide +kernel
theorem dX7_whole_8 : decode cX7_whole 8 = .ok (.ifCond .ne 7, 3) := by decide +kernel
theorem dX7_whole_11 : decode cX7_whole 11 = .ok (.iconst 1, 1) := by decide +kernel
theorem dX7_whole_12 : decode cX7_whole 12 = .ok (.goto 4, 3) := by decide +kernel
theorem dX7_whole_15 : decode cX7_whole 15 = .ok (.iconst 0, 1) := by decide +kernel
theorem dX7_whole_16 : decode cX7_whole 16 = .ok (.invokevirtual 42, 3) := by decide +kernel
theorem dX7_whole_19 : decode cX7_whole 19 = .ok (.ifCond .eq 5, 3) := by decide +kernel
theorem dX7_whole_22 : decode cX7_whole 22 = .ok (.iconst 0, 1) := by decide +kernel
theorem dX7_whole_23 : decode cX7_whole 23 = .ok (.ireturn, 1) := by decide +kernel
theorem dX7_whole_24 : decode cX7_whole 24 = .ok (.iload_n 1, 1) := by decide +kernel
theorem dX7_whole_25 : decode cX7_whole 25 = .ok (.tableswitch 131 0 11 #[63, 131, 131, 131, 131, 70, 77, 84, 91, 107, 121, 126], 63) := by decide +kernel
theorem dX7_whole_88 : decode cX7_whole 88 = .ok (.aload_n 0, 1) := by decide +kernel
theorem dX7_whole_89 : decode cX7_whole 89 = .ok (.getfield 7, 3) := by decide +kernel
theorem dX7_whole_92 : decode cX7_whole 92 = .ok (.iconst 1, 1) := by decide +kernel
theorem dX7_whole_93 : decode cX7_whole 93 = .ok (.iaload, 1) := by decide +kernel
theorem dX7_whole_94 : decode cX7_whole 94 = .ok (.ireturn, 1) := by decide +kernel
theorem dX7_whole_95 : decode cX7_whole 95 = .ok (.aload_n 0, 1) := by decide +kernel
theorem dX7_whole_96 : decode cX7_whole 96 = .ok (.getfield 7, 3) := by decide +kernel
theorem dX7_whole_99 : decode cX7_whole 99 = .ok (.iconst 0, 1) := by decide +kernel
theorem dX7_whole_100 : decode cX7_whole 100 = .ok (.iaload, 1) := by decide +kernel
theorem dX7_whole_101 : decode cX7_whole 101 = .ok (.ireturn, 1) := by decide +kernel
theorem dX7_whole_102 : decode cX7_whole 102 = .ok (.aload_n 0, 1) := by decide +kernel
theorem dX7_whole_103 : decode cX7_whole 103 = .ok (.getfield 7, 3) := by decide +kernel
theorem dX7_whole_106 : decode cX7_whole 106 = .ok (.iconst 2, 1) := by decide +kernel
theorem dX7_whole_107 : decode cX7_whole 107 = .ok (.iaload, 1) := by decide +kernel
theorem dX7_whole_108 : decode cX7_whole 108 = .ok (.ireturn, 1) := by decide +kernel
theorem dX7_whole_109 : decode cX7_whole 109 = .ok (.aload_n 0, 1) := by decide +kernel
theorem dX7_whole_110 : decode cX7_whole 110 = .ok (.getfield 7, 3) := by decide +kernel
theorem dX7_whole_113 : decode cX7_whole 113 = .ok (.iconst 3, 1) := by decide +kernel
theorem dX7_whole_114 : decode cX7_whole 114 = .ok (.iaload, 1) := by decide +kernel
theorem dX7_whole_115 : decode cX7_whole 115 = .ok (.ireturn, 1) := by decide +kernel
theorem dX7_whole_116 : decode cX7_whole 116 = .ok (.aload_n 0, 1) := by decide +kernel
theorem dX7_whole_117 : decode cX7_whole 117 = .ok (.iconst 0, 1) := by decide +kernel
theorem dX7_whole_118 : decode cX7_whole 118 = .ok (.bipush 6, 2) := by decide +kernel
theorem dX7_whole_120 : decode cX7_whole 120 = .ok (.invokevirtual 77, 3) := by decide +kernel
theorem dX7_whole_123 : decode cX7_whole 123 = .ok (.aload_n 0, 1) := by decide +kernel
theorem dX7_whole_124 : decode cX7_whole 124 = .ok (.iconst 1, 1) := by decide +kernel
theorem dX7_whole_125 : decode cX7_whole 125 = .ok (.bipush 6, 2) := by decide +kernel
theorem dX7_whole_127 : decode cX7_whole 127 = .ok (.invokevirtual 77, 3) := by decide +kernel
theorem dX7_whole_130 : decode cX7_whole 130 = .ok (.iadd, 1) := by decide +kernel
theorem dX7_whole_131 : decode cX7_whole 131 = .ok (.ireturn, 1) := by decide +kernel
theorem dX7_whole_132 : decode cX7_whole 132 = .ok (.aload_n 0, 1) := by decide +kernel
theorem dX7_whole_133 : decode cX7_whole 133 = .ok (.iconst 0, 1) := by decide +kernel
theorem dX7_whole_134 : decode cX7_whole 134 = .ok (.iconst 0, 1) := by decide +kernel
theorem dX7_whole_135 : decode cX7_whole 135 = .ok (.invokevirtual 77, 3) := by decide +kernel
theorem dX7_whole_138 : decode cX7_whole 138 = .ok (.aload_n 0, 1) := by decide +kernel
theorem dX7_whole_139 : decode cX7_whole 139 = .ok (.iconst 1, 1) := by decide +kernel
theorem dX7_whole_140 : decode cX7_whole 140 = .ok (.iconst 0, 1) := by decide +kernel
theorem dX7_whole_141 : decode cX7_whole 141 = .ok (.invokevirtual 77, 3) := by decide +kernel
theorem dX7_whole_144 : decode cX7_whole 144 = .ok (.iadd, 1) := by decide +kernel
theorem dX7_whole_145 : decode cX7_whole 145 = .ok (.ireturn, 1) := by decide +kernel
theorem dX7_whole_146 : decode cX7_whole 146 = .ok (.aload_n 0, 1) := by decide +kernel
theorem dX7_whole_147 : decode cX7_whole 147 = .ok (.invokevirtual 145, 3) := by decide +kernel
theorem dX7_whole_150 : decode cX7_whole 150 = .ok (.ireturn, 1) := by decide +kernel
theorem dX7_whole_151 : decode cX7_whole 151 = .ok (.aload_n 0, 1) := by decide +kernel
theorem dX7_whole_152 : decode cX7_whole 152 = .ok (.getfield 149, 3) := by decide +kernel
theorem dX7_whole_155 : decode cX7_whole 155 = .ok (.ireturn, 1) := by decide +kernel
theorem dX7_whole_156 : decode cX7_whole 156 = .ok (.aload_n 0, 1) := by decide +kernel
theorem dX7_whole_157 : decode cX7_whole 157 = .ok (.iload_n 1, 1) := by decide +kernel
theorem dX7_whole_158 : decode cX7_whole 158 = .ok (.iconst 1, 1) := by decide +kernel
theorem dX7_whole_159 : decode cX7_whole 159 = .ok (.isub, 1) := by decide +kernel
theorem dX7_whole_160 : decode cX7_whole 160 = .ok (.invokevirtual 136, 3) := by decide +kernel
theorem dX7_whole_163 : decode cX7_whole 163 = .ok (.ireturn, 1) := by decide +kernel
set_option maxRecDepth 20000 in
theorem ggX7_waitsFor_X7_isOrder : GoodIn wsX7_waitsFor wsX7_isOrder := goodIn_r _ [5, 6, 7, 8, 4, 9, 35, 36, 37, 38, 39, 40, 41, 42, 43, 44, 45, 46, 47, 48] (by decide +kernel) (by decide +kernel)
set_option maxRecDepth 20000 in
theorem gX7_waitsFor_X7_isOrder : GoodIn wsX7_waitsFor (wsV RX7 142 RX7 yX7_isOrder wsX7_isOrder) := goodIn_app (goodIn_of _ (by decide +kernel)) ggX7_waitsFor_X7_isOrder
set_option maxRecDepth 20000 in
theorem ggX7_waitsFor_X7_refused : GoodIn wsX7_waitsFor wsX7_refused := goodIn_r _ [13, 14, 35, 36, 37, 38, 39, 40, 41, 42, 43, 44, 45, 46, 47, 48] (by decide +kernel) (by decide +kernel)
set_option maxRecDepth 20000 in
theorem gX7_waitsFor_X7_refused : GoodIn wsX7_waitsFor (wsV RX7 42 RX7 yX7_refused wsX7_refused) := goodIn_app (goodIn_of _ (by decide +kernel)) ggX7_waitsFor_X7_refused
set_option maxRecDepth 20000 in
theorem ggX7_waitsFor_X7_isOpen : GoodIn wsX7_waitsFor wsX7_isOpen := goodIn_r _ [18, 19, 20, 21, 4, 22, 6, 35, 36, 37, 38, 39, 40, 41, 42, 43, 44, 45, 46, 47, 48] (by decide +kernel) (by decide +kernel)
set_option maxRecDepth 20000 in
theorem gX7_waitsFor_X7_isOpen : GoodIn wsX7_waitsFor (wsV RX7 67 RX7 yX7_isOpen wsX7_isOpen) := goodIn_app (goodIn_of _ (by decide +kernel)) ggX7_waitsFor_X7_isOpen
set_option maxRecDepth 20000 in
theorem ggX7_waitsFor_X7_firstWaited : GoodIn wsX7_waitsFor wsX7_firstWaited := goodIn_r _ [26, 27, 28, 29, 4, 30, 15, 16, 17, 18, 19, 20, 21, 22, 6, 31, 32, 33, 34, 35, 36, 37, 38, 39, 40, 41, 42, 43, 44, 45, 46, 47, 48] (by decide +kernel) (by decide +kernel)
set_option maxRecDepth 20000 in
theorem gX7_waitsFor_X7_firstWaited : GoodIn wsX7_waitsFor (wsV RX7 124 RX7 yX7_firstWaited wsX7_firstWaited) := goodIn_app (goodIn_of _ (by decide +kernel)) ggX7_waitsFor_X7_firstWaited
theorem dX7_waitsFor_0 : decode cX7_waitsFor 0 = .ok (.aload_n 0, 1) := by decide +kernel
theorem dX7_waitsFor_1 : decode cX7_waitsFor 1 = .ok (.aload_n 0, 1) := by decide +kernel
theorem dX7_waitsFor_2 : decode cX7_waitsFor 2 = .ok (.iload_n 1, 1) := by decide +kernel
theorem dX7_waitsFor_3 : decode cX7_waitsFor 3 = .ok (.invokevirtual 142, 3) := by decide +kernel
theorem dX7_waitsFor_6 : decode cX7_waitsFor 6 = .ok (.ifCond .ne 7, 3) := by decide +kernel
theorem dX7_waitsFor_9 : decode cX7_waitsFor 9 = .ok (.iconst 1, 1) := by decide +kernel
theorem dX7_waitsFor_10 : decode cX7_waitsFor 10 = .ok (.goto 4, 3) := by decide +kernel
theorem dX7_waitsFor_13 : decode cX7_waitsFor 13 = .ok (.iconst 0, 1) := by decide +kernel
theorem dX7_waitsFor_14 : decode cX7_waitsFor 14 = .ok (.invokevirtual 42, 3) := by decide +kernel
theorem dX7_waitsFor_17 : decode cX7_waitsFor 17 = .ok (.ifCond .eq 5, 3) := by decide +kernel
theorem dX7_waitsFor_20 : decode cX7_waitsFor 20 = .ok (.iconst 0, 1) := by decide +kernel
theorem dX7_waitsFor_21 : decode cX7_waitsFor 21 = .ok (.ireturn, 1) := by decide +kernel
theorem dX7_waitsFor_22 : decode cX7_waitsFor 22 = .ok (.aload_n 0, 1) := by decide +kernel
theorem dX7_waitsFor_23 : decode cX7_waitsFor 23 = .ok (.iload_n 1, 1) := by decide +kernel
theorem dX7_waitsFor_24 : decode cX7_waitsFor 24 = .ok (.invokevirtual 67, 3) := by decide +kernel
theorem dX7_waitsFor_27 : decode cX7_waitsFor 27 = .ok (.ifCond .eq 11, 3) := by decide +kernel
theorem dX7_waitsFor_30 : decode cX7_waitsFor 30 = .ok (.aload_n 0, 1) := by decide +kernel
theorem dX7_waitsFor_31 : decode cX7_waitsFor 31 = .ok (.iload_n 1, 1) := by decide +kernel
theorem dX7_waitsFor_32 : decode cX7_waitsFor 32 = .ok (.invokevirtual 124, 3) := by decide +kernel
theorem dX7_waitsFor_35 : decode cX7_waitsFor 35 = .ok (.goto 4, 3) := by decide +kernel
theorem dX7_waitsFor_38 : decode cX7_waitsFor 38 = .ok (.iconst (-1), 1) := by decide +kernel
theorem dX7_waitsFor_39 : decode cX7_waitsFor 39 = .ok (.ireturn, 1) := by decide +kernel
set_option maxRecDepth 20000 in
theorem ggX7_depth_X7_isOrder : GoodIn wsX7_depth wsX7_isOrder := goodIn_r _ [6, 7, 8, 9, 5, 10, 32, 33, 34, 35, 36, 37, 38, 39, 40, 41, 42, 43, 44, 45] (by decide +kernel) (by decide +kernel)
set_option maxRecDepth 20000 in
theorem gX7_depth_X7_isOrder : GoodIn wsX7_depth (wsV RX7 142 RX7 yX7_isOrder wsX7_isOrder) := goodIn_app (goodIn_of _ (by decide +kernel)) ggX7_depth_X7_isOrder
set_option maxRecDepth 20000 in
theorem ggX7_depth_X7_refused : GoodIn wsX7_depth wsX7_refused := goodIn_r _ [14, 15, 32, 33, 34, 35, 36, 37, 38, 39, 40, 41, 42, 43, 44, 45] (by decide +kernel) (by decide +kernel)
set_option maxRecDepth 20000 in
theorem gX7_depth_X7_refused : GoodIn wsX7_depth (wsV RX7 42 RX7 yX7_refused wsX7_refused) := goodIn_app (goodIn_of _ (by decide +kernel)) ggX7_depth_X7_refused
set_option maxRecDepth 20000 in
theorem ggX7_depth_X7_waits : GoodIn wsX7_depth wsX7_waits := goodIn_r _ [19, 20, 21, 22, 5, 23, 24, 25, 26, 27, 7, 28, 29, 30, 31, 32, 33, 34, 35, 36, 37, 38, 39, 40, 41, 42, 43, 44, 45] (by decide +kernel) (by decide +kernel)
set_option maxRecDepth 20000 in
theorem gX7_depth_X7_waits : GoodIn wsX7_depth (wsV RX7 87 RX7 yX7_waits wsX7_waits) := goodIn_app (goodIn_of _ (by decide +kernel)) ggX7_depth_X7_waits
set_option maxRecDepth 20000 in
theorem ggX7_depth_X7_isOpen : GoodIn wsX7_depth wsX7_isOpen := goodIn_r _ [23, 24, 25, 26, 5, 27, 7, 32, 33, 34, 35, 36, 37, 38, 39, 40, 41, 42, 43, 44, 45] (by decide +kernel) (by decide +kernel)
set_option maxRecDepth 20000 in
theorem gX7_depth_X7_isOpen : GoodIn wsX7_depth (wsV RX7 67 RX7 yX7_isOpen wsX7_isOpen) := goodIn_app (goodIn_of _ (by decide +kernel)) ggX7_depth_X7_isOpen
theorem dX7_depth_0 : decode cX7_depth 0 = .ok (.aload_n 0, 1) := by decide +kernel
theorem dX7_depth_1 : decode cX7_depth 1 = .ok (.aload_n 0, 1) := by decide +kernel
theorem dX7_depth_2 : decode cX7_depth 2 = .ok (.iload_n 1, 1) := by decide +kernel
theorem dX7_depth_3 : decode cX7_depth 3 = .ok (.invokevirtual 142, 3) := by decide +kernel
theorem dX7_depth_6 : decode cX7_depth 6 = .ok (.ifCond .ne 7, 3) := by decide +kernel
theorem dX7_depth_9 : decode cX7_depth 9 = .ok (.iconst 1, 1) := by decide +kernel
theorem dX7_depth_10 : decode cX7_depth 10 = .ok (.goto 4, 3) := by decide +kernel
theorem dX7_depth_13 : decode cX7_depth 13 = .ok (.iconst 0, 1) := by decide +kernel
theorem dX7_depth_14 : decode cX7_depth 14 = .ok (.invokevirtual 42, 3) := by decide +kernel
theorem dX7_depth_17 : decode cX7_depth 17 = .ok (.ifCond .eq 5, 3) := by decide +kernel
theorem dX7_depth_20 : decode cX7_depth 20 = .ok (.iconst 0, 1) := by decide +kernel
theorem dX7_depth_21 : decode cX7_depth 21 = .ok (.ireturn, 1) := by decide +kernel
theorem dX7_depth_22 : decode cX7_depth 22 = .ok (.iconst 0, 1) := by decide +kernel
theorem dX7_depth_23 : decode cX7_depth 23 = .ok (.istore_n 2, 1) := by decide +kernel
theorem dX7_depth_24 : decode cX7_depth 24 = .ok (.iload_n 2, 1) := by decide +kernel
theorem dX7_depth_25 : decode cX7_depth 25 = .ok (.iload_n 1, 1) := by decide +kernel
theorem dX7_depth_26 : decode cX7_depth 26 = .ok (.if_icmp .gt 76, 3) := by decide +kernel
theorem dX7_depth_29 : decode cX7_depth 29 = .ok (.aload_n 0, 1) := by decide +kernel
theorem dX7_depth_30 : decode cX7_depth 30 = .ok (.getfield 19, 3) := by decide +kernel
theorem dX7_depth_33 : decode cX7_depth 33 = .ok (.iload_n 2, 1) := by decide +kernel
theorem dX7_depth_34 : decode cX7_depth 34 = .ok (.iconst 0, 1) := by decide +kernel
theorem dX7_depth_35 : decode cX7_depth 35 = .ok (.iastore, 1) := by decide +kernel
theorem dX7_depth_36 : decode cX7_depth 36 = .ok (.iconst 0, 1) := by decide +kernel
theorem dX7_depth_37 : decode cX7_depth 37 = .ok (.istore_n 3, 1) := by decide +kernel
theorem dX7_depth_38 : decode cX7_depth 38 = .ok (.iload_n 3, 1) := by decide +kernel
theorem dX7_depth_39 : decode cX7_depth 39 = .ok (.iload_n 2, 1) := by decide +kernel
theorem dX7_depth_40 : decode cX7_depth 40 = .ok (.if_icmp .ge 56, 3) := by decide +kernel
theorem dX7_depth_43 : decode cX7_depth 43 = .ok (.aload_n 0, 1) := by decide +kernel
theorem dX7_depth_44 : decode cX7_depth 44 = .ok (.getfield 19, 3) := by decide +kernel
theorem dX7_depth_47 : decode cX7_depth 47 = .ok (.iload_n 2, 1) := by decide +kernel
theorem dX7_depth_48 : decode cX7_depth 48 = .ok (.aload_n 0, 1) := by decide +kernel
theorem dX7_depth_49 : decode cX7_depth 49 = .ok (.iload_n 2, 1) := by decide +kernel
theorem dX7_depth_50 : decode cX7_depth 50 = .ok (.iload_n 3, 1) := by decide +kernel
theorem dX7_depth_51 : decode cX7_depth 51 = .ok (.invokevirtual 87, 3) := by decide +kernel
theorem dX7_depth_54 : decode cX7_depth 54 = .ok (.ifCond .eq 29, 3) := by decide +kernel
theorem dX7_depth_57 : decode cX7_depth 57 = .ok (.aload_n 0, 1) := by decide +kernel
theorem dX7_depth_58 : decode cX7_depth 58 = .ok (.getfield 19, 3) := by decide +kernel
theorem dX7_depth_61 : decode cX7_depth 61 = .ok (.iload_n 3, 1) := by decide +kernel
theorem dX7_depth_62 : decode cX7_depth 62 = .ok (.iaload, 1) := by decide +kernel
theorem dX7_depth_63 : decode cX7_depth 63 = .ok (.aload_n 0, 1) := by decide +kernel
theorem dX7_depth_64 : decode cX7_depth 64 = .ok (.getfield 19, 3) := by decide +kernel
theorem dX7_depth_67 : decode cX7_depth 67 = .ok (.iload_n 2, 1) := by decide +kernel
theorem dX7_depth_68 : decode cX7_depth 68 = .ok (.iaload, 1) := by decide +kernel
theorem dX7_depth_69 : decode cX7_depth 69 = .ok (.if_icmp .lt 14, 3) := by decide +kernel
theorem dX7_depth_72 : decode cX7_depth 72 = .ok (.aload_n 0, 1) := by decide +kernel
theorem dX7_depth_73 : decode cX7_depth 73 = .ok (.getfield 19, 3) := by decide +kernel
theorem dX7_depth_76 : decode cX7_depth 76 = .ok (.iload_n 3, 1) := by decide +kernel
theorem dX7_depth_77 : decode cX7_depth 77 = .ok (.iaload, 1) := by decide +kernel
theorem dX7_depth_78 : decode cX7_depth 78 = .ok (.iconst 1, 1) := by decide +kernel
theorem dX7_depth_79 : decode cX7_depth 79 = .ok (.iadd, 1) := by decide +kernel
theorem dX7_depth_80 : decode cX7_depth 80 = .ok (.goto 9, 3) := by decide +kernel
theorem dX7_depth_83 : decode cX7_depth 83 = .ok (.aload_n 0, 1) := by decide +kernel
theorem dX7_depth_84 : decode cX7_depth 84 = .ok (.getfield 19, 3) := by decide +kernel
theorem dX7_depth_87 : decode cX7_depth 87 = .ok (.iload_n 2, 1) := by decide +kernel
theorem dX7_depth_88 : decode cX7_depth 88 = .ok (.iaload, 1) := by decide +kernel
theorem dX7_depth_89 : decode cX7_depth 89 = .ok (.iastore, 1) := by decide +kernel
theorem dX7_depth_90 : decode cX7_depth 90 = .ok (.iinc 3 1, 3) := by decide +kernel
theorem dX7_depth_93 : decode cX7_depth 93 = .ok (.goto (-55), 3) := by decide +kernel
theorem dX7_depth_96 : decode cX7_depth 96 = .ok (.iinc 2 1, 3) := by decide +kernel
theorem dX7_depth_99 : decode cX7_depth 99 = .ok (.goto (-75), 3) := by decide +kernel
theorem dX7_depth_102 : decode cX7_depth 102 = .ok (.aload_n 0, 1) := by decide +kernel
theorem dX7_depth_103 : decode cX7_depth 103 = .ok (.iload_n 1, 1) := by decide +kernel
theorem dX7_depth_104 : decode cX7_depth 104 = .ok (.invokevirtual 67, 3) := by decide +kernel
theorem dX7_depth_107 : decode cX7_depth 107 = .ok (.ifCond .eq 12, 3) := by decide +kernel
theorem dX7_depth_110 : decode cX7_depth 110 = .ok (.aload_n 0, 1) := by decide +kernel
theorem dX7_depth_111 : decode cX7_depth 111 = .ok (.getfield 19, 3) := by decide +kernel
theorem dX7_depth_114 : decode cX7_depth 114 = .ok (.iload_n 1, 1) := by decide +kernel
theorem dX7_depth_115 : decode cX7_depth 115 = .ok (.iaload, 1) := by decide +kernel
theorem dX7_depth_116 : decode cX7_depth 116 = .ok (.goto 4, 3) := by decide +kernel
theorem dX7_depth_119 : decode cX7_depth 119 = .ok (.iconst (-1), 1) := by decide +kernel
theorem dX7_depth_120 : decode cX7_depth 120 = .ok (.ireturn, 1) := by decide +kernel
set_option maxRecDepth 20000 in
theorem ggX7_next_X7_isTorn : GoodIn wsX7_next wsX7_isTorn := goodIn_r _ [6, 1, 7, 8, 9, 5, 10, 39, 40, 41, 42, 43, 44, 45, 46, 47, 48, 49, 50, 51, 52] (by decide +kernel) (by decide +kernel)
set_option maxRecDepth 20000 in
theorem gX7_next_X7_isTorn : GoodIn wsX7_next (wsV RX7 110 RX7 yX7_isTorn wsX7_isTorn) := goodIn_app (goodIn_of _ (by decide +kernel)) ggX7_next_X7_isTorn
set_option maxRecDepth 20000 in
theorem ggX7_next_X7_control : GoodIn wsX7_next wsX7_control := goodIn_r _ [14, 1, 39, 40, 41, 42, 43, 44, 45, 46, 47, 48, 49, 50, 51, 52] (by decide +kernel) (by decide +kernel)
set_option maxRecDepth 20000 in
theorem gX7_next_X7_control : GoodIn wsX7_next (wsV RX7 77 RX7 yX7_control wsX7_control) := goodIn_app (goodIn_of _ (by decide +kernel)) ggX7_next_X7_control
set_option maxRecDepth 20000 in
theorem ggX7_next_X7_mailed : GoodIn wsX7_next wsX7_mailed := goodIn_r _ [18, 1, 39, 40, 41, 42, 43, 44, 45, 46, 47, 48, 49, 50, 51, 52] (by decide +kernel) (by decide +kernel)
set_option maxRecDepth 20000 in
theorem gX7_next_X7_mailed : GoodIn wsX7_next (wsV RX7 90 RX7 yX7_mailed wsX7_mailed) := goodIn_app (goodIn_of _ (by decide +kernel)) ggX7_next_X7_mailed
set_option maxRecDepth 20000 in
theorem ggX7_next_X7_hasArrived : GoodIn wsX7_next wsX7_hasArrived := goodIn_r _ [22, 1, 7, 8, 9, 5, 10, 39, 40, 41, 42, 43, 44, 45, 46, 47, 48, 49, 50, 51, 52] (by decide +kernel) (by decide +kernel)
set_option maxRecDepth 20000 in
theorem gX7_next_X7_hasArrived : GoodIn wsX7_next (wsV RX7 93 RX7 yX7_hasArrived wsX7_hasArrived) := goodIn_app (goodIn_of _ (by decide +kernel)) ggX7_next_X7_hasArrived
set_option maxRecDepth 20000 in
theorem ggX7_next_X7_isOpen : GoodIn wsX7_next wsX7_isOpen := goodIn_r _ [26, 7, 8, 9, 5, 10, 1, 39, 40, 41, 42, 43, 44, 45, 46, 47, 48, 49, 50, 51, 52] (by decide +kernel) (by decide +kernel)
set_option maxRecDepth 20000 in
theorem gX7_next_X7_isOpen : GoodIn wsX7_next (wsV RX7 67 RX7 yX7_isOpen wsX7_isOpen) := goodIn_app (goodIn_of _ (by decide +kernel)) ggX7_next_X7_isOpen
set_option maxRecDepth 20000 in
theorem ggX7_next_X7_firstWaited : GoodIn wsX7_next wsX7_firstWaited := goodIn_r _ [30, 31, 32, 33, 5, 34, 23, 24, 25, 26, 7, 8, 9, 10, 1, 35, 36, 37, 38, 39, 40, 41, 42, 43, 44, 45, 46, 47, 48, 49, 50, 51, 52] (by decide +kernel) (by decide +kernel)
set_option maxRecDepth 20000 in
theorem gX7_next_X7_firstWaited : GoodIn wsX7_next (wsV RX7 124 RX7 yX7_firstWaited wsX7_firstWaited) := goodIn_app (goodIn_of _ (by decide +kernel)) ggX7_next_X7_firstWaited
theorem dX7_next_0 : decode cX7_next 0 = .ok (.aload_n 0, 1) := by decide +kernel
theorem dX7_next_1 : decode cX7_next 1 = .ok (.invokevirtual 110, 3) := by decide +kernel
theorem dX7_next_4 : decode cX7_next 4 = .ok (.ifCond .eq 10, 3) := by decide +kernel
theorem dX7_next_7 : decode cX7_next 7 = .ok (.aload_n 0, 1) := by decide +kernel
theorem dX7_next_8 : decode cX7_next 8 = .ok (.getfield 7, 3) := by decide +kernel
theorem dX7_next_11 : decode cX7_next 11 = .ok (.iconst 2, 1) := by decide +kernel
theorem dX7_next_12 : decode cX7_next 12 = .ok (.iaload, 1) := by decide +kernel
theorem dX7_next_13 : decode cX7_next 13 = .ok (.ireturn, 1) := by decide +kernel
theorem dX7_next_14 : decode cX7_next 14 = .ok (.iconst 0, 1) := by decide +kernel
theorem dX7_next_15 : decode cX7_next 15 = .ok (.istore_n 2, 1) := by decide +kernel
theorem dX7_next_16 : decode cX7_next 16 = .ok (.iload_n 2, 1) := by decide +kernel
theorem dX7_next_17 : decode cX7_next 17 = .ok (.aload_n 0, 1) := by decide +kernel
theorem dX7_next_18 : decode cX7_next 18 = .ok (.iload_n 1, 1) := by decide +kernel
theorem dX7_next_19 : decode cX7_next 19 = .ok (.iconst 3, 1) := by decide +kernel
theorem dX7_next_20 : decode cX7_next 20 = .ok (.invokevirtual 77, 3) := by decide +kernel
theorem dX7_next_23 : decode cX7_next 23 = .ok (.if_icmp .ge 44, 3) := by decide +kernel
theorem dX7_next_26 : decode cX7_next 26 = .ok (.aload_n 0, 1) := by decide +kernel
theorem dX7_next_27 : decode cX7_next 27 = .ok (.iload_n 1, 1) := by decide +kernel
theorem dX7_next_28 : decode cX7_next 28 = .ok (.iload_n 2, 1) := by decide +kernel
theorem dX7_next_29 : decode cX7_next 29 = .ok (.invokevirtual 90, 3) := by decide +kernel
theorem dX7_next_32 : decode cX7_next 32 = .ok (.istore_n 3, 1) := by decide +kernel
theorem dX7_next_33 : decode cX7_next 33 = .ok (.aload_n 0, 1) := by decide +kernel
theorem dX7_next_34 : decode cX7_next 34 = .ok (.iload_n 3, 1) := by decide +kernel
theorem dX7_next_35 : decode cX7_next 35 = .ok (.iload_n 1, 1) := by decide +kernel
theorem dX7_next_36 : decode cX7_next 36 = .ok (.invokevirtual 93, 3) := by decide +kernel
theorem dX7_next_39 : decode cX7_next 39 = .ok (.ifCond .eq 22, 3) := by decide +kernel
theorem dX7_next_42 : decode cX7_next 42 = .ok (.aload_n 0, 1) := by decide +kernel
theorem dX7_next_43 : decode cX7_next 43 = .ok (.iload_n 3, 1) := by decide +kernel
theorem dX7_next_44 : decode cX7_next 44 = .ok (.invokevirtual 67, 3) := by decide +kernel
theorem dX7_next_47 : decode cX7_next 47 = .ok (.ifCond .eq 14, 3) := by decide +kernel
theorem dX7_next_50 : decode cX7_next 50 = .ok (.aload_n 0, 1) := by decide +kernel
theorem dX7_next_51 : decode cX7_next 51 = .ok (.iload_n 3, 1) := by decide +kernel
theorem dX7_next_52 : decode cX7_next 52 = .ok (.invokevirtual 124, 3) := by decide +kernel
theorem dX7_next_55 : decode cX7_next 55 = .ok (.iconst (-1), 1) := by decide +kernel
theorem dX7_next_56 : decode cX7_next 56 = .ok (.if_icmp .ne 5, 3) := by decide +kernel
theorem dX7_next_59 : decode cX7_next 59 = .ok (.iload_n 3, 1) := by decide +kernel
theorem dX7_next_60 : decode cX7_next 60 = .ok (.ireturn, 1) := by decide +kernel
theorem dX7_next_61 : decode cX7_next 61 = .ok (.iinc 2 1, 3) := by decide +kernel
theorem dX7_next_64 : decode cX7_next 64 = .ok (.goto (-48), 3) := by decide +kernel
theorem dX7_next_67 : decode cX7_next 67 = .ok (.iconst (-1), 1) := by decide +kernel
theorem dX7_next_68 : decode cX7_next 68 = .ok (.ireturn, 1) := by decide +kernel
set_option maxRecDepth 20000 in
theorem ggX7_nextFor_X7_isController : GoodIn wsX7_nextFor wsX7_isController := goodIn_r _ [4, 5, 6, 3, 7] (by decide +kernel) (by decide +kernel)
set_option maxRecDepth 20000 in
theorem gX7_nextFor_X7_isController : GoodIn wsX7_nextFor (va_wsS RX7 96 yX7_isController wsX7_isController) := goodIn_app (goodIn_of _ (by decide +kernel)) ggX7_nextFor_X7_isController
set_option maxRecDepth 20000 in
theorem ggX7_nextFor_X7_refused : GoodIn wsX7_nextFor wsX7_refused := goodIn_r _ [11, 12, 54, 55, 56, 57, 58, 59, 60, 61, 62, 63, 64, 65, 66, 67] (by decide +kernel) (by decide +kernel)
set_option maxRecDepth 20000 in
theorem gX7_nextFor_X7_refused : GoodIn wsX7_nextFor (wsV RX7 42 RX7 yX7_refused wsX7_refused) := goodIn_app (goodIn_of _ (by decide +kernel)) ggX7_nextFor_X7_refused
set_option maxRecDepth 20000 in
theorem ggX7_nextFor_X7_next : GoodIn wsX7_nextFor wsX7_next := goodIn_r _ [16, 17, 18, 19, 20, 3, 21, 22, 23, 24, 25, 26, 27, 28, 29, 30, 31, 32, 33, 34, 35, 36, 37, 38, 39, 40, 41, 42, 43, 44, 45, 46, 47, 48, 49, 50, 51, 52, 53, 54, 55, 56, 57, 58, 59, 60, 61, 62, 63, 64, 65, 66, 67] (by decide +kernel) (by decide +kernel)
set_option maxRecDepth 20000 in
theorem gX7_nextFor_X7_next : GoodIn wsX7_nextFor (wsV RX7 152 RX7 yX7_next wsX7_next) := goodIn_app (goodIn_of _ (by decide +kernel)) ggX7_nextFor_X7_next
theorem dX7_nextFor_0 : decode cX7_nextFor 0 = .ok (.aload_n 0, 1) := by decide +kernel
theorem dX7_nextFor_1 : decode cX7_nextFor 1 = .ok (.iload_n 1, 1) := by decide +kernel
theorem dX7_nextFor_2 : decode cX7_nextFor 2 = .ok (.invokestatic 96, 3) := by decide +kernel
theorem dX7_nextFor_5 : decode cX7_nextFor 5 = .ok (.ifCond .ne 7, 3) := by decide +kernel
theorem dX7_nextFor_8 : decode cX7_nextFor 8 = .ok (.iconst 1, 1) := by decide +kernel
theorem dX7_nextFor_9 : decode cX7_nextFor 9 = .ok (.goto 4, 3) := by decide +kernel
theorem dX7_nextFor_12 : decode cX7_nextFor 12 = .ok (.iconst 0, 1) := by decide +kernel
theorem dX7_nextFor_13 : decode cX7_nextFor 13 = .ok (.invokevirtual 42, 3) := by decide +kernel
theorem dX7_nextFor_16 : decode cX7_nextFor 16 = .ok (.ifCond .eq 7, 3) := by decide +kernel
theorem dX7_nextFor_19 : decode cX7_nextFor 19 = .ok (.iconst 0, 1) := by decide +kernel
theorem dX7_nextFor_20 : decode cX7_nextFor 20 = .ok (.goto 8, 3) := by decide +kernel
theorem dX7_nextFor_23 : decode cX7_nextFor 23 = .ok (.aload_n 0, 1) := by decide +kernel
theorem dX7_nextFor_24 : decode cX7_nextFor 24 = .ok (.iload_n 1, 1) := by decide +kernel
theorem dX7_nextFor_25 : decode cX7_nextFor 25 = .ok (.invokevirtual 152, 3) := by decide +kernel
theorem dX7_nextFor_28 : decode cX7_nextFor 28 = .ok (.ireturn, 1) := by decide +kernel
set_option maxRecDepth 20000 in
theorem ggX7_isMailed_X7_control : GoodIn wsX7_isMailed wsX7_control := goodIn_r _ [5, 6, 11, 12, 13, 14, 15, 16, 17, 18, 19, 20, 21, 22, 23, 24] (by decide +kernel) (by decide +kernel)
set_option maxRecDepth 20000 in
theorem gX7_isMailed_X7_control : GoodIn wsX7_isMailed (wsV RX7 77 RX7 yX7_control wsX7_control) := goodIn_app (goodIn_of _ (by decide +kernel)) ggX7_isMailed_X7_control
set_option maxRecDepth 20000 in
theorem ggX7_isMailed_X7_mailed : GoodIn wsX7_isMailed wsX7_mailed := goodIn_r _ [10, 6, 11, 12, 13, 14, 15, 16, 17, 18, 19, 20, 21, 22, 23, 24] (by decide +kernel) (by decide +kernel)
set_option maxRecDepth 20000 in
theorem gX7_isMailed_X7_mailed : GoodIn wsX7_isMailed (wsV RX7 90 RX7 yX7_mailed wsX7_mailed) := goodIn_app (goodIn_of _ (by decide +kernel)) ggX7_isMailed_X7_mailed
theorem dX7_isMailed_0 : decode cX7_isMailed 0 = .ok (.iconst 0, 1) := by decide +kernel
theorem dX7_isMailed_1 : decode cX7_isMailed 1 = .ok (.istore_n 3, 1) := by decide +kernel
theorem dX7_isMailed_2 : decode cX7_isMailed 2 = .ok (.iload_n 3, 1) := by decide +kernel
theorem dX7_isMailed_3 : decode cX7_isMailed 3 = .ok (.aload_n 0, 1) := by decide +kernel
theorem dX7_isMailed_4 : decode cX7_isMailed 4 = .ok (.iload_n 1, 1) := by decide +kernel
theorem dX7_isMailed_5 : decode cX7_isMailed 5 = .ok (.iconst 3, 1) := by decide +kernel
theorem dX7_isMailed_6 : decode cX7_isMailed 6 = .ok (.invokevirtual 77, 3) := by decide +kernel
theorem dX7_isMailed_9 : decode cX7_isMailed 9 = .ok (.if_icmp .ge 21, 3) := by decide +kernel
theorem dX7_isMailed_12 : decode cX7_isMailed 12 = .ok (.aload_n 0, 1) := by decide +kernel
theorem dX7_isMailed_13 : decode cX7_isMailed 13 = .ok (.iload_n 1, 1) := by decide +kernel
theorem dX7_isMailed_14 : decode cX7_isMailed 14 = .ok (.iload_n 3, 1) := by decide +kernel
theorem dX7_isMailed_15 : decode cX7_isMailed 15 = .ok (.invokevirtual 90, 3) := by decide +kernel
theorem dX7_isMailed_18 : decode cX7_isMailed 18 = .ok (.iload_n 2, 1) := by decide +kernel
theorem dX7_isMailed_19 : decode cX7_isMailed 19 = .ok (.if_icmp .ne 5, 3) := by decide +kernel
theorem dX7_isMailed_22 : decode cX7_isMailed 22 = .ok (.iconst 1, 1) := by decide +kernel
theorem dX7_isMailed_23 : decode cX7_isMailed 23 = .ok (.ireturn, 1) := by decide +kernel
theorem dX7_isMailed_24 : decode cX7_isMailed 24 = .ok (.iinc 3 1, 3) := by decide +kernel
theorem dX7_isMailed_27 : decode cX7_isMailed 27 = .ok (.goto (-25), 3) := by decide +kernel
theorem dX7_isMailed_30 : decode cX7_isMailed 30 = .ok (.iconst 0, 1) := by decide +kernel
theorem dX7_isMailed_31 : decode cX7_isMailed 31 = .ok (.ireturn, 1) := by decide +kernel
set_option maxRecDepth 20000 in
theorem ggX7_reason_X7_isController : GoodIn wsX7_reason wsX7_isController := goodIn_r _ [4, 5, 6, 3, 7] (by decide +kernel) (by decide +kernel)
set_option maxRecDepth 20000 in
theorem gX7_reason_X7_isController : GoodIn wsX7_reason (va_wsS RX7 96 yX7_isController wsX7_isController) := goodIn_app (goodIn_of _ (by decide +kernel)) ggX7_reason_X7_isController
set_option maxRecDepth 20000 in
theorem ggX7_reason_X7_isOrder : GoodIn wsX7_reason wsX7_isOrder := goodIn_r _ [11, 12, 5, 6, 3, 7, 62, 63, 64, 65, 66, 67, 68, 69, 70, 71, 72, 73, 74, 75] (by decide +kernel) (by decide +kernel)
set_option maxRecDepth 20000 in
theorem gX7_reason_X7_isOrder : GoodIn wsX7_reason (wsV RX7 142 RX7 yX7_isOrder wsX7_isOrder) := goodIn_app (goodIn_of _ (by decide +kernel)) ggX7_reason_X7_isOrder
set_option maxRecDepth 20000 in
theorem ggX7_reason_X7_refused : GoodIn wsX7_reason wsX7_refused := goodIn_r _ [16, 17, 62, 63, 64, 65, 66, 67, 68, 69, 70, 71, 72, 73, 74, 75] (by decide +kernel) (by decide +kernel)
set_option maxRecDepth 20000 in
theorem gX7_reason_X7_refused : GoodIn wsX7_reason (wsV RX7 42 RX7 yX7_refused wsX7_refused) := goodIn_app (goodIn_of _ (by decide +kernel)) ggX7_reason_X7_refused
set_option maxRecDepth 20000 in
theorem ggX7_reason_X7_next : GoodIn wsX7_reason wsX7_next := goodIn_r _ [21, 12, 22, 23, 24, 3, 25, 26, 27, 28, 29, 30, 31, 32, 33, 34, 35, 36, 37, 38, 39, 40, 41, 42, 43, 44, 45, 46, 47, 48, 49, 50, 51, 52, 53, 54, 55, 56, 57, 62, 63, 64, 65, 66, 67, 68, 69, 70, 71, 72, 73, 74, 75] (by decide +kernel) (by decide +kernel)
set_option maxRecDepth 20000 in
theorem gX7_reason_X7_next : GoodIn wsX7_reason (wsV RX7 152 RX7 yX7_next wsX7_next) := goodIn_app (goodIn_of _ (by decide +kernel)) ggX7_reason_X7_next
set_option maxRecDepth 20000 in
theorem ggX7_reason_X7_isOpen : GoodIn wsX7_reason wsX7_isOpen := goodIn_r _ [45, 26, 27, 28, 3, 29, 12, 62, 63, 64, 65, 66, 67, 68, 69, 70, 71, 72, 73, 74, 75] (by decide +kernel) (by decide +kernel)
set_option maxRecDepth 20000 in
theorem gX7_reason_X7_isOpen : GoodIn wsX7_reason (wsV RX7 67 RX7 yX7_isOpen wsX7_isOpen) := goodIn_app (goodIn_of _ (by decide +kernel)) ggX7_reason_X7_isOpen
set_option maxRecDepth 20000 in
theorem ggX7_reason_X7_isTorn : GoodIn wsX7_reason wsX7_isTorn := goodIn_r _ [25, 12, 26, 27, 28, 3, 29, 62, 63, 64, 65, 66, 67, 68, 69, 70, 71, 72, 73, 74, 75] (by decide +kernel) (by decide +kernel)
set_option maxRecDepth 20000 in
theorem gX7_reason_X7_isTorn : GoodIn wsX7_reason (wsV RX7 110 RX7 yX7_isTorn wsX7_isTorn) := goodIn_app (goodIn_of _ (by decide +kernel)) ggX7_reason_X7_isTorn
set_option maxRecDepth 20000 in
theorem ggX7_reason_X7_isMailed : GoodIn wsX7_reason wsX7_isMailed := goodIn_r _ [61, 30, 31, 32, 3, 33, 12, 34, 35, 36, 37, 62, 63, 64, 65, 66, 67, 68, 69, 70, 71, 72, 73, 74, 75] (by decide +kernel) (by decide +kernel)
set_option maxRecDepth 20000 in
theorem gX7_reason_X7_isMailed : GoodIn wsX7_reason (wsV RX7 155 RX7 yX7_isMailed wsX7_isMailed) := goodIn_app (goodIn_of _ (by decide +kernel)) ggX7_reason_X7_isMailed
set_option maxRecDepth 20000 in
theorem ggX7_reason_X7_hasArrived : GoodIn wsX7_reason wsX7_hasArrived := goodIn_r _ [41, 12, 26, 27, 28, 3, 29, 62, 63, 64, 65, 66, 67, 68, 69, 70, 71, 72, 73, 74, 75] (by decide +kernel) (by decide +kernel)
set_option maxRecDepth 20000 in
theorem gX7_reason_X7_hasArrived : GoodIn wsX7_reason (wsV RX7 93 RX7 yX7_hasArrived wsX7_hasArrived) := goodIn_app (goodIn_of _ (by decide +kernel)) ggX7_reason_X7_hasArrived
set_option maxRecDepth 20000 in
theorem ggX7_reason_X7_firstWaited : GoodIn wsX7_reason wsX7_firstWaited := goodIn_r _ [49, 50, 51, 52, 3, 53, 42, 43, 44, 45, 26, 27, 28, 29, 12, 54, 55, 56, 57, 62, 63, 64, 65, 66, 67, 68, 69, 70, 71, 72, 73, 74, 75] (by decide +kernel) (by decide +kernel)
set_option maxRecDepth 20000 in
theorem gX7_reason_X7_firstWaited : GoodIn wsX7_reason (wsV RX7 124 RX7 yX7_firstWaited wsX7_firstWaited) := goodIn_app (goodIn_of _ (by decide +kernel)) ggX7_reason_X7_firstWaited
theorem dX7_reason_0 : decode cX7_reason 0 = .ok (.aload_n 0, 1) := by decide +kernel
theorem dX7_reason_1 : decode cX7_reason 1 = .ok (.iload_n 1, 1) := by decide +kernel
theorem dX7_reason_2 : decode cX7_reason 2 = .ok (.invokestatic 96, 3) := by decide +kernel
theorem dX7_reason_5 : decode cX7_reason 5 = .ok (.ifCond .eq 11, 3) := by decide +kernel
theorem dX7_reason_8 : decode cX7_reason 8 = .ok (.aload_n 0, 1) := by decide +kernel
theorem dX7_reason_9 : decode cX7_reason 9 = .ok (.iload_n 2, 1) := by decide +kernel
theorem dX7_reason_10 : decode cX7_reason 10 = .ok (.invokevirtual 142, 3) := by decide +kernel
theorem dX7_reason_13 : decode cX7_reason 13 = .ok (.ifCond .ne 7, 3) := by decide +kernel
theorem dX7_reason_16 : decode cX7_reason 16 = .ok (.iconst 1, 1) := by decide +kernel
theorem dX7_reason_17 : decode cX7_reason 17 = .ok (.goto 4, 3) := by decide +kernel
theorem dX7_reason_20 : decode cX7_reason 20 = .ok (.iconst 0, 1) := by decide +kernel
theorem dX7_reason_21 : decode cX7_reason 21 = .ok (.invokevirtual 42, 3) := by decide +kernel
theorem dX7_reason_24 : decode cX7_reason 24 = .ok (.ifCond .eq 5, 3) := by decide +kernel
theorem dX7_reason_27 : decode cX7_reason 27 = .ok (.iconst 0, 1) := by decide +kernel
theorem dX7_reason_28 : decode cX7_reason 28 = .ok (.ireturn, 1) := by decide +kernel
theorem dX7_reason_29 : decode cX7_reason 29 = .ok (.aload_n 0, 1) := by decide +kernel
theorem dX7_reason_30 : decode cX7_reason 30 = .ok (.iload_n 1, 1) := by decide +kernel
theorem dX7_reason_31 : decode cX7_reason 31 = .ok (.invokevirtual 152, 3) := by decide +kernel
theorem dX7_reason_34 : decode cX7_reason 34 = .ok (.iload_n 2, 1) := by decide +kernel
theorem dX7_reason_35 : decode cX7_reason 35 = .ok (.if_icmp .ne 5, 3) := by decide +kernel
theorem dX7_reason_38 : decode cX7_reason 38 = .ok (.iconst 0, 1) := by decide +kernel
theorem dX7_reason_39 : decode cX7_reason 39 = .ok (.ireturn, 1) := by decide +kernel
theorem dX7_reason_40 : decode cX7_reason 40 = .ok (.aload_n 0, 1) := by decide +kernel
theorem dX7_reason_41 : decode cX7_reason 41 = .ok (.iload_n 2, 1) := by decide +kernel
theorem dX7_reason_42 : decode cX7_reason 42 = .ok (.invokevirtual 67, 3) := by decide +kernel
theorem dX7_reason_45 : decode cX7_reason 45 = .ok (.ifCond .ne 5, 3) := by decide +kernel
theorem dX7_reason_48 : decode cX7_reason 48 = .ok (.iconst 1, 1) := by decide +kernel
theorem dX7_reason_49 : decode cX7_reason 49 = .ok (.ireturn, 1) := by decide +kernel
theorem dX7_reason_50 : decode cX7_reason 50 = .ok (.aload_n 0, 1) := by decide +kernel
theorem dX7_reason_51 : decode cX7_reason 51 = .ok (.invokevirtual 110, 3) := by decide +kernel
theorem dX7_reason_54 : decode cX7_reason 54 = .ok (.ifCond .eq 5, 3) := by decide +kernel
theorem dX7_reason_57 : decode cX7_reason 57 = .ok (.iconst 2, 1) := by decide +kernel
theorem dX7_reason_58 : decode cX7_reason 58 = .ok (.ireturn, 1) := by decide +kernel
theorem dX7_reason_59 : decode cX7_reason 59 = .ok (.aload_n 0, 1) := by decide +kernel
theorem dX7_reason_60 : decode cX7_reason 60 = .ok (.iload_n 1, 1) := by decide +kernel
theorem dX7_reason_61 : decode cX7_reason 61 = .ok (.iload_n 2, 1) := by decide +kernel
theorem dX7_reason_62 : decode cX7_reason 62 = .ok (.invokevirtual 155, 3) := by decide +kernel
theorem dX7_reason_65 : decode cX7_reason 65 = .ok (.ifCond .ne 5, 3) := by decide +kernel
theorem dX7_reason_68 : decode cX7_reason 68 = .ok (.iconst 3, 1) := by decide +kernel
theorem dX7_reason_69 : decode cX7_reason 69 = .ok (.ireturn, 1) := by decide +kernel
theorem dX7_reason_70 : decode cX7_reason 70 = .ok (.aload_n 0, 1) := by decide +kernel
theorem dX7_reason_71 : decode cX7_reason 71 = .ok (.iload_n 2, 1) := by decide +kernel
theorem dX7_reason_72 : decode cX7_reason 72 = .ok (.iload_n 1, 1) := by decide +kernel
theorem dX7_reason_73 : decode cX7_reason 73 = .ok (.invokevirtual 93, 3) := by decide +kernel
theorem dX7_reason_76 : decode cX7_reason 76 = .ok (.ifCond .ne 7, 3) := by decide +kernel
theorem dX7_reason_79 : decode cX7_reason 79 = .ok (.iconst 4, 1) := by decide +kernel
theorem dX7_reason_80 : decode cX7_reason 80 = .ok (.goto 18, 3) := by decide +kernel
theorem dX7_reason_83 : decode cX7_reason 83 = .ok (.aload_n 0, 1) := by decide +kernel
theorem dX7_reason_84 : decode cX7_reason 84 = .ok (.iload_n 2, 1) := by decide +kernel
theorem dX7_reason_85 : decode cX7_reason 85 = .ok (.invokevirtual 124, 3) := by decide +kernel
theorem dX7_reason_88 : decode cX7_reason 88 = .ok (.iconst (-1), 1) := by decide +kernel
theorem dX7_reason_89 : decode cX7_reason 89 = .ok (.if_icmp .eq 7, 3) := by decide +kernel
theorem dX7_reason_92 : decode cX7_reason 92 = .ok (.iconst 5, 1) := by decide +kernel
theorem dX7_reason_93 : decode cX7_reason 93 = .ok (.goto 5, 3) := by decide +kernel
theorem dX7_reason_96 : decode cX7_reason 96 = .ok (.bipush 6, 2) := by decide +kernel
theorem dX7_reason_98 : decode cX7_reason 98 = .ok (.ireturn, 1) := by decide +kernel
set_option maxRecDepth 20000 in
theorem ggX7_openOrders_X7_ordersIn : GoodIn wsX7_openOrders wsX7_ordersIn := goodIn_r _ [5, 6, 7, 8, 9, 4, 10, 11, 12, 13, 14, 15, 16, 17, 18, 19, 20, 21, 22, 23, 24] (by decide +kernel) (by decide +kernel)
set_option maxRecDepth 20000 in
theorem gX7_openOrders_X7_ordersIn : GoodIn wsX7_openOrders (wsV RX7 136 RX7 yX7_ordersIn wsX7_ordersIn) := goodIn_app (goodIn_of _ (by decide +kernel)) ggX7_openOrders_X7_ordersIn
theorem dX7_openOrders_0 : decode cX7_openOrders 0 = .ok (.aload_n 0, 1) := by decide +kernel
theorem dX7_openOrders_1 : decode cX7_openOrders 1 = .ok (.iconst 0, 1) := by decide +kernel
theorem dX7_openOrders_2 : decode cX7_openOrders 2 = .ok (.invokevirtual 136, 3) := by decide +kernel
theorem dX7_openOrders_5 : decode cX7_openOrders 5 = .ok (.aload_n 0, 1) := by decide +kernel
theorem dX7_openOrders_6 : decode cX7_openOrders 6 = .ok (.iconst 1, 1) := by decide +kernel
theorem dX7_openOrders_7 : decode cX7_openOrders 7 = .ok (.invokevirtual 136, 3) := by decide +kernel
theorem dX7_openOrders_10 : decode cX7_openOrders 10 = .ok (.iadd, 1) := by decide +kernel
theorem dX7_openOrders_11 : decode cX7_openOrders 11 = .ok (.ireturn, 1) := by decide +kernel
set_option maxRecDepth 20000 in
theorem ggX7_doneIn_X7_openOrders : GoodIn wsX7_doneIn wsX7_openOrders := goodIn_r _ [8, 9, 10, 11, 7, 12, 3, 13, 14, 15, 16, 85, 86, 87, 88, 89, 90, 91, 92, 93, 94, 95, 96, 97, 98] (by decide +kernel) (by decide +kernel)
set_option maxRecDepth 20000 in
theorem gX7_doneIn_X7_openOrders : GoodIn wsX7_doneIn (wsV RX7 158 RX7 yX7_openOrders wsX7_openOrders) := goodIn_app (goodIn_of _ (by decide +kernel)) ggX7_doneIn_X7_openOrders
set_option maxRecDepth 20000 in
theorem ggX7_doneIn_X7_passes : GoodIn wsX7_doneIn wsX7_passes := goodIn_r _ [20, 3, 21, 22, 23, 7, 24, 25, 26, 27, 28, 29, 30, 31, 32, 13, 14, 15, 16, 33, 34, 35, 36, 37, 38, 39, 40, 41, 42, 43, 44, 45, 46, 47, 48, 49, 50, 51, 52, 53, 54, 55, 56, 57, 58, 59, 60, 61, 62, 63, 64, 65, 66, 67, 68, 69, 70, 71, 72, 73, 74, 75, 76, 77, 78, 79, 80, 81, 82, 83, 84, 85, 86, 87, 88, 89, 90, 91, 92, 93, 94, 95, 96, 97, 98] (by decide +kernel) (by decide +kernel)
set_option maxRecDepth 20000 in
theorem gX7_doneIn_X7_passes : GoodIn wsX7_doneIn (wsV RX7 139 RX7 yX7_passes wsX7_passes) := goodIn_app (goodIn_of _ (by decide +kernel)) ggX7_doneIn_X7_passes
theorem dX7_doneIn_0 : decode cX7_doneIn 0 = .ok (.aload_n 0, 1) := by decide +kernel
theorem dX7_doneIn_1 : decode cX7_doneIn 1 = .ok (.iconst 0, 1) := by decide +kernel
theorem dX7_doneIn_2 : decode cX7_doneIn 2 = .ok (.putfield 31, 3) := by decide +kernel
theorem dX7_doneIn_5 : decode cX7_doneIn 5 = .ok (.iconst 0, 1) := by decide +kernel
theorem dX7_doneIn_6 : decode cX7_doneIn 6 = .ok (.istore_n 1, 1) := by decide +kernel
theorem dX7_doneIn_7 : decode cX7_doneIn 7 = .ok (.iload_n 1, 1) := by decide +kernel
theorem dX7_doneIn_8 : decode cX7_doneIn 8 = .ok (.sipush 596, 3) := by decide +kernel
theorem dX7_doneIn_11 : decode cX7_doneIn 11 = .ok (.if_icmp .ge 21, 3) := by decide +kernel
theorem dX7_doneIn_14 : decode cX7_doneIn 14 = .ok (.aload_n 0, 1) := by decide +kernel
theorem dX7_doneIn_15 : decode cX7_doneIn 15 = .ok (.getfield 16, 3) := by decide +kernel
theorem dX7_doneIn_18 : decode cX7_doneIn 18 = .ok (.iload_n 1, 1) := by decide +kernel
theorem dX7_doneIn_19 : decode cX7_doneIn 19 = .ok (.aload_n 0, 1) := by decide +kernel
theorem dX7_doneIn_20 : decode cX7_doneIn 20 = .ok (.getfield 7, 3) := by decide +kernel
theorem dX7_doneIn_23 : decode cX7_doneIn 23 = .ok (.iload_n 1, 1) := by decide +kernel
theorem dX7_doneIn_24 : decode cX7_doneIn 24 = .ok (.iaload, 1) := by decide +kernel
theorem dX7_doneIn_25 : decode cX7_doneIn 25 = .ok (.iastore, 1) := by decide +kernel
theorem dX7_doneIn_26 : decode cX7_doneIn 26 = .ok (.iinc 1 1, 3) := by decide +kernel
theorem dX7_doneIn_29 : decode cX7_doneIn 29 = .ok (.goto (-22), 3) := by decide +kernel
theorem dX7_doneIn_32 : decode cX7_doneIn 32 = .ok (.iconst 0, 1) := by decide +kernel
theorem dX7_doneIn_33 : decode cX7_doneIn 33 = .ok (.istore_n 1, 1) := by decide +kernel
theorem dX7_doneIn_34 : decode cX7_doneIn 34 = .ok (.iload_n 1, 1) := by decide +kernel
theorem dX7_doneIn_35 : decode cX7_doneIn 35 = .ok (.sipush 200, 3) := by decide +kernel
theorem dX7_doneIn_38 : decode cX7_doneIn 38 = .ok (.if_icmp .gt 20, 3) := by decide +kernel
theorem dX7_doneIn_41 : decode cX7_doneIn 41 = .ok (.aload_n 0, 1) := by decide +kernel
theorem dX7_doneIn_42 : decode cX7_doneIn 42 = .ok (.invokevirtual 158, 3) := by decide +kernel
theorem dX7_doneIn_45 : decode cX7_doneIn 45 = .ok (.ifCond .le 13, 3) := by decide +kernel
theorem dX7_doneIn_48 : decode cX7_doneIn 48 = .ok (.aload_n 0, 1) := by decide +kernel
theorem dX7_doneIn_49 : decode cX7_doneIn 49 = .ok (.invokevirtual 139, 3) := by decide +kernel
theorem dX7_doneIn_52 : decode cX7_doneIn 52 = .ok (.iinc 1 1, 3) := by decide +kernel
theorem dX7_doneIn_55 : decode cX7_doneIn 55 = .ok (.goto (-21), 3) := by decide +kernel
theorem dX7_doneIn_58 : decode cX7_doneIn 58 = .ok (.iconst 0, 1) := by decide +kernel
theorem dX7_doneIn_59 : decode cX7_doneIn 59 = .ok (.istore_n 2, 1) := by decide +kernel
theorem dX7_doneIn_60 : decode cX7_doneIn 60 = .ok (.iload_n 2, 1) := by decide +kernel
theorem dX7_doneIn_61 : decode cX7_doneIn 61 = .ok (.sipush 596, 3) := by decide +kernel
theorem dX7_doneIn_64 : decode cX7_doneIn 64 = .ok (.if_icmp .ge 21, 3) := by decide +kernel
theorem dX7_doneIn_67 : decode cX7_doneIn 67 = .ok (.aload_n 0, 1) := by decide +kernel
theorem dX7_doneIn_68 : decode cX7_doneIn 68 = .ok (.getfield 7, 3) := by decide +kernel
theorem dX7_doneIn_71 : decode cX7_doneIn 71 = .ok (.iload_n 2, 1) := by decide +kernel
theorem dX7_doneIn_72 : decode cX7_doneIn 72 = .ok (.aload_n 0, 1) := by decide +kernel
theorem dX7_doneIn_73 : decode cX7_doneIn 73 = .ok (.getfield 16, 3) := by decide +kernel
theorem dX7_doneIn_76 : decode cX7_doneIn 76 = .ok (.iload_n 2, 1) := by decide +kernel
theorem dX7_doneIn_77 : decode cX7_doneIn 77 = .ok (.iaload, 1) := by decide +kernel
theorem dX7_doneIn_78 : decode cX7_doneIn 78 = .ok (.iastore, 1) := by decide +kernel
theorem dX7_doneIn_79 : decode cX7_doneIn 79 = .ok (.iinc 2 1, 3) := by decide +kernel
theorem dX7_doneIn_82 : decode cX7_doneIn 82 = .ok (.goto (-22), 3) := by decide +kernel
theorem dX7_doneIn_85 : decode cX7_doneIn 85 = .ok (.iload_n 1, 1) := by decide +kernel
theorem dX7_doneIn_86 : decode cX7_doneIn 86 = .ok (.sipush 200, 3) := by decide +kernel
theorem dX7_doneIn_89 : decode cX7_doneIn 89 = .ok (.if_icmp .le 7, 3) := by decide +kernel
theorem dX7_doneIn_92 : decode cX7_doneIn 92 = .ok (.iconst (-1), 1) := by decide +kernel
theorem dX7_doneIn_93 : decode cX7_doneIn 93 = .ok (.goto 4, 3) := by decide +kernel
theorem dX7_doneIn_96 : decode cX7_doneIn 96 = .ok (.iload_n 1, 1) := by decide +kernel
theorem dX7_doneIn_97 : decode cX7_doneIn 97 = .ok (.ireturn, 1) := by decide +kernel
set_option maxRecDepth 20000 in
theorem ggX7_finalValue_X7_isBlock : GoodIn wsX7_finalValue wsX7_isBlock := goodIn_r _ [6, 7, 8, 5, 9] (by decide +kernel) (by decide +kernel)
set_option maxRecDepth 20000 in
theorem gX7_finalValue_X7_isBlock : GoodIn wsX7_finalValue (va_wsS RX7 54 yX7_isBlock wsX7_isBlock) := goodIn_app (goodIn_of _ (by decide +kernel)) ggX7_finalValue_X7_isBlock
set_option maxRecDepth 20000 in
theorem ggX7_finalValue_X7_refused : GoodIn wsX7_finalValue wsX7_refused := goodIn_r _ [13, 14, 23, 24, 25, 26, 27, 28, 29, 30, 31, 32, 33, 34, 35, 36] (by decide +kernel) (by decide +kernel)
set_option maxRecDepth 20000 in
theorem gX7_finalValue_X7_refused : GoodIn wsX7_finalValue (wsV RX7 42 RX7 yX7_refused wsX7_refused) := goodIn_app (goodIn_of _ (by decide +kernel)) ggX7_finalValue_X7_refused
set_option maxRecDepth 20000 in
theorem ggX7_finalValue_X7_of : GoodIn wsX7_finalValue wsX7_of := goodIn_r _ [18, 2, 23, 24, 25, 26, 27, 28, 29, 30, 31, 32, 33, 34, 35, 36] (by decide +kernel) (by decide +kernel)
set_option maxRecDepth 20000 in
theorem gX7_finalValue_X7_of : GoodIn wsX7_finalValue (wsV RX7 50 RX7 yX7_of wsX7_of) := goodIn_app (goodIn_of _ (by decide +kernel)) ggX7_finalValue_X7_of
set_option maxRecDepth 20000 in
theorem ggX7_finalValue_X7_isOpen : GoodIn wsX7_finalValue wsX7_isOpen := goodIn_r _ [22, 15, 16, 17, 5, 18, 2, 23, 24, 25, 26, 27, 28, 29, 30, 31, 32, 33, 34, 35, 36] (by decide +kernel) (by decide +kernel)
set_option maxRecDepth 20000 in
theorem gX7_finalValue_X7_isOpen : GoodIn wsX7_finalValue (wsV RX7 67 RX7 yX7_isOpen wsX7_isOpen) := goodIn_app (goodIn_of _ (by decide +kernel)) ggX7_finalValue_X7_isOpen
theorem dX7_finalValue_0 : decode cX7_finalValue 0 = .ok (.aload_n 0, 1) := by decide +kernel
theorem dX7_finalValue_1 : decode cX7_finalValue 1 = .ok (.iload_n 1, 1) := by decide +kernel
theorem dX7_finalValue_2 : decode cX7_finalValue 2 = .ok (.invokestatic 54, 3) := by decide +kernel
theorem dX7_finalValue_5 : decode cX7_finalValue 5 = .ok (.ifCond .ne 7, 3) := by decide +kernel
theorem dX7_finalValue_8 : decode cX7_finalValue 8 = .ok (.iconst 1, 1) := by decide +kernel
theorem dX7_finalValue_9 : decode cX7_finalValue 9 = .ok (.goto 4, 3) := by decide +kernel
theorem dX7_finalValue_12 : decode cX7_finalValue 12 = .ok (.iconst 0, 1) := by decide +kernel
theorem dX7_finalValue_13 : decode cX7_finalValue 13 = .ok (.invokevirtual 42, 3) := by decide +kernel
theorem dX7_finalValue_16 : decode cX7_finalValue 16 = .ok (.ifCond .eq 5, 3) := by decide +kernel
theorem dX7_finalValue_19 : decode cX7_finalValue 19 = .ok (.iconst 0, 1) := by decide +kernel
theorem dX7_finalValue_20 : decode cX7_finalValue 20 = .ok (.ireturn, 1) := by decide +kernel
theorem dX7_finalValue_21 : decode cX7_finalValue 21 = .ok (.iconst 0, 1) := by decide +kernel
theorem dX7_finalValue_22 : decode cX7_finalValue 22 = .ok (.istore_n 2, 1) := by decide +kernel
theorem dX7_finalValue_23 : decode cX7_finalValue 23 = .ok (.iload_n 2, 1) := by decide +kernel
theorem dX7_finalValue_24 : decode cX7_finalValue 24 = .ok (.bipush 16, 2) := by decide +kernel
theorem dX7_finalValue_26 : decode cX7_finalValue 26 = .ok (.if_icmp .ge 23, 3) := by decide +kernel
theorem dX7_finalValue_29 : decode cX7_finalValue 29 = .ok (.aload_n 0, 1) := by decide +kernel
theorem dX7_finalValue_30 : decode cX7_finalValue 30 = .ok (.getfield 22, 3) := by decide +kernel
theorem dX7_finalValue_33 : decode cX7_finalValue 33 = .ok (.iload_n 2, 1) := by decide +kernel
theorem dX7_finalValue_34 : decode cX7_finalValue 34 = .ok (.aload_n 0, 1) := by decide +kernel
theorem dX7_finalValue_35 : decode cX7_finalValue 35 = .ok (.getfield 7, 3) := by decide +kernel
theorem dX7_finalValue_38 : decode cX7_finalValue 38 = .ok (.iconst 4, 1) := by decide +kernel
theorem dX7_finalValue_39 : decode cX7_finalValue 39 = .ok (.iload_n 2, 1) := by decide +kernel
theorem dX7_finalValue_40 : decode cX7_finalValue 40 = .ok (.iadd, 1) := by decide +kernel
theorem dX7_finalValue_41 : decode cX7_finalValue 41 = .ok (.iaload, 1) := by decide +kernel
theorem dX7_finalValue_42 : decode cX7_finalValue 42 = .ok (.iastore, 1) := by decide +kernel
theorem dX7_finalValue_43 : decode cX7_finalValue 43 = .ok (.iinc 2 1, 3) := by decide +kernel
theorem dX7_finalValue_46 : decode cX7_finalValue 46 = .ok (.goto (-23), 3) := by decide +kernel
theorem dX7_finalValue_49 : decode cX7_finalValue 49 = .ok (.iconst 0, 1) := by decide +kernel
theorem dX7_finalValue_50 : decode cX7_finalValue 50 = .ok (.istore_n 2, 1) := by decide +kernel
theorem dX7_finalValue_51 : decode cX7_finalValue 51 = .ok (.iload_n 2, 1) := by decide +kernel
theorem dX7_finalValue_52 : decode cX7_finalValue 52 = .ok (.aload_n 0, 1) := by decide +kernel
theorem dX7_finalValue_53 : decode cX7_finalValue 53 = .ok (.getfield 7, 3) := by decide +kernel
theorem dX7_finalValue_56 : decode cX7_finalValue 56 = .ok (.iconst 1, 1) := by decide +kernel
theorem dX7_finalValue_57 : decode cX7_finalValue 57 = .ok (.iaload, 1) := by decide +kernel
theorem dX7_finalValue_58 : decode cX7_finalValue 58 = .ok (.if_icmp .ge 138, 3) := by decide +kernel
theorem dX7_finalValue_61 : decode cX7_finalValue 61 = .ok (.aload_n 0, 1) := by decide +kernel
theorem dX7_finalValue_62 : decode cX7_finalValue 62 = .ok (.iload_n 2, 1) := by decide +kernel
theorem dX7_finalValue_63 : decode cX7_finalValue 63 = .ok (.iconst 3, 1) := by decide +kernel
theorem dX7_finalValue_64 : decode cX7_finalValue 64 = .ok (.invokevirtual 50, 3) := by decide +kernel
theorem dX7_finalValue_67 : decode cX7_finalValue 67 = .ok (.istore_n 3, 1) := by decide +kernel
theorem dX7_finalValue_68 : decode cX7_finalValue 68 = .ok (.aload_n 0, 1) := by decide +kernel
theorem dX7_finalValue_69 : decode cX7_finalValue 69 = .ok (.iload_n 2, 1) := by decide +kernel
theorem dX7_finalValue_70 : decode cX7_finalValue 70 = .ok (.iconst 4, 1) := by decide +kernel
theorem dX7_finalValue_71 : decode cX7_finalValue 71 = .ok (.invokevirtual 50, 3) := by decide +kernel
theorem dX7_finalValue_74 : decode cX7_finalValue 74 = .ok (.istore 4, 2) := by decide +kernel
theorem dX7_finalValue_76 : decode cX7_finalValue 76 = .ok (.aload_n 0, 1) := by decide +kernel
theorem dX7_finalValue_77 : decode cX7_finalValue 77 = .ok (.iload_n 2, 1) := by decide +kernel
theorem dX7_finalValue_78 : decode cX7_finalValue 78 = .ok (.invokevirtual 67, 3) := by decide +kernel
theorem dX7_finalValue_81 : decode cX7_finalValue 81 = .ok (.ifCond .eq 23, 3) := by decide +kernel
theorem dX7_finalValue_84 : decode cX7_finalValue 84 = .ok (.aload_n 0, 1) := by decide +kernel
theorem dX7_finalValue_85 : decode cX7_finalValue 85 = .ok (.iload_n 2, 1) := by decide +kernel
theorem dX7_finalValue_86 : decode cX7_finalValue 86 = .ok (.iconst 2, 1) := by decide +kernel
theorem dX7_finalValue_87 : decode cX7_finalValue 87 = .ok (.invokevirtual 50, 3) := by decide +kernel
theorem dX7_finalValue_90 : decode cX7_finalValue 90 = .ok (.ifCond .ne 14, 3) := by decide +kernel
theorem dX7_finalValue_93 : decode cX7_finalValue 93 = .ok (.aload_n 0, 1) := by decide +kernel
theorem dX7_finalValue_94 : decode cX7_finalValue 94 = .ok (.getfield 22, 3) := by decide +kernel
theorem dX7_finalValue_97 : decode cX7_finalValue 97 = .ok (.iload_n 3, 1) := by decide +kernel
theorem dX7_finalValue_98 : decode cX7_finalValue 98 = .ok (.iload 4, 2) := by decide +kernel
theorem dX7_finalValue_100 : decode cX7_finalValue 100 = .ok (.iastore, 1) := by decide +kernel
theorem dX7_finalValue_101 : decode cX7_finalValue 101 = .ok (.goto 89, 3) := by decide +kernel
theorem dX7_finalValue_104 : decode cX7_finalValue 104 = .ok (.aload_n 0, 1) := by decide +kernel
theorem dX7_finalValue_105 : decode cX7_finalValue 105 = .ok (.iload_n 2, 1) := by decide +kernel
theorem dX7_finalValue_106 : decode cX7_finalValue 106 = .ok (.invokevirtual 67, 3) := by decide +kernel
theorem dX7_finalValue_109 : decode cX7_finalValue 109 = .ok (.ifCond .eq 50, 3) := by decide +kernel
theorem dX7_finalValue_112 : decode cX7_finalValue 112 = .ok (.aload_n 0, 1) := by decide +kernel
theorem dX7_finalValue_113 : decode cX7_finalValue 113 = .ok (.iload_n 2, 1) := by decide +kernel
theorem dX7_finalValue_114 : decode cX7_finalValue 114 = .ok (.iconst 2, 1) := by decide +kernel
theorem dX7_finalValue_115 : decode cX7_finalValue 115 = .ok (.invokevirtual 50, 3) := by decide +kernel
theorem dX7_finalValue_118 : decode cX7_finalValue 118 = .ok (.iconst 1, 1) := by decide +kernel
theorem dX7_finalValue_119 : decode cX7_finalValue 119 = .ok (.if_icmp .ne 40, 3) := by decide +kernel
theorem dX7_finalValue_122 : decode cX7_finalValue 122 = .ok (.aload_n 0, 1) := by decide +kernel
theorem dX7_finalValue_123 : decode cX7_finalValue 123 = .ok (.getfield 22, 3) := by decide +kernel
theorem dX7_finalValue_126 : decode cX7_finalValue 126 = .ok (.iload_n 3, 1) := by decide +kernel
theorem dX7_finalValue_127 : decode cX7_finalValue 127 = .ok (.aload_n 0, 1) := by decide +kernel
theorem dX7_finalValue_128 : decode cX7_finalValue 128 = .ok (.iload_n 2, 1) := by decide +kernel
theorem dX7_finalValue_129 : decode cX7_finalValue 129 = .ok (.iconst 5, 1) := by decide +kernel
theorem dX7_finalValue_130 : decode cX7_finalValue 130 = .ok (.invokevirtual 50, 3) := by decide +kernel
theorem dX7_finalValue_133 : decode cX7_finalValue 133 = .ok (.iconst 1, 1) := by decide +kernel
theorem dX7_finalValue_134 : decode cX7_finalValue 134 = .ok (.if_icmp .ne 12, 3) := by decide +kernel
theorem dX7_finalValue_137 : decode cX7_finalValue 137 = .ok (.aload_n 0, 1) := by decide +kernel
theorem dX7_finalValue_138 : decode cX7_finalValue 138 = .ok (.getfield 7, 3) := by decide +kernel
theorem dX7_finalValue_141 : decode cX7_finalValue 141 = .ok (.iconst 3, 1) := by decide +kernel
theorem dX7_finalValue_142 : decode cX7_finalValue 142 = .ok (.iaload, 1) := by decide +kernel
theorem dX7_finalValue_143 : decode cX7_finalValue 143 = .ok (.goto 9, 3) := by decide +kernel
theorem dX7_finalValue_146 : decode cX7_finalValue 146 = .ok (.aload_n 0, 1) := by decide +kernel
theorem dX7_finalValue_147 : decode cX7_finalValue 147 = .ok (.getfield 22, 3) := by decide +kernel
theorem dX7_finalValue_150 : decode cX7_finalValue 150 = .ok (.iload_n 3, 1) := by decide +kernel
theorem dX7_finalValue_151 : decode cX7_finalValue 151 = .ok (.iaload, 1) := by decide +kernel
theorem dX7_finalValue_152 : decode cX7_finalValue 152 = .ok (.iload 4, 2) := by decide +kernel
theorem dX7_finalValue_154 : decode cX7_finalValue 154 = .ok (.iadd, 1) := by decide +kernel
theorem dX7_finalValue_155 : decode cX7_finalValue 155 = .ok (.iastore, 1) := by decide +kernel
theorem dX7_finalValue_156 : decode cX7_finalValue 156 = .ok (.goto 34, 3) := by decide +kernel
theorem dX7_finalValue_159 : decode cX7_finalValue 159 = .ok (.aload_n 0, 1) := by decide +kernel
theorem dX7_finalValue_160 : decode cX7_finalValue 160 = .ok (.iload_n 2, 1) := by decide +kernel
theorem dX7_finalValue_161 : decode cX7_finalValue 161 = .ok (.invokevirtual 67, 3) := by decide +kernel
theorem dX7_finalValue_164 : decode cX7_finalValue 164 = .ok (.ifCond .eq 26, 3) := by decide +kernel
theorem dX7_finalValue_167 : decode cX7_finalValue 167 = .ok (.aload_n 0, 1) := by decide +kernel
theorem dX7_finalValue_168 : decode cX7_finalValue 168 = .ok (.iload_n 2, 1) := by decide +kernel
theorem dX7_finalValue_169 : decode cX7_finalValue 169 = .ok (.iconst 2, 1) := by decide +kernel
theorem dX7_finalValue_170 : decode cX7_finalValue 170 = .ok (.invokevirtual 50, 3) := by decide +kernel
theorem dX7_finalValue_173 : decode cX7_finalValue 173 = .ok (.iconst 2, 1) := by decide +kernel
theorem dX7_finalValue_174 : decode cX7_finalValue 174 = .ok (.if_icmp .ne 16, 3) := by decide +kernel
theorem dX7_finalValue_177 : decode cX7_finalValue 177 = .ok (.aload_n 0, 1) := by decide +kernel
theorem dX7_finalValue_178 : decode cX7_finalValue 178 = .ok (.getfield 22, 3) := by decide +kernel
theorem dX7_finalValue_181 : decode cX7_finalValue 181 = .ok (.iload_n 3, 1) := by decide +kernel
theorem dX7_finalValue_182 : decode cX7_finalValue 182 = .ok (.aload_n 0, 1) := by decide +kernel
theorem dX7_finalValue_183 : decode cX7_finalValue 183 = .ok (.getfield 22, 3) := by decide +kernel
theorem dX7_finalValue_186 : decode cX7_finalValue 186 = .ok (.iload 4, 2) := by decide +kernel
theorem dX7_finalValue_188 : decode cX7_finalValue 188 = .ok (.iaload, 1) := by decide +kernel
theorem dX7_finalValue_189 : decode cX7_finalValue 189 = .ok (.iastore, 1) := by decide +kernel
theorem dX7_finalValue_190 : decode cX7_finalValue 190 = .ok (.iinc 2 1, 3) := by decide +kernel
theorem dX7_finalValue_193 : decode cX7_finalValue 193 = .ok (.goto (-142), 3) := by decide +kernel
theorem dX7_finalValue_196 : decode cX7_finalValue 196 = .ok (.aload_n 0, 1) := by decide +kernel
theorem dX7_finalValue_197 : decode cX7_finalValue 197 = .ok (.getfield 22, 3) := by decide +kernel
theorem dX7_finalValue_200 : decode cX7_finalValue 200 = .ok (.iload_n 1, 1) := by decide +kernel
theorem dX7_finalValue_201 : decode cX7_finalValue 201 = .ok (.iaload, 1) := by decide +kernel
theorem dX7_finalValue_202 : decode cX7_finalValue 202 = .ok (.ireturn, 1) := by decide +kernel
set_option maxRecDepth 20000 in
theorem ggX7_type_X7_within : GoodIn wsX7_type wsX7_within := goodIn_r _ [6] (by decide +kernel) (by decide +kernel)
set_option maxRecDepth 20000 in
theorem gX7_type_X7_within : GoodIn wsX7_type (va_wsS RX7 46 yX7_within wsX7_within) := goodIn_app (goodIn_of _ (by decide +kernel)) ggX7_type_X7_within
set_option maxRecDepth 20000 in
theorem ggX7_type_X7_refused : GoodIn wsX7_type wsX7_refused := goodIn_r _ [10, 11, 12, 13, 14, 15, 16, 17, 18, 19, 20, 21, 22, 23, 24, 25] (by decide +kernel) (by decide +kernel)
set_option maxRecDepth 20000 in
theorem gX7_type_X7_refused : GoodIn wsX7_type (wsV RX7 42 RX7 yX7_refused wsX7_refused) := goodIn_app (goodIn_of _ (by decide +kernel)) ggX7_type_X7_refused
theorem dX7_type_0 : decode cX7_type 0 = .ok (.aload_n 0, 1) := by decide +kernel
theorem dX7_type_1 : decode cX7_type 1 = .ok (.iload_n 1, 1) := by decide +kernel
theorem dX7_type_2 : decode cX7_type 2 = .ok (.iconst 0, 1) := by decide +kernel
theorem dX7_type_3 : decode cX7_type 3 = .ok (.bipush 127, 2) := by decide +kernel
theorem dX7_type_5 : decode cX7_type 5 = .ok (.invokestatic 46, 3) := by decide +kernel
theorem dX7_type_8 : decode cX7_type 8 = .ok (.ifCond .ne 7, 3) := by decide +kernel
theorem dX7_type_11 : decode cX7_type 11 = .ok (.iconst 1, 1) := by decide +kernel
theorem dX7_type_12 : decode cX7_type 12 = .ok (.goto 18, 3) := by decide +kernel
theorem dX7_type_15 : decode cX7_type 15 = .ok (.aload_n 0, 1) := by decide +kernel
theorem dX7_type_16 : decode cX7_type 16 = .ok (.getfield 149, 3) := by decide +kernel
theorem dX7_type_19 : decode cX7_type 19 = .ok (.sipush 150, 3) := by decide +kernel
theorem dX7_type_22 : decode cX7_type 22 = .ok (.if_icmp .ne 7, 3) := by decide +kernel
theorem dX7_type_25 : decode cX7_type 25 = .ok (.iconst 2, 1) := by decide +kernel
theorem dX7_type_26 : decode cX7_type 26 = .ok (.goto 4, 3) := by decide +kernel
theorem dX7_type_29 : decode cX7_type 29 = .ok (.iconst 0, 1) := by decide +kernel
theorem dX7_type_30 : decode cX7_type 30 = .ok (.invokevirtual 42, 3) := by decide +kernel
theorem dX7_type_33 : decode cX7_type 33 = .ok (.ifCond .eq 5, 3) := by decide +kernel
theorem dX7_type_36 : decode cX7_type 36 = .ok (.iconst 0, 1) := by decide +kernel
theorem dX7_type_37 : decode cX7_type 37 = .ok (.ireturn, 1) := by decide +kernel
theorem dX7_type_38 : decode cX7_type 38 = .ok (.aload_n 0, 1) := by decide +kernel
theorem dX7_type_39 : decode cX7_type 39 = .ok (.getfield 25, 3) := by decide +kernel
theorem dX7_type_42 : decode cX7_type 42 = .ok (.aload_n 0, 1) := by decide +kernel
theorem dX7_type_43 : decode cX7_type 43 = .ok (.getfield 149, 3) := by decide +kernel
theorem dX7_type_46 : decode cX7_type 46 = .ok (.iload_n 1, 1) := by decide +kernel
theorem dX7_type_47 : decode cX7_type 47 = .ok (.iastore, 1) := by decide +kernel
theorem dX7_type_48 : decode cX7_type 48 = .ok (.aload_n 0, 1) := by decide +kernel
theorem dX7_type_49 : decode cX7_type 49 = .ok (.dup, 1) := by decide +kernel
theorem dX7_type_50 : decode cX7_type 50 = .ok (.getfield 149, 3) := by decide +kernel
theorem dX7_type_53 : decode cX7_type 53 = .ok (.iconst 1, 1) := by decide +kernel
theorem dX7_type_54 : decode cX7_type 54 = .ok (.iadd, 1) := by decide +kernel
theorem dX7_type_55 : decode cX7_type 55 = .ok (.putfield 149, 3) := by decide +kernel
theorem dX7_type_58 : decode cX7_type 58 = .ok (.aload_n 0, 1) := by decide +kernel
theorem dX7_type_59 : decode cX7_type 59 = .ok (.getfield 149, 3) := by decide +kernel
theorem dX7_type_62 : decode cX7_type 62 = .ok (.ireturn, 1) := by decide +kernel
theorem dX7_clearCommands_0 : decode cX7_clearCommands 0 = .ok (.aload_n 0, 1) := by decide +kernel
theorem dX7_clearCommands_1 : decode cX7_clearCommands 1 = .ok (.iconst 0, 1) := by decide +kernel
theorem dX7_clearCommands_2 : decode cX7_clearCommands 2 = .ok (.putfield 31, 3) := by decide +kernel
theorem dX7_clearCommands_5 : decode cX7_clearCommands 5 = .ok (.aload_n 0, 1) := by decide +kernel
theorem dX7_clearCommands_6 : decode cX7_clearCommands 6 = .ok (.getfield 149, 3) := by decide +kernel
theorem dX7_clearCommands_9 : decode cX7_clearCommands 9 = .ok (.istore_n 1, 1) := by decide +kernel
theorem dX7_clearCommands_10 : decode cX7_clearCommands 10 = .ok (.aload_n 0, 1) := by decide +kernel
theorem dX7_clearCommands_11 : decode cX7_clearCommands 11 = .ok (.iconst 0, 1) := by decide +kernel
theorem dX7_clearCommands_12 : decode cX7_clearCommands 12 = .ok (.putfield 149, 3) := by decide +kernel
theorem dX7_clearCommands_15 : decode cX7_clearCommands 15 = .ok (.iload_n 1, 1) := by decide +kernel
theorem dX7_clearCommands_16 : decode cX7_clearCommands 16 = .ok (.ireturn, 1) := by decide +kernel
theorem dX7_here_0 : decode cX7_here 0 = .ok (.aload_n 0, 1) := by decide +kernel
theorem dX7_here_1 : decode cX7_here 1 = .ok (.getfield 161, 3) := by decide +kernel
theorem dX7_here_4 : decode cX7_here 4 = .ok (.aload_n 0, 1) := by decide +kernel
theorem dX7_here_5 : decode cX7_here 5 = .ok (.getfield 149, 3) := by decide +kernel
theorem dX7_here_8 : decode cX7_here 8 = .ok (.if_icmp .ge 15, 3) := by decide +kernel
theorem dX7_here_11 : decode cX7_here 11 = .ok (.aload_n 0, 1) := by decide +kernel
theorem dX7_here_12 : decode cX7_here 12 = .ok (.getfield 25, 3) := by decide +kernel
theorem dX7_here_15 : decode cX7_here 15 = .ok (.aload_n 0, 1) := by decide +kernel
theorem dX7_here_16 : decode cX7_here 16 = .ok (.getfield 161, 3) := by decide +kernel
theorem dX7_here_19 : decode cX7_here 19 = .ok (.iaload, 1) := by decide +kernel
theorem dX7_here_20 : decode cX7_here 20 = .ok (.goto 4, 3) := by decide +kernel
theorem dX7_here_23 : decode cX7_here 23 = .ok (.iconst (-1), 1) := by decide +kernel
theorem dX7_here_24 : decode cX7_here 24 = .ok (.ireturn, 1) := by decide +kernel
set_option maxRecDepth 20000 in
theorem ggX7_skips_X7_here : GoodIn wsX7_skips wsX7_here := goodIn_r _ [6, 1, 7, 8, 9, 10, 11, 12, 13, 14, 15, 16, 17, 18, 19, 20, 21, 22] (by decide +kernel) (by decide +kernel)
set_option maxRecDepth 20000 in
theorem gX7_skips_X7_here : GoodIn wsX7_skips (wsV RX7 164 RX7 yX7_here wsX7_here) := goodIn_app (goodIn_of _ (by decide +kernel)) ggX7_skips_X7_here
theorem dX7_skips_0 : decode cX7_skips 0 = .ok (.aload_n 0, 1) := by decide +kernel
theorem dX7_skips_1 : decode cX7_skips 1 = .ok (.invokevirtual 164, 3) := by decide +kernel
theorem dX7_skips_4 : decode cX7_skips 4 = .ok (.bipush 32, 2) := by decide +kernel
theorem dX7_skips_6 : decode cX7_skips 6 = .ok (.if_icmp .ne 16, 3) := by decide +kernel
theorem dX7_skips_9 : decode cX7_skips 9 = .ok (.aload_n 0, 1) := by decide +kernel
theorem dX7_skips_10 : decode cX7_skips 10 = .ok (.dup, 1) := by decide +kernel
theorem dX7_skips_11 : decode cX7_skips 11 = .ok (.getfield 161, 3) := by decide +kernel
theorem dX7_skips_14 : decode cX7_skips 14 = .ok (.iconst 1, 1) := by decide +kernel
theorem dX7_skips_15 : decode cX7_skips 15 = .ok (.iadd, 1) := by decide +kernel
theorem dX7_skips_16 : decode cX7_skips 16 = .ok (.putfield 161, 3) := by decide +kernel
theorem dX7_skips_19 : decode cX7_skips 19 = .ok (.goto (-19), 3) := by decide +kernel
theorem dX7_skips_22 : decode cX7_skips 22 = .ok (.return_, 1) := by decide +kernel
theorem dX7_fails_0 : decode cX7_fails 0 = .ok (.aload_n 0, 1) := by decide +kernel
theorem dX7_fails_1 : decode cX7_fails 1 = .ok (.iload_n 1, 1) := by decide +kernel
theorem dX7_fails_2 : decode cX7_fails 2 = .ok (.putfield 167, 3) := by decide +kernel
theorem dX7_fails_5 : decode cX7_fails 5 = .ok (.iconst 0, 1) := by decide +kernel
theorem dX7_fails_6 : decode cX7_fails 6 = .ok (.ireturn, 1) := by decide +kernel
theorem dX7_reads_0 : decode cX7_reads 0 = .ok (.aload_n 0, 1) := by decide +kernel
theorem dX7_reads_1 : decode cX7_reads 1 = .ok (.getfield 161, 3) := by decide +kernel
theorem dX7_reads_4 : decode cX7_reads 4 = .ok (.iload_n 1, 1) := by decide +kernel
theorem dX7_reads_5 : decode cX7_reads 5 = .ok (.isub, 1) := by decide +kernel
theorem dX7_reads_6 : decode cX7_reads 6 = .ok (.istore 7, 2) := by decide +kernel
theorem dX7_reads_8 : decode cX7_reads 8 = .ok (.iload 7, 2) := by decide +kernel
theorem dX7_reads_10 : decode cX7_reads 10 = .ok (.iload 5, 2) := by decide +kernel
theorem dX7_reads_12 : decode cX7_reads 12 = .ok (.ifCond .ne 7, 3) := by decide +kernel
theorem dX7_reads_15 : decode cX7_reads 15 = .ok (.iconst 3, 1) := by decide +kernel
theorem dX7_reads_16 : decode cX7_reads 16 = .ok (.goto 13, 3) := by decide +kernel
theorem dX7_reads_19 : decode cX7_reads 19 = .ok (.iload 6, 2) := by decide +kernel
theorem dX7_reads_21 : decode cX7_reads 21 = .ok (.ifCond .ne 7, 3) := by decide +kernel
theorem dX7_reads_24 : decode cX7_reads 24 = .ok (.iconst 4, 1) := by decide +kernel
theorem dX7_reads_25 : decode cX7_reads 25 = .ok (.goto 4, 3) := by decide +kernel
theorem dX7_reads_28 : decode cX7_reads 28 = .ok (.iconst 5, 1) := by decide +kernel
theorem dX7_reads_29 : decode cX7_reads 29 = .ok (.if_icmp .ne 42, 3) := by decide +kernel
theorem dX7_reads_32 : decode cX7_reads 32 = .ok (.aload_n 0, 1) := by decide +kernel
theorem dX7_reads_33 : decode cX7_reads 33 = .ok (.getfield 25, 3) := by decide +kernel
theorem dX7_reads_36 : decode cX7_reads 36 = .ok (.iload_n 1, 1) := by decide +kernel
theorem dX7_reads_37 : decode cX7_reads 37 = .ok (.iaload, 1) := by decide +kernel
theorem dX7_reads_38 : decode cX7_reads 38 = .ok (.iload_n 2, 1) := by decide +kernel
theorem dX7_reads_39 : decode cX7_reads 39 = .ok (.if_icmp .ne 32, 3) := by decide +kernel
theorem dX7_reads_42 : decode cX7_reads 42 = .ok (.aload_n 0, 1) := by decide +kernel
theorem dX7_reads_43 : decode cX7_reads 43 = .ok (.getfield 25, 3) := by decide +kernel
theorem dX7_reads_46 : decode cX7_reads 46 = .ok (.iload_n 1, 1) := by decide +kernel
theorem dX7_reads_47 : decode cX7_reads 47 = .ok (.iconst 1, 1) := by decide +kernel
theorem dX7_reads_48 : decode cX7_reads 48 = .ok (.iadd, 1) := by decide +kernel
theorem dX7_reads_49 : decode cX7_reads 49 = .ok (.iaload, 1) := by decide +kernel
theorem dX7_reads_50 : decode cX7_reads 50 = .ok (.iload_n 3, 1) := by decide +kernel
theorem dX7_reads_51 : decode cX7_reads 51 = .ok (.if_icmp .ne 20, 3) := by decide +kernel
theorem dX7_reads_54 : decode cX7_reads 54 = .ok (.aload_n 0, 1) := by decide +kernel
theorem dX7_reads_55 : decode cX7_reads 55 = .ok (.getfield 25, 3) := by decide +kernel
theorem dX7_reads_58 : decode cX7_reads 58 = .ok (.iload_n 1, 1) := by decide +kernel
theorem dX7_reads_59 : decode cX7_reads 59 = .ok (.iconst 2, 1) := by decide +kernel
theorem dX7_reads_60 : decode cX7_reads 60 = .ok (.iadd, 1) := by decide +kernel
theorem dX7_reads_61 : decode cX7_reads 61 = .ok (.iaload, 1) := by decide +kernel
theorem dX7_reads_62 : decode cX7_reads 62 = .ok (.iload 4, 2) := by decide +kernel
theorem dX7_reads_64 : decode cX7_reads 64 = .ok (.if_icmp .ne 7, 3) := by decide +kernel
theorem dX7_reads_67 : decode cX7_reads 67 = .ok (.iconst 1, 1) := by decide +kernel
theorem dX7_reads_68 : decode cX7_reads 68 = .ok (.goto 4, 3) := by decide +kernel
theorem dX7_reads_71 : decode cX7_reads 71 = .ok (.iconst 0, 1) := by decide +kernel
theorem dX7_reads_72 : decode cX7_reads 72 = .ok (.istore 8, 2) := by decide +kernel
theorem dX7_reads_74 : decode cX7_reads 74 = .ok (.iload 8, 2) := by decide +kernel
theorem dX7_reads_76 : decode cX7_reads 76 = .ok (.ifCond .eq 25, 3) := by decide +kernel
theorem dX7_reads_79 : decode cX7_reads 79 = .ok (.iload 5, 2) := by decide +kernel
theorem dX7_reads_81 : decode cX7_reads 81 = .ok (.ifCond .eq 16, 3) := by decide +kernel
theorem dX7_reads_84 : decode cX7_reads 84 = .ok (.aload_n 0, 1) := by decide +kernel
theorem dX7_reads_85 : decode cX7_reads 85 = .ok (.getfield 25, 3) := by decide +kernel
theorem dX7_reads_88 : decode cX7_reads 88 = .ok (.iload_n 1, 1) := by decide +kernel
theorem dX7_reads_89 : decode cX7_reads 89 = .ok (.iconst 3, 1) := by decide +kernel
theorem dX7_reads_90 : decode cX7_reads 90 = .ok (.iadd, 1) := by decide +kernel
theorem dX7_reads_91 : decode cX7_reads 91 = .ok (.iaload, 1) := by decide +kernel
theorem dX7_reads_92 : decode cX7_reads 92 = .ok (.iload 5, 2) := by decide +kernel
theorem dX7_reads_94 : decode cX7_reads 94 = .ok (.if_icmp .ne 7, 3) := by decide +kernel
theorem dX7_reads_97 : decode cX7_reads 97 = .ok (.iconst 1, 1) := by decide +kernel
theorem dX7_reads_98 : decode cX7_reads 98 = .ok (.goto 4, 3) := by decide +kernel
theorem dX7_reads_101 : decode cX7_reads 101 = .ok (.iconst 0, 1) := by decide +kernel
theorem dX7_reads_102 : decode cX7_reads 102 = .ok (.istore 8, 2) := by decide +kernel
theorem dX7_reads_104 : decode cX7_reads 104 = .ok (.iload 8, 2) := by decide +kernel
theorem dX7_reads_106 : decode cX7_reads 106 = .ok (.ifCond .eq 25, 3) := by decide +kernel
theorem dX7_reads_109 : decode cX7_reads 109 = .ok (.iload 6, 2) := by decide +kernel
theorem dX7_reads_111 : decode cX7_reads 111 = .ok (.ifCond .eq 16, 3) := by decide +kernel
theorem dX7_reads_114 : decode cX7_reads 114 = .ok (.aload_n 0, 1) := by decide +kernel
theorem dX7_reads_115 : decode cX7_reads 115 = .ok (.getfield 25, 3) := by decide +kernel
theorem dX7_reads_118 : decode cX7_reads 118 = .ok (.iload_n 1, 1) := by decide +kernel
theorem dX7_reads_119 : decode cX7_reads 119 = .ok (.iconst 4, 1) := by decide +kernel
theorem dX7_reads_120 : decode cX7_reads 120 = .ok (.iadd, 1) := by decide +kernel
theorem dX7_reads_121 : decode cX7_reads 121 = .ok (.iaload, 1) := by decide +kernel
theorem dX7_reads_122 : decode cX7_reads 122 = .ok (.iload 6, 2) := by decide +kernel
theorem dX7_reads_124 : decode cX7_reads 124 = .ok (.if_icmp .ne 7, 3) := by decide +kernel
theorem dX7_reads_127 : decode cX7_reads 127 = .ok (.iconst 1, 1) := by decide +kernel
theorem dX7_reads_128 : decode cX7_reads 128 = .ok (.goto 4, 3) := by decide +kernel
theorem dX7_reads_131 : decode cX7_reads 131 = .ok (.iconst 0, 1) := by decide +kernel
theorem dX7_reads_132 : decode cX7_reads 132 = .ok (.ireturn, 1) := by decide +kernel
set_option maxRecDepth 20000 in
theorem ggX7_word_X7_reads : GoodIn wsX7_word wsX7_reads := goodIn_r _ [7, 1, 2, 8, 9, 10, 11, 12, 13, 14, 15, 16, 17, 18, 19, 20, 21] (by decide +kernel) (by decide +kernel)
set_option maxRecDepth 20000 in
theorem gX7_word_X7_reads : GoodIn wsX7_word (wsV RX7 170 RX7 yX7_reads wsX7_reads) := goodIn_app (goodIn_of _ (by decide +kernel)) ggX7_word_X7_reads
theorem dX7_word_0 : decode cX7_word 0 = .ok (.aload_n 0, 1) := by decide +kernel
theorem dX7_word_1 : decode cX7_word 1 = .ok (.getfield 161, 3) := by decide +kernel
theorem dX7_word_4 : decode cX7_word 4 = .ok (.iload_n 1, 1) := by decide +kernel
theorem dX7_word_5 : decode cX7_word 5 = .ok (.isub, 1) := by decide +kernel
theorem dX7_word_6 : decode cX7_word 6 = .ok (.bipush 6, 2) := by decide +kernel
theorem dX7_word_8 : decode cX7_word 8 = .ok (.if_icmp .ne 95, 3) := by decide +kernel
theorem dX7_word_11 : decode cX7_word 11 = .ok (.aload_n 0, 1) := by decide +kernel
theorem dX7_word_12 : decode cX7_word 12 = .ok (.getfield 25, 3) := by decide +kernel
theorem dX7_word_15 : decode cX7_word 15 = .ok (.iload_n 1, 1) := by decide +kernel
theorem dX7_word_16 : decode cX7_word 16 = .ok (.iaload, 1) := by decide +kernel
theorem dX7_word_17 : decode cX7_word 17 = .ok (.bipush 99, 2) := by decide +kernel
theorem dX7_word_19 : decode cX7_word 19 = .ok (.if_icmp .ne 46, 3) := by decide +kernel
theorem dX7_word_22 : decode cX7_word 22 = .ok (.aload_n 0, 1) := by decide +kernel
theorem dX7_word_23 : decode cX7_word 23 = .ok (.getfield 25, 3) := by decide +kernel
theorem dX7_word_26 : decode cX7_word 26 = .ok (.iload_n 1, 1) := by decide +kernel
theorem dX7_word_27 : decode cX7_word 27 = .ok (.iconst 1, 1) := by decide +kernel
theorem dX7_word_28 : decode cX7_word 28 = .ok (.iadd, 1) := by decide +kernel
theorem dX7_word_29 : decode cX7_word 29 = .ok (.iaload, 1) := by decide +kernel
theorem dX7_word_30 : decode cX7_word 30 = .ok (.bipush 97, 2) := by decide +kernel
theorem dX7_word_32 : decode cX7_word 32 = .ok (.if_icmp .ne 33, 3) := by decide +kernel
theorem dX7_word_35 : decode cX7_word 35 = .ok (.aload_n 0, 1) := by decide +kernel
theorem dX7_word_36 : decode cX7_word 36 = .ok (.getfield 25, 3) := by decide +kernel
theorem dX7_word_39 : decode cX7_word 39 = .ok (.iload_n 1, 1) := by decide +kernel
theorem dX7_word_40 : decode cX7_word 40 = .ok (.iconst 2, 1) := by decide +kernel
theorem dX7_word_41 : decode cX7_word 41 = .ok (.iadd, 1) := by decide +kernel
theorem dX7_word_42 : decode cX7_word 42 = .ok (.iaload, 1) := by decide +kernel
theorem dX7_word_43 : decode cX7_word 43 = .ok (.bipush 110, 2) := by decide +kernel
theorem dX7_word_45 : decode cX7_word 45 = .ok (.if_icmp .ne 20, 3) := by decide +kernel
theorem dX7_word_48 : decode cX7_word 48 = .ok (.aload_n 0, 1) := by decide +kernel
theorem dX7_word_49 : decode cX7_word 49 = .ok (.getfield 25, 3) := by decide +kernel
theorem dX7_word_52 : decode cX7_word 52 = .ok (.iload_n 1, 1) := by decide +kernel
theorem dX7_word_53 : decode cX7_word 53 = .ok (.iconst 3, 1) := by decide +kernel
theorem dX7_word_54 : decode cX7_word 54 = .ok (.iadd, 1) := by decide +kernel
theorem dX7_word_55 : decode cX7_word 55 = .ok (.iaload, 1) := by decide +kernel
theorem dX7_word_56 : decode cX7_word 56 = .ok (.bipush 99, 2) := by decide +kernel
theorem dX7_word_58 : decode cX7_word 58 = .ok (.if_icmp .ne 7, 3) := by decide +kernel
theorem dX7_word_61 : decode cX7_word 61 = .ok (.iconst 1, 1) := by decide +kernel
theorem dX7_word_62 : decode cX7_word 62 = .ok (.goto 4, 3) := by decide +kernel
theorem dX7_word_65 : decode cX7_word 65 = .ok (.iconst 0, 1) := by decide +kernel
theorem dX7_word_66 : decode cX7_word 66 = .ok (.istore_n 2, 1) := by decide +kernel
theorem dX7_word_67 : decode cX7_word 67 = .ok (.iload_n 2, 1) := by decide +kernel
theorem dX7_word_68 : decode cX7_word 68 = .ok (.ifCond .eq 33, 3) := by decide +kernel
theorem dX7_word_71 : decode cX7_word 71 = .ok (.aload_n 0, 1) := by decide +kernel
theorem dX7_word_72 : decode cX7_word 72 = .ok (.getfield 25, 3) := by decide +kernel
theorem dX7_word_75 : decode cX7_word 75 = .ok (.iload_n 1, 1) := by decide +kernel
theorem dX7_word_76 : decode cX7_word 76 = .ok (.iconst 4, 1) := by decide +kernel
theorem dX7_word_77 : decode cX7_word 77 = .ok (.iadd, 1) := by decide +kernel
theorem dX7_word_78 : decode cX7_word 78 = .ok (.iaload, 1) := by decide +kernel
theorem dX7_word_79 : decode cX7_word 79 = .ok (.bipush 101, 2) := by decide +kernel
theorem dX7_word_81 : decode cX7_word 81 = .ok (.if_icmp .ne 20, 3) := by decide +kernel
theorem dX7_word_84 : decode cX7_word 84 = .ok (.aload_n 0, 1) := by decide +kernel
theorem dX7_word_85 : decode cX7_word 85 = .ok (.getfield 25, 3) := by decide +kernel
theorem dX7_word_88 : decode cX7_word 88 = .ok (.iload_n 1, 1) := by decide +kernel
theorem dX7_word_89 : decode cX7_word 89 = .ok (.iconst 5, 1) := by decide +kernel
theorem dX7_word_90 : decode cX7_word 90 = .ok (.iadd, 1) := by decide +kernel
theorem dX7_word_91 : decode cX7_word 91 = .ok (.iaload, 1) := by decide +kernel
theorem dX7_word_92 : decode cX7_word 92 = .ok (.bipush 108, 2) := by decide +kernel
theorem dX7_word_94 : decode cX7_word 94 = .ok (.if_icmp .ne 7, 3) := by decide +kernel
theorem dX7_word_97 : decode cX7_word 97 = .ok (.iconst 4, 1) := by decide +kernel
theorem dX7_word_98 : decode cX7_word 98 = .ok (.goto 4, 3) := by decide +kernel
theorem dX7_word_101 : decode cX7_word 101 = .ok (.iconst (-1), 1) := by decide +kernel
theorem dX7_word_102 : decode cX7_word 102 = .ok (.ireturn, 1) := by decide +kernel
theorem dX7_word_103 : decode cX7_word 103 = .ok (.aload_n 0, 1) := by decide +kernel
theorem dX7_word_104 : decode cX7_word 104 = .ok (.iload_n 1, 1) := by decide +kernel
theorem dX7_word_105 : decode cX7_word 105 = .ok (.bipush 112, 2) := by decide +kernel
theorem dX7_word_107 : decode cX7_word 107 = .ok (.bipush 117, 2) := by decide +kernel
theorem dX7_word_109 : decode cX7_word 109 = .ok (.bipush 116, 2) := by decide +kernel
theorem dX7_word_111 : decode cX7_word 111 = .ok (.iconst 0, 1) := by decide +kernel
theorem dX7_word_112 : decode cX7_word 112 = .ok (.iconst 0, 1) := by decide +kernel
theorem dX7_word_113 : decode cX7_word 113 = .ok (.invokevirtual 170, 3) := by decide +kernel
theorem dX7_word_116 : decode cX7_word 116 = .ok (.ifCond .eq 7, 3) := by decide +kernel
theorem dX7_word_119 : decode cX7_word 119 = .ok (.iconst 0, 1) := by decide +kernel
theorem dX7_word_120 : decode cX7_word 120 = .ok (.goto 179, 3) := by decide +kernel
theorem dX7_word_123 : decode cX7_word 123 = .ok (.aload_n 0, 1) := by decide +kernel
theorem dX7_word_124 : decode cX7_word 124 = .ok (.iload_n 1, 1) := by decide +kernel
theorem dX7_word_125 : decode cX7_word 125 = .ok (.bipush 97, 2) := by decide +kernel
theorem dX7_word_127 : decode cX7_word 127 = .ok (.bipush 100, 2) := by decide +kernel
theorem dX7_word_129 : decode cX7_word 129 = .ok (.bipush 100, 2) := by decide +kernel
theorem dX7_word_131 : decode cX7_word 131 = .ok (.iconst 0, 1) := by decide +kernel
theorem dX7_word_132 : decode cX7_word 132 = .ok (.iconst 0, 1) := by decide +kernel
theorem dX7_word_133 : decode cX7_word 133 = .ok (.invokevirtual 170, 3) := by decide +kernel
theorem dX7_word_136 : decode cX7_word 136 = .ok (.ifCond .eq 7, 3) := by decide +kernel
theorem dX7_word_139 : decode cX7_word 139 = .ok (.iconst 1, 1) := by decide +kernel
theorem dX7_word_140 : decode cX7_word 140 = .ok (.goto 159, 3) := by decide +kernel
theorem dX7_word_143 : decode cX7_word 143 = .ok (.aload_n 0, 1) := by decide +kernel
theorem dX7_word_144 : decode cX7_word 144 = .ok (.iload_n 1, 1) := by decide +kernel
theorem dX7_word_145 : decode cX7_word 145 = .ok (.bipush 99, 2) := by decide +kernel
theorem dX7_word_147 : decode cX7_word 147 = .ok (.bipush 111, 2) := by decide +kernel
theorem dX7_word_149 : decode cX7_word 149 = .ok (.bipush 112, 2) := by decide +kernel
theorem dX7_word_151 : decode cX7_word 151 = .ok (.bipush 121, 2) := by decide +kernel
theorem dX7_word_153 : decode cX7_word 153 = .ok (.iconst 0, 1) := by decide +kernel
theorem dX7_word_154 : decode cX7_word 154 = .ok (.invokevirtual 170, 3) := by decide +kernel
theorem dX7_word_157 : decode cX7_word 157 = .ok (.ifCond .eq 7, 3) := by decide +kernel
theorem dX7_word_160 : decode cX7_word 160 = .ok (.iconst 2, 1) := by decide +kernel
theorem dX7_word_161 : decode cX7_word 161 = .ok (.goto 138, 3) := by decide +kernel
theorem dX7_word_164 : decode cX7_word 164 = .ok (.aload_n 0, 1) := by decide +kernel
theorem dX7_word_165 : decode cX7_word 165 = .ok (.iload_n 1, 1) := by decide +kernel
theorem dX7_word_166 : decode cX7_word 166 = .ok (.bipush 102, 2) := by decide +kernel
theorem dX7_word_168 : decode cX7_word 168 = .ok (.bipush 101, 2) := by decide +kernel
theorem dX7_word_170 : decode cX7_word 170 = .ok (.bipush 110, 2) := by decide +kernel
theorem dX7_word_172 : decode cX7_word 172 = .ok (.bipush 99, 2) := by decide +kernel
theorem dX7_word_174 : decode cX7_word 174 = .ok (.bipush 101, 2) := by decide +kernel
theorem dX7_word_176 : decode cX7_word 176 = .ok (.invokevirtual 170, 3) := by decide +kernel
theorem dX7_word_179 : decode cX7_word 179 = .ok (.ifCond .eq 7, 3) := by decide +kernel
theorem dX7_word_182 : decode cX7_word 182 = .ok (.iconst 3, 1) := by decide +kernel
theorem dX7_word_183 : decode cX7_word 183 = .ok (.goto 116, 3) := by decide +kernel
theorem dX7_word_186 : decode cX7_word 186 = .ok (.aload_n 0, 1) := by decide +kernel
theorem dX7_word_187 : decode cX7_word 187 = .ok (.iload_n 1, 1) := by decide +kernel
theorem dX7_word_188 : decode cX7_word 188 = .ok (.bipush 119, 2) := by decide +kernel
theorem dX7_word_190 : decode cX7_word 190 = .ok (.bipush 97, 2) := by decide +kernel
theorem dX7_word_192 : decode cX7_word 192 = .ok (.bipush 107, 2) := by decide +kernel
theorem dX7_word_194 : decode cX7_word 194 = .ok (.bipush 101, 2) := by decide +kernel
theorem dX7_word_196 : decode cX7_word 196 = .ok (.iconst 0, 1) := by decide +kernel
theorem dX7_word_197 : decode cX7_word 197 = .ok (.invokevirtual 170, 3) := by decide +kernel
theorem dX7_word_200 : decode cX7_word 200 = .ok (.ifCond .eq 7, 3) := by decide +kernel
theorem dX7_word_203 : decode cX7_word 203 = .ok (.iconst 5, 1) := by decide +kernel
theorem dX7_word_204 : decode cX7_word 204 = .ok (.goto 95, 3) := by decide +kernel
theorem dX7_word_207 : decode cX7_word 207 = .ok (.aload_n 0, 1) := by decide +kernel
theorem dX7_word_208 : decode cX7_word 208 = .ok (.iload_n 1, 1) := by decide +kernel
theorem dX7_word_209 : decode cX7_word 209 = .ok (.bipush 115, 2) := by decide +kernel
theorem dX7_word_211 : decode cX7_word 211 = .ok (.bipush 108, 2) := by decide +kernel
theorem dX7_word_213 : decode cX7_word 213 = .ok (.bipush 101, 2) := by decide +kernel
theorem dX7_word_215 : decode cX7_word 215 = .ok (.bipush 101, 2) := by decide +kernel
theorem dX7_word_217 : decode cX7_word 217 = .ok (.bipush 112, 2) := by decide +kernel
theorem dX7_word_219 : decode cX7_word 219 = .ok (.invokevirtual 170, 3) := by decide +kernel
theorem dX7_word_222 : decode cX7_word 222 = .ok (.ifCond .eq 8, 3) := by decide +kernel
theorem dX7_word_225 : decode cX7_word 225 = .ok (.bipush 6, 2) := by decide +kernel
theorem dX7_word_227 : decode cX7_word 227 = .ok (.goto 72, 3) := by decide +kernel
theorem dX7_word_230 : decode cX7_word 230 = .ok (.aload_n 0, 1) := by decide +kernel
theorem dX7_word_231 : decode cX7_word 231 = .ok (.iload_n 1, 1) := by decide +kernel
theorem dX7_word_232 : decode cX7_word 232 = .ok (.bipush 119, 2) := by decide +kernel
theorem dX7_word_234 : decode cX7_word 234 = .ok (.bipush 111, 2) := by decide +kernel
theorem dX7_word_236 : decode cX7_word 236 = .ok (.bipush 114, 2) := by decide +kernel
theorem dX7_word_238 : decode cX7_word 238 = .ok (.bipush 107, 2) := by decide +kernel
theorem dX7_word_240 : decode cX7_word 240 = .ok (.iconst 0, 1) := by decide +kernel
theorem dX7_word_241 : decode cX7_word 241 = .ok (.invokevirtual 170, 3) := by decide +kernel
theorem dX7_word_244 : decode cX7_word 244 = .ok (.ifCond .eq 8, 3) := by decide +kernel
theorem dX7_word_247 : decode cX7_word 247 = .ok (.bipush 7, 2) := by decide +kernel
theorem dX7_word_249 : decode cX7_word 249 = .ok (.goto 50, 3) := by decide +kernel
theorem dX7_word_252 : decode cX7_word 252 = .ok (.aload_n 0, 1) := by decide +kernel
theorem dX7_word_253 : decode cX7_word 253 = .ok (.iload_n 1, 1) := by decide +kernel
theorem dX7_word_254 : decode cX7_word 254 = .ok (.bipush 100, 2) := by decide +kernel
theorem dX7_word_256 : decode cX7_word 256 = .ok (.bipush 101, 2) := by decide +kernel
theorem dX7_word_258 : decode cX7_word 258 = .ok (.bipush 108, 2) := by decide +kernel
theorem dX7_word_260 : decode cX7_word 260 = .ok (.bipush 97, 2) := by decide +kernel
theorem dX7_word_262 : decode cX7_word 262 = .ok (.bipush 121, 2) := by decide +kernel
theorem dX7_word_264 : decode cX7_word 264 = .ok (.invokevirtual 170, 3) := by decide +kernel
theorem dX7_word_267 : decode cX7_word 267 = .ok (.ifCond .eq 8, 3) := by decide +kernel
theorem dX7_word_270 : decode cX7_word 270 = .ok (.bipush 8, 2) := by decide +kernel
theorem dX7_word_272 : decode cX7_word 272 = .ok (.goto 27, 3) := by decide +kernel
theorem dX7_word_275 : decode cX7_word 275 = .ok (.aload_n 0, 1) := by decide +kernel
theorem dX7_word_276 : decode cX7_word 276 = .ok (.iload_n 1, 1) := by decide +kernel
theorem dX7_word_277 : decode cX7_word 277 = .ok (.bipush 116, 2) := by decide +kernel
theorem dX7_word_279 : decode cX7_word 279 = .ok (.bipush 105, 2) := by decide +kernel
theorem dX7_word_281 : decode cX7_word 281 = .ok (.bipush 99, 2) := by decide +kernel
theorem dX7_word_283 : decode cX7_word 283 = .ok (.bipush 107, 2) := by decide +kernel
theorem dX7_word_285 : decode cX7_word 285 = .ok (.bipush 115, 2) := by decide +kernel
theorem dX7_word_287 : decode cX7_word 287 = .ok (.invokevirtual 170, 3) := by decide +kernel
theorem dX7_word_290 : decode cX7_word 290 = .ok (.ifCond .eq 8, 3) := by decide +kernel
theorem dX7_word_293 : decode cX7_word 293 = .ok (.bipush 9, 2) := by decide +kernel
theorem dX7_word_295 : decode cX7_word 295 = .ok (.goto 4, 3) := by decide +kernel
theorem dX7_word_298 : decode cX7_word 298 = .ok (.iconst (-1), 1) := by decide +kernel
theorem dX7_word_299 : decode cX7_word 299 = .ok (.ireturn, 1) := by decide +kernel
theorem dX7_numbersOf_0 : decode cX7_numbersOf 0 = .ok (.iload_n 0, 1) := by decide +kernel
theorem dX7_numbersOf_1 : decode cX7_numbersOf 1 = .ok (.iconst 3, 1) := by decide +kernel
theorem dX7_numbersOf_2 : decode cX7_numbersOf 2 = .ok (.if_icmp .ge 7, 3) := by decide +kernel
theorem dX7_numbersOf_5 : decode cX7_numbersOf 5 = .ok (.iconst 4, 1) := by decide +kernel
theorem dX7_numbersOf_6 : decode cX7_numbersOf 6 = .ok (.goto 25, 3) := by decide +kernel
theorem dX7_numbersOf_9 : decode cX7_numbersOf 9 = .ok (.iload_n 0, 1) := by decide +kernel
theorem dX7_numbersOf_10 : decode cX7_numbersOf 10 = .ok (.iconst 5, 1) := by decide +kernel
theorem dX7_numbersOf_11 : decode cX7_numbersOf 11 = .ok (.if_icmp .eq 15, 3) := by decide +kernel
theorem dX7_numbersOf_14 : decode cX7_numbersOf 14 = .ok (.iload_n 0, 1) := by decide +kernel
theorem dX7_numbersOf_15 : decode cX7_numbersOf 15 = .ok (.bipush 6, 2) := by decide +kernel
theorem dX7_numbersOf_17 : decode cX7_numbersOf 17 = .ok (.if_icmp .eq 9, 3) := by decide +kernel
theorem dX7_numbersOf_20 : decode cX7_numbersOf 20 = .ok (.iload_n 0, 1) := by decide +kernel
theorem dX7_numbersOf_21 : decode cX7_numbersOf 21 = .ok (.bipush 9, 2) := by decide +kernel
theorem dX7_numbersOf_23 : decode cX7_numbersOf 23 = .ok (.if_icmp .ne 7, 3) := by decide +kernel
theorem dX7_numbersOf_26 : decode cX7_numbersOf 26 = .ok (.iconst 1, 1) := by decide +kernel
theorem dX7_numbersOf_27 : decode cX7_numbersOf 27 = .ok (.goto 4, 3) := by decide +kernel
theorem dX7_numbersOf_30 : decode cX7_numbersOf 30 = .ok (.iconst 2, 1) := by decide +kernel
theorem dX7_numbersOf_31 : decode cX7_numbersOf 31 = .ok (.ireturn, 1) := by decide +kernel
set_option maxRecDepth 20000 in
theorem ggX7_number_X7_here : GoodIn wsX7_number wsX7_here := goodIn_r _ [7, 1, 8, 9, 22, 23, 24, 25, 26, 27, 28, 29, 30, 31, 32, 33, 34, 35] (by decide +kernel) (by decide +kernel)
set_option maxRecDepth 20000 in
theorem gX7_number_X7_here : GoodIn wsX7_number (wsV RX7 164 RX7 yX7_here wsX7_here) := goodIn_app (goodIn_of _ (by decide +kernel)) ggX7_number_X7_here
set_option maxRecDepth 20000 in
theorem ggX7_number_X7_fails : GoodIn wsX7_number wsX7_fails := goodIn_r _ [13, 14, 22, 23, 24, 25, 26, 27, 28, 29, 30, 31, 32, 33, 34, 35] (by decide +kernel) (by decide +kernel)
set_option maxRecDepth 20000 in
theorem gX7_number_X7_fails : GoodIn wsX7_number (wsV RX7 174 RX7 yX7_fails wsX7_fails) := goodIn_app (goodIn_of _ (by decide +kernel)) ggX7_number_X7_fails
set_option maxRecDepth 20000 in
theorem ggX7_number_X7_skips : GoodIn wsX7_number wsX7_skips := goodIn_r _ [18, 1, 3, 4, 5, 6, 7, 8, 9, 22, 23, 24, 25, 26, 27, 28, 29, 30, 31, 32, 33, 34, 35] (by decide +kernel) (by decide +kernel)
set_option maxRecDepth 20000 in
theorem gX7_number_X7_skips : GoodIn wsX7_number (wsV RX7 177 RX7 yX7_skips wsX7_skips) := goodIn_app (goodIn_of _ (by decide +kernel)) ggX7_number_X7_skips
set_option maxRecDepth 20000 in
theorem ggX7_number_X7_within : GoodIn wsX7_number wsX7_within := goodIn_r _ [21] (by decide +kernel) (by decide +kernel)
set_option maxRecDepth 20000 in
theorem gX7_number_X7_within : GoodIn wsX7_number (va_wsS RX7 46 yX7_within wsX7_within) := goodIn_app (goodIn_of _ (by decide +kernel)) ggX7_number_X7_within
theorem dX7_number_0 : decode cX7_number 0 = .ok (.aload_n 0, 1) := by decide +kernel
theorem dX7_number_1 : decode cX7_number 1 = .ok (.invokevirtual 164, 3) := by decide +kernel
theorem dX7_number_4 : decode cX7_number 4 = .ok (.bipush 32, 2) := by decide +kernel
theorem dX7_number_6 : decode cX7_number 6 = .ok (.if_icmp .eq 12, 3) := by decide +kernel
theorem dX7_number_9 : decode cX7_number 9 = .ok (.aload_n 0, 1) := by decide +kernel
theorem dX7_number_10 : decode cX7_number 10 = .ok (.aload_n 0, 1) := by decide +kernel
theorem dX7_number_11 : decode cX7_number 11 = .ok (.getfield 161, 3) := by decide +kernel
theorem dX7_number_14 : decode cX7_number 14 = .ok (.invokevirtual 174, 3) := by decide +kernel
theorem dX7_number_17 : decode cX7_number 17 = .ok (.ireturn, 1) := by decide +kernel
theorem dX7_number_18 : decode cX7_number 18 = .ok (.aload_n 0, 1) := by decide +kernel
theorem dX7_number_19 : decode cX7_number 19 = .ok (.invokevirtual 177, 3) := by decide +kernel
theorem dX7_number_22 : decode cX7_number 22 = .ok (.aload_n 0, 1) := by decide +kernel
theorem dX7_number_23 : decode cX7_number 23 = .ok (.getfield 161, 3) := by decide +kernel
theorem dX7_number_26 : decode cX7_number 26 = .ok (.istore_n 2, 1) := by decide +kernel
theorem dX7_number_27 : decode cX7_number 27 = .ok (.aload_n 0, 1) := by decide +kernel
theorem dX7_number_28 : decode cX7_number 28 = .ok (.getfield 28, 3) := by decide +kernel
theorem dX7_number_31 : decode cX7_number 31 = .ok (.iload_n 1, 1) := by decide +kernel
theorem dX7_number_32 : decode cX7_number 32 = .ok (.iconst 0, 1) := by decide +kernel
theorem dX7_number_33 : decode cX7_number 33 = .ok (.iastore, 1) := by decide +kernel
theorem dX7_number_34 : decode cX7_number 34 = .ok (.aload_n 0, 1) := by decide +kernel
theorem dX7_number_35 : decode cX7_number 35 = .ok (.invokevirtual 164, 3) := by decide +kernel
theorem dX7_number_38 : decode cX7_number 38 = .ok (.bipush 48, 2) := by decide +kernel
theorem dX7_number_40 : decode cX7_number 40 = .ok (.bipush 57, 2) := by decide +kernel
theorem dX7_number_42 : decode cX7_number 42 = .ok (.invokestatic 46, 3) := by decide +kernel
theorem dX7_number_45 : decode cX7_number 45 = .ok (.ifCond .eq 58, 3) := by decide +kernel
theorem dX7_number_48 : decode cX7_number 48 = .ok (.aload_n 0, 1) := by decide +kernel
theorem dX7_number_49 : decode cX7_number 49 = .ok (.getfield 161, 3) := by decide +kernel
theorem dX7_number_52 : decode cX7_number 52 = .ok (.iload_n 2, 1) := by decide +kernel
theorem dX7_number_53 : decode cX7_number 53 = .ok (.isub, 1) := by decide +kernel
theorem dX7_number_54 : decode cX7_number 54 = .ok (.iconst 3, 1) := by decide +kernel
theorem dX7_number_55 : decode cX7_number 55 = .ok (.if_icmp .ne 12, 3) := by decide +kernel
theorem dX7_number_58 : decode cX7_number 58 = .ok (.aload_n 0, 1) := by decide +kernel
theorem dX7_number_59 : decode cX7_number 59 = .ok (.aload_n 0, 1) := by decide +kernel
theorem dX7_number_60 : decode cX7_number 60 = .ok (.getfield 161, 3) := by decide +kernel
theorem dX7_number_63 : decode cX7_number 63 = .ok (.invokevirtual 174, 3) := by decide +kernel
theorem dX7_number_66 : decode cX7_number 66 = .ok (.ireturn, 1) := by decide +kernel
theorem dX7_number_67 : decode cX7_number 67 = .ok (.aload_n 0, 1) := by decide +kernel
theorem dX7_number_68 : decode cX7_number 68 = .ok (.getfield 28, 3) := by decide +kernel
theorem dX7_number_71 : decode cX7_number 71 = .ok (.iload_n 1, 1) := by decide +kernel
theorem dX7_number_72 : decode cX7_number 72 = .ok (.bipush 10, 2) := by decide +kernel
theorem dX7_number_74 : decode cX7_number 74 = .ok (.aload_n 0, 1) := by decide +kernel
theorem dX7_number_75 : decode cX7_number 75 = .ok (.getfield 28, 3) := by decide +kernel
theorem dX7_number_78 : decode cX7_number 78 = .ok (.iload_n 1, 1) := by decide +kernel
theorem dX7_number_79 : decode cX7_number 79 = .ok (.iaload, 1) := by decide +kernel
theorem dX7_number_80 : decode cX7_number 80 = .ok (.imul, 1) := by decide +kernel
theorem dX7_number_81 : decode cX7_number 81 = .ok (.aload_n 0, 1) := by decide +kernel
theorem dX7_number_82 : decode cX7_number 82 = .ok (.invokevirtual 164, 3) := by decide +kernel
theorem dX7_number_85 : decode cX7_number 85 = .ok (.iadd, 1) := by decide +kernel
theorem dX7_number_86 : decode cX7_number 86 = .ok (.bipush 48, 2) := by decide +kernel
theorem dX7_number_88 : decode cX7_number 88 = .ok (.isub, 1) := by decide +kernel
theorem dX7_number_89 : decode cX7_number 89 = .ok (.iastore, 1) := by decide +kernel
theorem dX7_number_90 : decode cX7_number 90 = .ok (.aload_n 0, 1) := by decide +kernel
theorem dX7_number_91 : decode cX7_number 91 = .ok (.dup, 1) := by decide +kernel
theorem dX7_number_92 : decode cX7_number 92 = .ok (.getfield 161, 3) := by decide +kernel
theorem dX7_number_95 : decode cX7_number 95 = .ok (.iconst 1, 1) := by decide +kernel
theorem dX7_number_96 : decode cX7_number 96 = .ok (.iadd, 1) := by decide +kernel
theorem dX7_number_97 : decode cX7_number 97 = .ok (.putfield 161, 3) := by decide +kernel
theorem dX7_number_100 : decode cX7_number 100 = .ok (.goto (-66), 3) := by decide +kernel
theorem dX7_number_103 : decode cX7_number 103 = .ok (.aload_n 0, 1) := by decide +kernel
theorem dX7_number_104 : decode cX7_number 104 = .ok (.getfield 161, 3) := by decide +kernel
theorem dX7_number_107 : decode cX7_number 107 = .ok (.iload_n 2, 1) := by decide +kernel
theorem dX7_number_108 : decode cX7_number 108 = .ok (.if_icmp .gt 14, 3) := by decide +kernel
theorem dX7_number_111 : decode cX7_number 111 = .ok (.aload_n 0, 1) := by decide +kernel
theorem dX7_number_112 : decode cX7_number 112 = .ok (.aload_n 0, 1) := by decide +kernel
theorem dX7_number_113 : decode cX7_number 113 = .ok (.getfield 161, 3) := by decide +kernel
theorem dX7_number_116 : decode cX7_number 116 = .ok (.invokevirtual 174, 3) := by decide +kernel
theorem dX7_number_119 : decode cX7_number 119 = .ok (.ifCond .eq 7, 3) := by decide +kernel
theorem dX7_number_122 : decode cX7_number 122 = .ok (.iconst 1, 1) := by decide +kernel
theorem dX7_number_123 : decode cX7_number 123 = .ok (.goto 4, 3) := by decide +kernel
theorem dX7_number_126 : decode cX7_number 126 = .ok (.iconst 0, 1) := by decide +kernel
theorem dX7_number_127 : decode cX7_number 127 = .ok (.ireturn, 1) := by decide +kernel
set_option maxRecDepth 20000 in
theorem ggX7_readsCommand_X7_here : GoodIn wsX7_readsCommand wsX7_here := goodIn_r _ [7, 1, 8, 9, 38, 39, 40, 41, 42, 43, 44, 45, 46, 47, 48, 49, 50, 51] (by decide +kernel) (by decide +kernel)
set_option maxRecDepth 20000 in
theorem gX7_readsCommand_X7_here : GoodIn wsX7_readsCommand (wsV RX7 164 RX7 yX7_here wsX7_here) := goodIn_app (goodIn_of _ (by decide +kernel)) ggX7_readsCommand_X7_here
set_option maxRecDepth 20000 in
theorem ggX7_readsCommand_X7_within : GoodIn wsX7_readsCommand wsX7_within := goodIn_r _ [12] (by decide +kernel) (by decide +kernel)
set_option maxRecDepth 20000 in
theorem gX7_readsCommand_X7_within : GoodIn wsX7_readsCommand (va_wsS RX7 46 yX7_within wsX7_within) := goodIn_app (goodIn_of _ (by decide +kernel)) ggX7_readsCommand_X7_within
set_option maxRecDepth 20000 in
theorem ggX7_readsCommand_X7_word : GoodIn wsX7_readsCommand wsX7_word := goodIn_r _ [16, 1, 9, 17, 18, 19, 6, 20, 38, 39, 40, 41, 42, 43, 44, 45, 46, 47, 48, 49, 50, 51] (by decide +kernel) (by decide +kernel)
set_option maxRecDepth 20000 in
theorem gX7_readsCommand_X7_word : GoodIn wsX7_readsCommand (wsV RX7 180 RX7 yX7_word wsX7_word) := goodIn_app (goodIn_of _ (by decide +kernel)) ggX7_readsCommand_X7_word
set_option maxRecDepth 20000 in
theorem ggX7_readsCommand_X7_fails : GoodIn wsX7_readsCommand wsX7_fails := goodIn_r _ [24, 25, 38, 39, 40, 41, 42, 43, 44, 45, 46, 47, 48, 49, 50, 51] (by decide +kernel) (by decide +kernel)
set_option maxRecDepth 20000 in
theorem gX7_readsCommand_X7_fails : GoodIn wsX7_readsCommand (wsV RX7 174 RX7 yX7_fails wsX7_fails) := goodIn_app (goodIn_of _ (by decide +kernel)) ggX7_readsCommand_X7_fails
set_option maxRecDepth 20000 in
theorem ggX7_readsCommand_X7_numbersOf : GoodIn wsX7_readsCommand wsX7_numbersOf := goodIn_r _ [28] (by decide +kernel) (by decide +kernel)
set_option maxRecDepth 20000 in
theorem gX7_readsCommand_X7_numbersOf : GoodIn wsX7_readsCommand (va_wsS RX7 186 yX7_numbersOf wsX7_numbersOf) := goodIn_app (goodIn_of _ (by decide +kernel)) ggX7_readsCommand_X7_numbersOf
set_option maxRecDepth 20000 in
theorem ggX7_readsCommand_X7_number : GoodIn wsX7_readsCommand wsX7_number := goodIn_r _ [32, 1, 33, 3, 4, 5, 6, 7, 8, 9, 21, 22, 23, 24, 25, 34, 35, 36, 37, 10, 11, 12, 38, 39, 40, 41, 42, 43, 44, 45, 46, 47, 48, 49, 50, 51] (by decide +kernel) (by decide +kernel)
set_option maxRecDepth 20000 in
theorem gX7_readsCommand_X7_number : GoodIn wsX7_readsCommand (wsV RX7 189 RX7 yX7_number wsX7_number) := goodIn_app (goodIn_of _ (by decide +kernel)) ggX7_readsCommand_X7_number
set_option maxRecDepth 20000 in
theorem ggX7_readsCommand_X7_skips : GoodIn wsX7_readsCommand wsX7_skips := goodIn_r _ [37, 1, 3, 4, 5, 6, 7, 8, 9, 38, 39, 40, 41, 42, 43, 44, 45, 46, 47, 48, 49, 50, 51] (by decide +kernel) (by decide +kernel)
set_option maxRecDepth 20000 in
theorem gX7_readsCommand_X7_skips : GoodIn wsX7_readsCommand (wsV RX7 177 RX7 yX7_skips wsX7_skips) := goodIn_app (goodIn_of _ (by decide +kernel)) ggX7_readsCommand_X7_skips
theorem dX7_readsCommand_0 : decode cX7_readsCommand 0 = .ok (.aload_n 0, 1) := by decide +kernel
theorem dX7_readsCommand_1 : decode cX7_readsCommand 1 = .ok (.getfield 161, 3) := by decide +kernel
theorem dX7_readsCommand_4 : decode cX7_readsCommand 4 = .ok (.istore_n 1, 1) := by decide +kernel
theorem dX7_readsCommand_5 : decode cX7_readsCommand 5 = .ok (.aload_n 0, 1) := by decide +kernel
theorem dX7_readsCommand_6 : decode cX7_readsCommand 6 = .ok (.invokevirtual 164, 3) := by decide +kernel
theorem dX7_readsCommand_9 : decode cX7_readsCommand 9 = .ok (.bipush 97, 2) := by decide +kernel
theorem dX7_readsCommand_11 : decode cX7_readsCommand 11 = .ok (.bipush 122, 2) := by decide +kernel
theorem dX7_readsCommand_13 : decode cX7_readsCommand 13 = .ok (.invokestatic 46, 3) := by decide +kernel
theorem dX7_readsCommand_16 : decode cX7_readsCommand 16 = .ok (.ifCond .eq 16, 3) := by decide +kernel
theorem dX7_readsCommand_19 : decode cX7_readsCommand 19 = .ok (.aload_n 0, 1) := by decide +kernel
theorem dX7_readsCommand_20 : decode cX7_readsCommand 20 = .ok (.dup, 1) := by decide +kernel
theorem dX7_readsCommand_21 : decode cX7_readsCommand 21 = .ok (.getfield 161, 3) := by decide +kernel
theorem dX7_readsCommand_24 : decode cX7_readsCommand 24 = .ok (.iconst 1, 1) := by decide +kernel
theorem dX7_readsCommand_25 : decode cX7_readsCommand 25 = .ok (.iadd, 1) := by decide +kernel
theorem dX7_readsCommand_26 : decode cX7_readsCommand 26 = .ok (.putfield 161, 3) := by decide +kernel
theorem dX7_readsCommand_29 : decode cX7_readsCommand 29 = .ok (.goto (-24), 3) := by decide +kernel
theorem dX7_readsCommand_32 : decode cX7_readsCommand 32 = .ok (.aload_n 0, 1) := by decide +kernel
theorem dX7_readsCommand_33 : decode cX7_readsCommand 33 = .ok (.aload_n 0, 1) := by decide +kernel
theorem dX7_readsCommand_34 : decode cX7_readsCommand 34 = .ok (.iload_n 1, 1) := by decide +kernel
theorem dX7_readsCommand_35 : decode cX7_readsCommand 35 = .ok (.invokevirtual 180, 3) := by decide +kernel
theorem dX7_readsCommand_38 : decode cX7_readsCommand 38 = .ok (.putfield 183, 3) := by decide +kernel
theorem dX7_readsCommand_41 : decode cX7_readsCommand 41 = .ok (.aload_n 0, 1) := by decide +kernel
theorem dX7_readsCommand_42 : decode cX7_readsCommand 42 = .ok (.getfield 183, 3) := by decide +kernel
theorem dX7_readsCommand_45 : decode cX7_readsCommand 45 = .ok (.iconst (-1), 1) := by decide +kernel
theorem dX7_readsCommand_46 : decode cX7_readsCommand 46 = .ok (.if_icmp .ne 9, 3) := by decide +kernel
theorem dX7_readsCommand_49 : decode cX7_readsCommand 49 = .ok (.aload_n 0, 1) := by decide +kernel
theorem dX7_readsCommand_50 : decode cX7_readsCommand 50 = .ok (.iload_n 1, 1) := by decide +kernel
theorem dX7_readsCommand_51 : decode cX7_readsCommand 51 = .ok (.invokevirtual 174, 3) := by decide +kernel
theorem dX7_readsCommand_54 : decode cX7_readsCommand 54 = .ok (.ireturn, 1) := by decide +kernel
theorem dX7_readsCommand_55 : decode cX7_readsCommand 55 = .ok (.iconst 0, 1) := by decide +kernel
theorem dX7_readsCommand_56 : decode cX7_readsCommand 56 = .ok (.istore_n 2, 1) := by decide +kernel
theorem dX7_readsCommand_57 : decode cX7_readsCommand 57 = .ok (.iload_n 2, 1) := by decide +kernel
theorem dX7_readsCommand_58 : decode cX7_readsCommand 58 = .ok (.aload_n 0, 1) := by decide +kernel
theorem dX7_readsCommand_59 : decode cX7_readsCommand 59 = .ok (.getfield 183, 3) := by decide +kernel
theorem dX7_readsCommand_62 : decode cX7_readsCommand 62 = .ok (.invokestatic 186, 3) := by decide +kernel
theorem dX7_readsCommand_65 : decode cX7_readsCommand 65 = .ok (.if_icmp .ge 19, 3) := by decide +kernel
theorem dX7_readsCommand_68 : decode cX7_readsCommand 68 = .ok (.aload_n 0, 1) := by decide +kernel
theorem dX7_readsCommand_69 : decode cX7_readsCommand 69 = .ok (.iload_n 2, 1) := by decide +kernel
theorem dX7_readsCommand_70 : decode cX7_readsCommand 70 = .ok (.invokevirtual 189, 3) := by decide +kernel
theorem dX7_readsCommand_73 : decode cX7_readsCommand 73 = .ok (.ifCond .ne 5, 3) := by decide +kernel
theorem dX7_readsCommand_76 : decode cX7_readsCommand 76 = .ok (.iconst 0, 1) := by decide +kernel
theorem dX7_readsCommand_77 : decode cX7_readsCommand 77 = .ok (.ireturn, 1) := by decide +kernel
theorem dX7_readsCommand_78 : decode cX7_readsCommand 78 = .ok (.iinc 2 1, 3) := by decide +kernel
theorem dX7_readsCommand_81 : decode cX7_readsCommand 81 = .ok (.goto (-24), 3) := by decide +kernel
theorem dX7_readsCommand_84 : decode cX7_readsCommand 84 = .ok (.aload_n 0, 1) := by decide +kernel
theorem dX7_readsCommand_85 : decode cX7_readsCommand 85 = .ok (.invokevirtual 177, 3) := by decide +kernel
theorem dX7_readsCommand_88 : decode cX7_readsCommand 88 = .ok (.aload_n 0, 1) := by decide +kernel
theorem dX7_readsCommand_89 : decode cX7_readsCommand 89 = .ok (.invokevirtual 164, 3) := by decide +kernel
theorem dX7_readsCommand_92 : decode cX7_readsCommand 92 = .ok (.bipush 59, 2) := by decide +kernel
theorem dX7_readsCommand_94 : decode cX7_readsCommand 94 = .ok (.if_icmp .eq 12, 3) := by decide +kernel
theorem dX7_readsCommand_97 : decode cX7_readsCommand 97 = .ok (.aload_n 0, 1) := by decide +kernel
theorem dX7_readsCommand_98 : decode cX7_readsCommand 98 = .ok (.aload_n 0, 1) := by decide +kernel
theorem dX7_readsCommand_99 : decode cX7_readsCommand 99 = .ok (.getfield 161, 3) := by decide +kernel
theorem dX7_readsCommand_102 : decode cX7_readsCommand 102 = .ok (.invokevirtual 174, 3) := by decide +kernel
theorem dX7_readsCommand_105 : decode cX7_readsCommand 105 = .ok (.ireturn, 1) := by decide +kernel
theorem dX7_readsCommand_106 : decode cX7_readsCommand 106 = .ok (.aload_n 0, 1) := by decide +kernel
theorem dX7_readsCommand_107 : decode cX7_readsCommand 107 = .ok (.dup, 1) := by decide +kernel
theorem dX7_readsCommand_108 : decode cX7_readsCommand 108 = .ok (.getfield 161, 3) := by decide +kernel
theorem dX7_readsCommand_111 : decode cX7_readsCommand 111 = .ok (.iconst 1, 1) := by decide +kernel
theorem dX7_readsCommand_112 : decode cX7_readsCommand 112 = .ok (.iadd, 1) := by decide +kernel
theorem dX7_readsCommand_113 : decode cX7_readsCommand 113 = .ok (.putfield 161, 3) := by decide +kernel
theorem dX7_readsCommand_116 : decode cX7_readsCommand 116 = .ok (.iconst 1, 1) := by decide +kernel
theorem dX7_readsCommand_117 : decode cX7_readsCommand 117 = .ok (.ireturn, 1) := by decide +kernel
set_option maxRecDepth 20000 in
theorem ggX7_findsFault_X7_skips : GoodIn wsX7_findsFault wsX7_skips := goodIn_r _ [8, 1, 9, 10, 11, 7, 12, 3, 13, 42, 43, 44, 45, 46, 47, 48, 49, 50, 51, 52, 53, 54, 55] (by decide +kernel) (by decide +kernel)
set_option maxRecDepth 20000 in
theorem gX7_findsFault_X7_skips : GoodIn wsX7_findsFault (wsV RX7 177 RX7 yX7_skips wsX7_skips) := goodIn_app (goodIn_of _ (by decide +kernel)) ggX7_findsFault_X7_skips
set_option maxRecDepth 20000 in
theorem ggX7_findsFault_X7_readsCommand : GoodIn wsX7_findsFault wsX7_readsCommand := goodIn_r _ [17, 1, 18, 9, 10, 11, 7, 12, 3, 13, 19, 20, 21, 22, 23, 24, 25, 26, 27, 28, 29, 30, 31, 32, 33, 2, 34, 35, 36, 37, 38, 39, 40, 41, 4, 5, 6, 8, 42, 43, 44, 45, 46, 47, 48, 49, 50, 51, 52, 53, 54, 55] (by decide +kernel) (by decide +kernel)
set_option maxRecDepth 20000 in
theorem gX7_findsFault_X7_readsCommand : GoodIn wsX7_findsFault (wsV RX7 192 RX7 yX7_readsCommand wsX7_readsCommand) := goodIn_app (goodIn_of _ (by decide +kernel)) ggX7_findsFault_X7_readsCommand
theorem dX7_findsFault_0 : decode cX7_findsFault 0 = .ok (.aload_n 0, 1) := by decide +kernel
theorem dX7_findsFault_1 : decode cX7_findsFault 1 = .ok (.iconst 0, 1) := by decide +kernel
theorem dX7_findsFault_2 : decode cX7_findsFault 2 = .ok (.putfield 161, 3) := by decide +kernel
theorem dX7_findsFault_5 : decode cX7_findsFault 5 = .ok (.aload_n 0, 1) := by decide +kernel
theorem dX7_findsFault_6 : decode cX7_findsFault 6 = .ok (.iconst (-1), 1) := by decide +kernel
theorem dX7_findsFault_7 : decode cX7_findsFault 7 = .ok (.putfield 167, 3) := by decide +kernel
theorem dX7_findsFault_10 : decode cX7_findsFault 10 = .ok (.aload_n 0, 1) := by decide +kernel
theorem dX7_findsFault_11 : decode cX7_findsFault 11 = .ok (.invokevirtual 177, 3) := by decide +kernel
theorem dX7_findsFault_14 : decode cX7_findsFault 14 = .ok (.aload_n 0, 1) := by decide +kernel
theorem dX7_findsFault_15 : decode cX7_findsFault 15 = .ok (.getfield 161, 3) := by decide +kernel
theorem dX7_findsFault_18 : decode cX7_findsFault 18 = .ok (.aload_n 0, 1) := by decide +kernel
theorem dX7_findsFault_19 : decode cX7_findsFault 19 = .ok (.getfield 149, 3) := by decide +kernel
theorem dX7_findsFault_22 : decode cX7_findsFault 22 = .ok (.if_icmp .ge 17, 3) := by decide +kernel
theorem dX7_findsFault_25 : decode cX7_findsFault 25 = .ok (.aload_n 0, 1) := by decide +kernel
theorem dX7_findsFault_26 : decode cX7_findsFault 26 = .ok (.invokevirtual 192, 3) := by decide +kernel
theorem dX7_findsFault_29 : decode cX7_findsFault 29 = .ok (.ifCond .eq 10, 3) := by decide +kernel
theorem dX7_findsFault_32 : decode cX7_findsFault 32 = .ok (.aload_n 0, 1) := by decide +kernel
theorem dX7_findsFault_33 : decode cX7_findsFault 33 = .ok (.invokevirtual 177, 3) := by decide +kernel
theorem dX7_findsFault_36 : decode cX7_findsFault 36 = .ok (.goto (-22), 3) := by decide +kernel
theorem dX7_findsFault_39 : decode cX7_findsFault 39 = .ok (.aload_n 0, 1) := by decide +kernel
theorem dX7_findsFault_40 : decode cX7_findsFault 40 = .ok (.getfield 167, 3) := by decide +kernel
theorem dX7_findsFault_43 : decode cX7_findsFault 43 = .ok (.ireturn, 1) := by decide +kernel
set_option maxRecDepth 20000 in
theorem ggX7_does_X7_order : GoodIn wsX7_does wsX7_order := goodIn_r _ [8, 9, 10, 11, 7, 12, 13, 14, 15, 16, 17, 18, 19, 20, 21, 22, 23, 24, 25, 26, 27, 28, 29, 30, 31, 32, 33, 34, 35, 36, 37, 3, 38, 39, 40, 41, 42, 43, 44, 45, 46, 47, 48, 49, 50, 51, 52, 53, 54, 55, 56, 152, 153, 154, 155, 156, 157, 158, 159, 160, 161, 162, 163, 164, 165] (by decide +kernel) (by decide +kernel)
set_option maxRecDepth 20000 in
theorem gX7_does_X7_order : GoodIn wsX7_does (wsV RX7 195 RX7 yX7_order wsX7_order) := goodIn_app (goodIn_of _ (by decide +kernel)) ggX7_does_X7_order
set_option maxRecDepth 20000 in
theorem ggX7_does_X7_cancel : GoodIn wsX7_does wsX7_cancel := goodIn_r _ [60, 10, 11, 7, 12, 13, 14, 15, 22, 23, 24, 25, 9, 26, 27, 28, 29, 34, 35, 36, 37, 3, 38, 39, 40, 41, 42, 43, 44, 45, 46, 47, 48, 152, 153, 154, 155, 156, 157, 158, 159, 160, 161, 162, 163, 164, 165] (by decide +kernel) (by decide +kernel)
set_option maxRecDepth 20000 in
theorem gX7_does_X7_cancel : GoodIn wsX7_does (wsV RX7 199 RX7 yX7_cancel wsX7_cancel) := goodIn_app (goodIn_of _ (by decide +kernel)) ggX7_does_X7_cancel
set_option maxRecDepth 20000 in
theorem ggX7_does_X7_wake : GoodIn wsX7_does wsX7_wake := goodIn_r _ [64, 65, 66, 67, 7, 68, 9, 69, 70, 71, 13, 14, 15, 49, 50, 51, 52, 34, 35, 36, 37, 3, 38, 39, 40, 41, 42, 43, 44, 72, 73, 74, 75, 76, 77, 78, 79, 80, 81, 82, 83, 26, 27, 28, 29, 152, 153, 154, 155, 156, 157, 158, 159, 160, 161, 162, 163, 164, 165] (by decide +kernel) (by decide +kernel)
set_option maxRecDepth 20000 in
theorem gX7_does_X7_wake : GoodIn wsX7_does (wsV RX7 202 RX7 yX7_wake wsX7_wake) := goodIn_app (goodIn_of _ (by decide +kernel)) ggX7_does_X7_wake
set_option maxRecDepth 20000 in
theorem ggX7_does_X7_sleep : GoodIn wsX7_does wsX7_sleep := goodIn_r _ [87, 65, 66, 67, 7, 68, 9, 69, 70, 71, 13, 14, 15, 49, 50, 51, 52, 34, 35, 36, 37, 3, 38, 39, 40, 41, 42, 43, 44, 72, 73, 74, 75, 76, 77, 78, 79, 80, 81, 82, 83, 26, 27, 28, 29, 152, 153, 154, 155, 156, 157, 158, 159, 160, 161, 162, 163, 164, 165] (by decide +kernel) (by decide +kernel)
set_option maxRecDepth 20000 in
theorem gX7_does_X7_sleep : GoodIn wsX7_does (wsV RX7 205 RX7 yX7_sleep wsX7_sleep) := goodIn_app (goodIn_of _ (by decide +kernel)) ggX7_does_X7_sleep
set_option maxRecDepth 20000 in
theorem ggX7_does_X7_work : GoodIn wsX7_does wsX7_work := goodIn_r _ [91, 69, 70, 7, 71, 13, 14, 15, 49, 50, 51, 52, 9, 34, 35, 36, 37, 3, 38, 39, 40, 41, 42, 43, 44, 92, 93, 94, 95, 96, 97, 98, 99, 26, 27, 28, 29, 100, 101, 102, 103, 104, 105, 106, 107, 45, 46, 47, 48, 53, 54, 55, 56, 76, 77, 78, 79, 80, 81, 82, 83, 30, 31, 32, 33, 108, 109, 110, 111, 112, 113, 114, 115, 116, 117, 118, 119, 120, 121, 122, 123, 124, 125, 126, 127, 128, 129, 130, 131, 152, 153, 154, 155, 156, 157, 158, 159, 160, 161, 162, 163, 164, 165] (by decide +kernel) (by decide +kernel)
set_option maxRecDepth 20000 in
theorem gX7_does_X7_work : GoodIn wsX7_does (wsV RX7 208 RX7 yX7_work wsX7_work) := goodIn_app (goodIn_of _ (by decide +kernel)) ggX7_does_X7_work
set_option maxRecDepth 20000 in
theorem ggX7_does_X7_setDelay : GoodIn wsX7_does wsX7_setDelay := goodIn_r _ [135, 136, 137, 138, 7, 139, 9, 69, 70, 71, 13, 14, 15, 34, 35, 36, 37, 3, 38, 39, 40, 41, 42, 43, 44, 49, 50, 51, 52, 152, 153, 154, 155, 156, 157, 158, 159, 160, 161, 162, 163, 164, 165] (by decide +kernel) (by decide +kernel)
set_option maxRecDepth 20000 in
theorem gX7_does_X7_setDelay : GoodIn wsX7_does (wsV RX7 211 RX7 yX7_setDelay wsX7_setDelay) := goodIn_app (goodIn_of _ (by decide +kernel)) ggX7_does_X7_setDelay
set_option maxRecDepth 20000 in
theorem ggX7_does_X7_pass : GoodIn wsX7_does wsX7_pass := goodIn_r _ [143, 9, 13, 14, 7, 15, 34, 35, 36, 37, 3, 38, 39, 40, 41, 42, 43, 44, 144, 145, 146, 147, 26, 27, 28, 29, 148, 149, 150, 151, 49, 50, 51, 52, 92, 93, 94, 95, 96, 97, 98, 99, 100, 101, 102, 103, 104, 105, 106, 107, 45, 46, 47, 48, 53, 54, 55, 56, 76, 77, 78, 79, 80, 81, 82, 83, 30, 31, 32, 33, 108, 109, 110, 111, 112, 113, 114, 115, 116, 117, 118, 119, 120, 121, 122, 123, 124, 125, 126, 127, 128, 129, 130, 131, 152, 153, 154, 155, 156, 157, 158, 159, 160, 161, 162, 163, 164, 165] (by decide +kernel) (by decide +kernel)
set_option maxRecDepth 20000 in
theorem gX7_does_X7_pass : GoodIn wsX7_does (wsV RX7 214 RX7 yX7_pass wsX7_pass) := goodIn_app (goodIn_of _ (by decide +kernel)) ggX7_does_X7_pass
theorem dX7_does_0 : decode cX7_does 0 = .ok (.aload_n 0, 1) := by decide +kernel
theorem dX7_does_1 : decode cX7_does 1 = .ok (.getfield 183, 3) := by decide +kernel
theorem dX7_does_4 : decode cX7_does 4 = .ok (.tableswitch 199 0 8 #[52, 52, 52, 88, 111, 131, 145, 159, 179], 52) := by decide +kernel
theorem dX7_does_56 : decode cX7_does 56 = .ok (.aload_n 0, 1) := by decide +kernel
theorem dX7_does_57 : decode cX7_does 57 = .ok (.aload_n 0, 1) := by decide +kernel
theorem dX7_does_58 : decode cX7_does 58 = .ok (.getfield 28, 3) := by decide +kernel
theorem dX7_does_61 : decode cX7_does 61 = .ok (.iconst 0, 1) := by decide +kernel
theorem dX7_does_62 : decode cX7_does 62 = .ok (.iaload, 1) := by decide +kernel
theorem dX7_does_63 : decode cX7_does 63 = .ok (.aload_n 0, 1) := by decide +kernel
theorem dX7_does_64 : decode cX7_does 64 = .ok (.getfield 28, 3) := by decide +kernel
theorem dX7_does_67 : decode cX7_does 67 = .ok (.iconst 1, 1) := by decide +kernel
theorem dX7_does_68 : decode cX7_does 68 = .ok (.iaload, 1) := by decide +kernel
theorem dX7_does_69 : decode cX7_does 69 = .ok (.aload_n 0, 1) := by decide +kernel
theorem dX7_does_70 : decode cX7_does 70 = .ok (.getfield 183, 3) := by decide +kernel
theorem dX7_does_73 : decode cX7_does 73 = .ok (.aload_n 0, 1) := by decide +kernel
theorem dX7_does_74 : decode cX7_does 74 = .ok (.getfield 28, 3) := by decide +kernel
theorem dX7_does_77 : decode cX7_does 77 = .ok (.iconst 2, 1) := by decide +kernel
theorem dX7_does_78 : decode cX7_does 78 = .ok (.iaload, 1) := by decide +kernel
theorem dX7_does_79 : decode cX7_does 79 = .ok (.aload_n 0, 1) := by decide +kernel
theorem dX7_does_80 : decode cX7_does 80 = .ok (.getfield 28, 3) := by decide +kernel
theorem dX7_does_83 : decode cX7_does 83 = .ok (.iconst 3, 1) := by decide +kernel
theorem dX7_does_84 : decode cX7_does 84 = .ok (.iaload, 1) := by decide +kernel
theorem dX7_does_85 : decode cX7_does 85 = .ok (.invokevirtual 195, 3) := by decide +kernel
theorem dX7_does_88 : decode cX7_does 88 = .ok (.pop, 1) := by decide +kernel
theorem dX7_does_89 : decode cX7_does 89 = .ok (.goto 125, 3) := by decide +kernel
theorem dX7_does_92 : decode cX7_does 92 = .ok (.aload_n 0, 1) := by decide +kernel
theorem dX7_does_93 : decode cX7_does 93 = .ok (.aload_n 0, 1) := by decide +kernel
theorem dX7_does_94 : decode cX7_does 94 = .ok (.getfield 28, 3) := by decide +kernel
theorem dX7_does_97 : decode cX7_does 97 = .ok (.iconst 0, 1) := by decide +kernel
theorem dX7_does_98 : decode cX7_does 98 = .ok (.iaload, 1) := by decide +kernel
theorem dX7_does_99 : decode cX7_does 99 = .ok (.aload_n 0, 1) := by decide +kernel
theorem dX7_does_100 : decode cX7_does 100 = .ok (.getfield 28, 3) := by decide +kernel
theorem dX7_does_103 : decode cX7_does 103 = .ok (.iconst 1, 1) := by decide +kernel
theorem dX7_does_104 : decode cX7_does 104 = .ok (.iaload, 1) := by decide +kernel
theorem dX7_does_105 : decode cX7_does 105 = .ok (.iconst 3, 1) := by decide +kernel
theorem dX7_does_106 : decode cX7_does 106 = .ok (.iconst 0, 1) := by decide +kernel
theorem dX7_does_107 : decode cX7_does 107 = .ok (.iconst 0, 1) := by decide +kernel
theorem dX7_does_108 : decode cX7_does 108 = .ok (.invokevirtual 195, 3) := by decide +kernel
theorem dX7_does_111 : decode cX7_does 111 = .ok (.pop, 1) := by decide +kernel
theorem dX7_does_112 : decode cX7_does 112 = .ok (.goto 102, 3) := by decide +kernel
theorem dX7_does_115 : decode cX7_does 115 = .ok (.aload_n 0, 1) := by decide +kernel
theorem dX7_does_116 : decode cX7_does 116 = .ok (.aload_n 0, 1) := by decide +kernel
theorem dX7_does_117 : decode cX7_does 117 = .ok (.getfield 28, 3) := by decide +kernel
theorem dX7_does_120 : decode cX7_does 120 = .ok (.iconst 0, 1) := by decide +kernel
theorem dX7_does_121 : decode cX7_does 121 = .ok (.iaload, 1) := by decide +kernel
theorem dX7_does_122 : decode cX7_does 122 = .ok (.aload_n 0, 1) := by decide +kernel
theorem dX7_does_123 : decode cX7_does 123 = .ok (.getfield 28, 3) := by decide +kernel
theorem dX7_does_126 : decode cX7_does 126 = .ok (.iconst 1, 1) := by decide +kernel
theorem dX7_does_127 : decode cX7_does 127 = .ok (.iaload, 1) := by decide +kernel
theorem dX7_does_128 : decode cX7_does 128 = .ok (.invokevirtual 199, 3) := by decide +kernel
theorem dX7_does_131 : decode cX7_does 131 = .ok (.pop, 1) := by decide +kernel
theorem dX7_does_132 : decode cX7_does 132 = .ok (.goto 82, 3) := by decide +kernel
theorem dX7_does_135 : decode cX7_does 135 = .ok (.aload_n 0, 1) := by decide +kernel
theorem dX7_does_136 : decode cX7_does 136 = .ok (.aload_n 0, 1) := by decide +kernel
theorem dX7_does_137 : decode cX7_does 137 = .ok (.getfield 28, 3) := by decide +kernel
theorem dX7_does_140 : decode cX7_does 140 = .ok (.iconst 0, 1) := by decide +kernel
theorem dX7_does_141 : decode cX7_does 141 = .ok (.iaload, 1) := by decide +kernel
theorem dX7_does_142 : decode cX7_does 142 = .ok (.invokevirtual 202, 3) := by decide +kernel
theorem dX7_does_145 : decode cX7_does 145 = .ok (.pop, 1) := by decide +kernel
theorem dX7_does_146 : decode cX7_does 146 = .ok (.goto 68, 3) := by decide +kernel
theorem dX7_does_149 : decode cX7_does 149 = .ok (.aload_n 0, 1) := by decide +kernel
theorem dX7_does_150 : decode cX7_does 150 = .ok (.aload_n 0, 1) := by decide +kernel
theorem dX7_does_151 : decode cX7_does 151 = .ok (.getfield 28, 3) := by decide +kernel
theorem dX7_does_154 : decode cX7_does 154 = .ok (.iconst 0, 1) := by decide +kernel
theorem dX7_does_155 : decode cX7_does 155 = .ok (.iaload, 1) := by decide +kernel
theorem dX7_does_156 : decode cX7_does 156 = .ok (.invokevirtual 205, 3) := by decide +kernel
theorem dX7_does_159 : decode cX7_does 159 = .ok (.pop, 1) := by decide +kernel
theorem dX7_does_160 : decode cX7_does 160 = .ok (.goto 54, 3) := by decide +kernel
theorem dX7_does_163 : decode cX7_does 163 = .ok (.aload_n 0, 1) := by decide +kernel
theorem dX7_does_164 : decode cX7_does 164 = .ok (.aload_n 0, 1) := by decide +kernel
theorem dX7_does_165 : decode cX7_does 165 = .ok (.getfield 28, 3) := by decide +kernel
theorem dX7_does_168 : decode cX7_does 168 = .ok (.iconst 0, 1) := by decide +kernel
theorem dX7_does_169 : decode cX7_does 169 = .ok (.iaload, 1) := by decide +kernel
theorem dX7_does_170 : decode cX7_does 170 = .ok (.aload_n 0, 1) := by decide +kernel
theorem dX7_does_171 : decode cX7_does 171 = .ok (.getfield 28, 3) := by decide +kernel
theorem dX7_does_174 : decode cX7_does 174 = .ok (.iconst 1, 1) := by decide +kernel
theorem dX7_does_175 : decode cX7_does 175 = .ok (.iaload, 1) := by decide +kernel
theorem dX7_does_176 : decode cX7_does 176 = .ok (.invokevirtual 208, 3) := by decide +kernel
theorem dX7_does_179 : decode cX7_does 179 = .ok (.pop, 1) := by decide +kernel
theorem dX7_does_180 : decode cX7_does 180 = .ok (.goto 34, 3) := by decide +kernel
theorem dX7_does_183 : decode cX7_does 183 = .ok (.aload_n 0, 1) := by decide +kernel
theorem dX7_does_184 : decode cX7_does 184 = .ok (.aload_n 0, 1) := by decide +kernel
theorem dX7_does_185 : decode cX7_does 185 = .ok (.getfield 28, 3) := by decide +kernel
theorem dX7_does_188 : decode cX7_does 188 = .ok (.iconst 0, 1) := by decide +kernel
theorem dX7_does_189 : decode cX7_does 189 = .ok (.iaload, 1) := by decide +kernel
theorem dX7_does_190 : decode cX7_does 190 = .ok (.aload_n 0, 1) := by decide +kernel
theorem dX7_does_191 : decode cX7_does 191 = .ok (.getfield 28, 3) := by decide +kernel
theorem dX7_does_194 : decode cX7_does 194 = .ok (.iconst 1, 1) := by decide +kernel
theorem dX7_does_195 : decode cX7_does 195 = .ok (.iaload, 1) := by decide +kernel
theorem dX7_does_196 : decode cX7_does 196 = .ok (.invokevirtual 211, 3) := by decide +kernel
theorem dX7_does_199 : decode cX7_does 199 = .ok (.pop, 1) := by decide +kernel
theorem dX7_does_200 : decode cX7_does 200 = .ok (.goto 14, 3) := by decide +kernel
theorem dX7_does_203 : decode cX7_does 203 = .ok (.aload_n 0, 1) := by decide +kernel
theorem dX7_does_204 : decode cX7_does 204 = .ok (.aload_n 0, 1) := by decide +kernel
theorem dX7_does_205 : decode cX7_does 205 = .ok (.getfield 28, 3) := by decide +kernel
theorem dX7_does_208 : decode cX7_does 208 = .ok (.iconst 0, 1) := by decide +kernel
theorem dX7_does_209 : decode cX7_does 209 = .ok (.iaload, 1) := by decide +kernel
theorem dX7_does_210 : decode cX7_does 210 = .ok (.invokevirtual 214, 3) := by decide +kernel
theorem dX7_does_213 : decode cX7_does 213 = .ok (.pop, 1) := by decide +kernel
theorem dX7_does_214 : decode cX7_does 214 = .ok (.aload_n 0, 1) := by decide +kernel
theorem dX7_does_215 : decode cX7_does 215 = .ok (.getfield 31, 3) := by decide +kernel
theorem dX7_does_218 : decode cX7_does 218 = .ok (.ifCond .ne 7, 3) := by decide +kernel
theorem dX7_does_221 : decode cX7_does 221 = .ok (.iconst 1, 1) := by decide +kernel
theorem dX7_does_222 : decode cX7_does 222 = .ok (.goto 4, 3) := by decide +kernel
theorem dX7_does_225 : decode cX7_does 225 = .ok (.iconst 0, 1) := by decide +kernel
theorem dX7_does_226 : decode cX7_does 226 = .ok (.ireturn, 1) := by decide +kernel
set_option maxRecDepth 20000 in
theorem ggX7_runCommands_X7_findsFault : GoodIn wsX7_runCommands wsX7_findsFault := goodIn_r _ [10, 4, 2, 5, 11, 12, 13, 9, 14, 15, 16, 17, 18, 19, 20, 21, 22, 23, 24, 25, 26, 27, 28, 29, 30, 31, 32, 33, 34, 35, 36, 37, 38, 39, 40, 41, 42, 43, 44, 45, 46, 47, 195, 196, 197, 198, 199, 200, 201, 202, 203, 204, 205, 206, 207, 208] (by decide +kernel) (by decide +kernel)
set_option maxRecDepth 20000 in
theorem gX7_runCommands_X7_findsFault : GoodIn wsX7_runCommands (wsV RX7 217 RX7 yX7_findsFault wsX7_findsFault) := goodIn_app (goodIn_of _ (by decide +kernel)) ggX7_runCommands_X7_findsFault
set_option maxRecDepth 20000 in
theorem ggX7_runCommands_X7_saves : GoodIn wsX7_runCommands wsX7_saves := goodIn_r _ [51, 3, 52, 53, 54, 195, 196, 197, 198, 199, 200, 201, 202, 203, 204, 205, 206, 207, 208] (by decide +kernel) (by decide +kernel)
set_option maxRecDepth 20000 in
theorem gX7_runCommands_X7_saves : GoodIn wsX7_runCommands (wsV RX7 70 RX7 yX7_saves wsX7_saves) := goodIn_app (goodIn_of _ (by decide +kernel)) ggX7_runCommands_X7_saves
set_option maxRecDepth 20000 in
theorem ggX7_runCommands_X7_skips : GoodIn wsX7_runCommands wsX7_skips := goodIn_r _ [14, 4, 15, 16, 17, 9, 18, 5, 19, 195, 196, 197, 198, 199, 200, 201, 202, 203, 204, 205, 206, 207, 208] (by decide +kernel) (by decide +kernel)
set_option maxRecDepth 20000 in
theorem gX7_runCommands_X7_skips : GoodIn wsX7_runCommands (wsV RX7 177 RX7 yX7_skips wsX7_skips) := goodIn_app (goodIn_of _ (by decide +kernel)) ggX7_runCommands_X7_skips
set_option maxRecDepth 20000 in
theorem ggX7_runCommands_X7_readsCommand : GoodIn wsX7_runCommands wsX7_readsCommand := goodIn_r _ [23, 4, 24, 15, 16, 17, 9, 18, 5, 19, 25, 26, 27, 28, 29, 30, 31, 32, 33, 34, 35, 36, 37, 38, 39, 2, 40, 41, 42, 43, 44, 45, 46, 47, 11, 12, 13, 14, 195, 196, 197, 198, 199, 200, 201, 202, 203, 204, 205, 206, 207, 208] (by decide +kernel) (by decide +kernel)
set_option maxRecDepth 20000 in
theorem gX7_runCommands_X7_readsCommand : GoodIn wsX7_runCommands (wsV RX7 192 RX7 yX7_readsCommand wsX7_readsCommand) := goodIn_app (goodIn_of _ (by decide +kernel)) ggX7_runCommands_X7_readsCommand
set_option maxRecDepth 20000 in
theorem ggX7_runCommands_X7_does : GoodIn wsX7_runCommands wsX7_does := goodIn_r _ [58, 24, 47, 1, 59, 60, 61, 9, 62, 54, 63, 64, 65, 25, 26, 27, 66, 67, 68, 69, 70, 71, 72, 73, 74, 75, 76, 77, 78, 79, 80, 81, 82, 83, 84, 85, 86, 87, 48, 49, 50, 51, 3, 52, 53, 88, 89, 90, 91, 92, 93, 94, 95, 96, 97, 98, 99, 100, 101, 102, 103, 104, 105, 106, 107, 108, 109, 110, 111, 112, 113, 114, 115, 116, 117, 118, 119, 120, 121, 122, 123, 124, 125, 126, 127, 128, 129, 130, 131, 132, 133, 134, 135, 136, 137, 138, 139, 140, 141, 142, 143, 144, 145, 146, 147, 148, 149, 150, 151, 152, 153, 154, 155, 156, 157, 158, 159, 160, 161, 162, 163, 164, 165, 166, 167, 168, 169, 170, 171, 172, 173, 174, 175, 176, 177, 178, 179, 180, 181, 182, 183, 184, 185, 186, 187, 188, 189, 190, 191, 192, 193, 194, 195, 196, 197, 198, 199, 200, 201, 202, 203, 204, 205, 206, 207, 208] (by decide +kernel) (by decide +kernel)
set_option maxRecDepth 20000 in
theorem gX7_runCommands_X7_does : GoodIn wsX7_runCommands (wsV RX7 220 RX7 yX7_does wsX7_does) := goodIn_app (goodIn_of _ (by decide +kernel)) ggX7_runCommands_X7_does
theorem dX7_runCommands_0 : decode cX7_runCommands 0 = .ok (.aload_n 0, 1) := by decide +kernel
theorem dX7_runCommands_1 : decode cX7_runCommands 1 = .ok (.iconst 0, 1) := by decide +kernel
theorem dX7_runCommands_2 : decode cX7_runCommands 2 = .ok (.putfield 31, 3) := by decide +kernel
theorem dX7_runCommands_5 : decode cX7_runCommands 5 = .ok (.aload_n 0, 1) := by decide +kernel
theorem dX7_runCommands_6 : decode cX7_runCommands 6 = .ok (.invokevirtual 217, 3) := by decide +kernel
theorem dX7_runCommands_9 : decode cX7_runCommands 9 = .ok (.iconst (-1), 1) := by decide +kernel
theorem dX7_runCommands_10 : decode cX7_runCommands 10 = .ok (.if_icmp .eq 11, 3) := by decide +kernel
theorem dX7_runCommands_13 : decode cX7_runCommands 13 = .ok (.bipush (-10), 2) := by decide +kernel
theorem dX7_runCommands_15 : decode cX7_runCommands 15 = .ok (.aload_n 0, 1) := by decide +kernel
theorem dX7_runCommands_16 : decode cX7_runCommands 16 = .ok (.getfield 167, 3) := by decide +kernel
theorem dX7_runCommands_19 : decode cX7_runCommands 19 = .ok (.isub, 1) := by decide +kernel
theorem dX7_runCommands_20 : decode cX7_runCommands 20 = .ok (.ireturn, 1) := by decide +kernel
theorem dX7_runCommands_21 : decode cX7_runCommands 21 = .ok (.aload_n 0, 1) := by decide +kernel
theorem dX7_runCommands_22 : decode cX7_runCommands 22 = .ok (.invokevirtual 70, 3) := by decide +kernel
theorem dX7_runCommands_25 : decode cX7_runCommands 25 = .ok (.aload_n 0, 1) := by decide +kernel
theorem dX7_runCommands_26 : decode cX7_runCommands 26 = .ok (.iconst 1, 1) := by decide +kernel
theorem dX7_runCommands_27 : decode cX7_runCommands 27 = .ok (.putfield 35, 3) := by decide +kernel
theorem dX7_runCommands_30 : decode cX7_runCommands 30 = .ok (.aload_n 0, 1) := by decide +kernel
theorem dX7_runCommands_31 : decode cX7_runCommands 31 = .ok (.iconst 0, 1) := by decide +kernel
theorem dX7_runCommands_32 : decode cX7_runCommands 32 = .ok (.putfield 161, 3) := by decide +kernel
theorem dX7_runCommands_35 : decode cX7_runCommands 35 = .ok (.iconst 0, 1) := by decide +kernel
theorem dX7_runCommands_36 : decode cX7_runCommands 36 = .ok (.istore_n 1, 1) := by decide +kernel
theorem dX7_runCommands_37 : decode cX7_runCommands 37 = .ok (.iconst 1, 1) := by decide +kernel
theorem dX7_runCommands_38 : decode cX7_runCommands 38 = .ok (.istore_n 2, 1) := by decide +kernel
theorem dX7_runCommands_39 : decode cX7_runCommands 39 = .ok (.aload_n 0, 1) := by decide +kernel
theorem dX7_runCommands_40 : decode cX7_runCommands 40 = .ok (.invokevirtual 177, 3) := by decide +kernel
theorem dX7_runCommands_43 : decode cX7_runCommands 43 = .ok (.aload_n 0, 1) := by decide +kernel
theorem dX7_runCommands_44 : decode cX7_runCommands 44 = .ok (.getfield 161, 3) := by decide +kernel
theorem dX7_runCommands_47 : decode cX7_runCommands 47 = .ok (.aload_n 0, 1) := by decide +kernel
theorem dX7_runCommands_48 : decode cX7_runCommands 48 = .ok (.getfield 149, 3) := by decide +kernel
theorem dX7_runCommands_51 : decode cX7_runCommands 51 = .ok (.if_icmp .ge 36, 3) := by decide +kernel
theorem dX7_runCommands_54 : decode cX7_runCommands 54 = .ok (.iload_n 2, 1) := by decide +kernel
theorem dX7_runCommands_55 : decode cX7_runCommands 55 = .ok (.ifCond .eq 32, 3) := by decide +kernel
theorem dX7_runCommands_58 : decode cX7_runCommands 58 = .ok (.aload_n 0, 1) := by decide +kernel
theorem dX7_runCommands_59 : decode cX7_runCommands 59 = .ok (.invokevirtual 192, 3) := by decide +kernel
theorem dX7_runCommands_62 : decode cX7_runCommands 62 = .ok (.pop, 1) := by decide +kernel
theorem dX7_runCommands_63 : decode cX7_runCommands 63 = .ok (.aload_n 0, 1) := by decide +kernel
theorem dX7_runCommands_64 : decode cX7_runCommands 64 = .ok (.invokevirtual 220, 3) := by decide +kernel
theorem dX7_runCommands_67 : decode cX7_runCommands 67 = .ok (.istore_n 2, 1) := by decide +kernel
theorem dX7_runCommands_68 : decode cX7_runCommands 68 = .ok (.iload_n 1, 1) := by decide +kernel
theorem dX7_runCommands_69 : decode cX7_runCommands 69 = .ok (.iload_n 2, 1) := by decide +kernel
theorem dX7_runCommands_70 : decode cX7_runCommands 70 = .ok (.ifCond .eq 7, 3) := by decide +kernel
theorem dX7_runCommands_73 : decode cX7_runCommands 73 = .ok (.iconst 1, 1) := by decide +kernel
theorem dX7_runCommands_74 : decode cX7_runCommands 74 = .ok (.goto 4, 3) := by decide +kernel
theorem dX7_runCommands_77 : decode cX7_runCommands 77 = .ok (.iconst 0, 1) := by decide +kernel
theorem dX7_runCommands_78 : decode cX7_runCommands 78 = .ok (.iadd, 1) := by decide +kernel
theorem dX7_runCommands_79 : decode cX7_runCommands 79 = .ok (.istore_n 1, 1) := by decide +kernel
theorem dX7_runCommands_80 : decode cX7_runCommands 80 = .ok (.aload_n 0, 1) := by decide +kernel
theorem dX7_runCommands_81 : decode cX7_runCommands 81 = .ok (.invokevirtual 177, 3) := by decide +kernel
theorem dX7_runCommands_84 : decode cX7_runCommands 84 = .ok (.goto (-41), 3) := by decide +kernel
theorem dX7_runCommands_87 : decode cX7_runCommands 87 = .ok (.aload_n 0, 1) := by decide +kernel
theorem dX7_runCommands_88 : decode cX7_runCommands 88 = .ok (.iconst 0, 1) := by decide +kernel
theorem dX7_runCommands_89 : decode cX7_runCommands 89 = .ok (.putfield 35, 3) := by decide +kernel
theorem dX7_runCommands_92 : decode cX7_runCommands 92 = .ok (.aload_n 0, 1) := by decide +kernel
theorem dX7_runCommands_93 : decode cX7_runCommands 93 = .ok (.iconst 0, 1) := by decide +kernel
theorem dX7_runCommands_94 : decode cX7_runCommands 94 = .ok (.putfield 31, 3) := by decide +kernel
theorem dX7_runCommands_97 : decode cX7_runCommands 97 = .ok (.iload_n 1, 1) := by decide +kernel
theorem dX7_runCommands_98 : decode cX7_runCommands 98 = .ok (.ireturn, 1) := by decide +kernel
set_option maxRecDepth 20000 in
theorem ggX7_digest_X7_whole : GoodIn wsX7_digest wsX7_whole := goodIn_r _ [10, 4, 11, 12, 13, 9, 14, 15, 16, 17, 18, 5, 19, 20, 21, 22, 23, 24, 25, 26, 27, 28, 29, 30, 31, 32, 33, 34, 103, 104, 105, 106, 107, 108, 109, 110, 111, 112, 113, 114, 115, 116] (by decide +kernel) (by decide +kernel)
set_option maxRecDepth 20000 in
theorem gX7_digest_X7_whole : GoodIn wsX7_digest (wsV RX7 227 RX7 yX7_whole wsX7_whole) := goodIn_app (goodIn_of _ (by decide +kernel)) ggX7_digest_X7_whole
set_option maxRecDepth 20000 in
theorem ggX7_digest_X7_block : GoodIn wsX7_digest wsX7_block := goodIn_r _ [38, 4, 39, 40, 9, 41, 12, 13, 14, 15, 16, 17, 18, 5, 103, 104, 105, 106, 107, 108, 109, 110, 111, 112, 113, 114, 115, 116] (by decide +kernel) (by decide +kernel)
set_option maxRecDepth 20000 in
theorem gX7_digest_X7_block : GoodIn wsX7_digest (wsV RX7 230 RX7 yX7_block wsX7_block) := goodIn_app (goodIn_of _ (by decide +kernel)) ggX7_digest_X7_block
set_option maxRecDepth 20000 in
theorem ggX7_digest_X7_finalValue : GoodIn wsX7_digest wsX7_finalValue := goodIn_r _ [45, 46, 4, 39, 40, 9, 41, 12, 13, 14, 15, 16, 17, 18, 5, 31, 32, 33, 34, 47, 48, 49, 50, 103, 104, 105, 106, 107, 108, 109, 110, 111, 112, 113, 114, 115, 116] (by decide +kernel) (by decide +kernel)
set_option maxRecDepth 20000 in
theorem gX7_digest_X7_finalValue : GoodIn wsX7_digest (wsV RX7 233 RX7 yX7_finalValue wsX7_finalValue) := goodIn_app (goodIn_of _ (by decide +kernel)) ggX7_digest_X7_finalValue
set_option maxRecDepth 20000 in
theorem ggX7_digest_X7_of : GoodIn wsX7_digest wsX7_of := goodIn_r _ [34, 4, 103, 104, 105, 106, 107, 108, 109, 110, 111, 112, 113, 114, 115, 116] (by decide +kernel) (by decide +kernel)
set_option maxRecDepth 20000 in
theorem gX7_digest_X7_of : GoodIn wsX7_digest (wsV RX7 50 RX7 yX7_of wsX7_of) := goodIn_app (goodIn_of _ (by decide +kernel)) ggX7_digest_X7_of
set_option maxRecDepth 20000 in
theorem ggX7_digest_X7_waitsFor : GoodIn wsX7_digest wsX7_waitsFor := goodIn_r _ [54, 55, 56, 57, 9, 58, 4, 12, 13, 14, 15, 16, 17, 18, 5, 47, 48, 49, 50, 31, 32, 33, 34, 59, 60, 61, 62, 63, 64, 65, 66, 67, 68, 69, 70, 103, 104, 105, 106, 107, 108, 109, 110, 111, 112, 113, 114, 115, 116] (by decide +kernel) (by decide +kernel)
set_option maxRecDepth 20000 in
theorem gX7_digest_X7_waitsFor : GoodIn wsX7_digest (wsV RX7 236 RX7 yX7_waitsFor wsX7_waitsFor) := goodIn_app (goodIn_of _ (by decide +kernel)) ggX7_digest_X7_waitsFor
set_option maxRecDepth 20000 in
theorem ggX7_digest_X7_depth : GoodIn wsX7_digest wsX7_depth := goodIn_r _ [74, 75, 55, 56, 57, 9, 58, 4, 12, 13, 14, 15, 16, 17, 18, 5, 63, 64, 65, 66, 47, 48, 49, 50, 31, 32, 33, 34, 67, 68, 69, 70, 103, 104, 105, 106, 107, 108, 109, 110, 111, 112, 113, 114, 115, 116] (by decide +kernel) (by decide +kernel)
set_option maxRecDepth 20000 in
theorem gX7_digest_X7_depth : GoodIn wsX7_digest (wsV RX7 239 RX7 yX7_depth wsX7_depth) := goodIn_app (goodIn_of _ (by decide +kernel)) ggX7_digest_X7_depth
set_option maxRecDepth 20000 in
theorem ggX7_digest_X7_controller : GoodIn wsX7_digest wsX7_controller := goodIn_r _ [79, 80, 81, 9, 82, 12, 13, 14, 15, 16, 17, 18, 5, 19, 20, 21, 22, 4, 83, 84, 85, 86, 87, 88, 89, 90, 91, 92, 93, 94, 31, 32, 33, 34, 103, 104, 105, 106, 107, 108, 109, 110, 111, 112, 113, 114, 115, 116] (by decide +kernel) (by decide +kernel)
set_option maxRecDepth 20000 in
theorem gX7_digest_X7_controller : GoodIn wsX7_digest (wsV RX7 242 RX7 yX7_controller wsX7_controller) := goodIn_app (goodIn_of _ (by decide +kernel)) ggX7_digest_X7_controller
set_option maxRecDepth 20000 in
theorem ggX7_digest_X7_control : GoodIn wsX7_digest wsX7_control := goodIn_r _ [22, 4, 103, 104, 105, 106, 107, 108, 109, 110, 111, 112, 113, 114, 115, 116] (by decide +kernel) (by decide +kernel)
set_option maxRecDepth 20000 in
theorem gX7_digest_X7_control : GoodIn wsX7_digest (wsV RX7 77 RX7 yX7_control wsX7_control) := goodIn_app (goodIn_of _ (by decide +kernel)) ggX7_digest_X7_control
set_option maxRecDepth 20000 in
theorem ggX7_digest_X7_mailed : GoodIn wsX7_digest wsX7_mailed := goodIn_r _ [90, 4, 103, 104, 105, 106, 107, 108, 109, 110, 111, 112, 113, 114, 115, 116] (by decide +kernel) (by decide +kernel)
set_option maxRecDepth 20000 in
theorem gX7_digest_X7_mailed : GoodIn wsX7_digest (wsV RX7 90 RX7 yX7_mailed wsX7_mailed) := goodIn_app (goodIn_of _ (by decide +kernel)) ggX7_digest_X7_mailed
set_option maxRecDepth 20000 in
theorem ggX7_digest_X7_next : GoodIn wsX7_digest wsX7_next := goodIn_r _ [98, 4, 99, 100, 101, 9, 102, 31, 32, 33, 34, 19, 20, 21, 22, 87, 88, 89, 90, 91, 92, 93, 94, 47, 48, 49, 50, 59, 60, 61, 62, 63, 64, 65, 66, 67, 68, 69, 70, 103, 104, 105, 106, 107, 108, 109, 110, 111, 112, 113, 114, 115, 116] (by decide +kernel) (by decide +kernel)
set_option maxRecDepth 20000 in
theorem gX7_digest_X7_next : GoodIn wsX7_digest (wsV RX7 152 RX7 yX7_next wsX7_next) := goodIn_app (goodIn_of _ (by decide +kernel)) ggX7_digest_X7_next
theorem dX7_digest_0 : decode cX7_digest 0 = .ok (.ldc2_w 223, 3) := by decide +kernel
theorem dX7_digest_3 : decode cX7_digest 3 = .ok (.aload_n 0, 1) := by decide +kernel
theorem dX7_digest_4 : decode cX7_digest 4 = .ok (.getfield 39, 3) := by decide +kernel
theorem dX7_digest_7 : decode cX7_digest 7 = .ok (.i2l, 1) := by decide +kernel
theorem dX7_digest_8 : decode cX7_digest 8 = .ok (.ladd, 1) := by decide +kernel
theorem dX7_digest_9 : decode cX7_digest 9 = .ok (.lstore_n 1, 1) := by decide +kernel
theorem dX7_digest_10 : decode cX7_digest 10 = .ok (.iconst 0, 1) := by decide +kernel
theorem dX7_digest_11 : decode cX7_digest 11 = .ok (.istore_n 3, 1) := by decide +kernel
theorem dX7_digest_12 : decode cX7_digest 12 = .ok (.iload_n 3, 1) := by decide +kernel
theorem dX7_digest_13 : decode cX7_digest 13 = .ok (.bipush 11, 2) := by decide +kernel
theorem dX7_digest_15 : decode cX7_digest 15 = .ok (.if_icmp .gt 22, 3) := by decide +kernel
theorem dX7_digest_18 : decode cX7_digest 18 = .ok (.ldc2_w 225, 3) := by decide +kernel
theorem dX7_digest_21 : decode cX7_digest 21 = .ok (.lload_n 1, 1) := by decide +kernel
theorem dX7_digest_22 : decode cX7_digest 22 = .ok (.lmul, 1) := by decide +kernel
theorem dX7_digest_23 : decode cX7_digest 23 = .ok (.aload_n 0, 1) := by decide +kernel
theorem dX7_digest_24 : decode cX7_digest 24 = .ok (.iload_n 3, 1) := by decide +kernel
theorem dX7_digest_25 : decode cX7_digest 25 = .ok (.invokevirtual 227, 3) := by decide +kernel
theorem dX7_digest_28 : decode cX7_digest 28 = .ok (.i2l, 1) := by decide +kernel
theorem dX7_digest_29 : decode cX7_digest 29 = .ok (.ladd, 1) := by decide +kernel
theorem dX7_digest_30 : decode cX7_digest 30 = .ok (.lstore_n 1, 1) := by decide +kernel
theorem dX7_digest_31 : decode cX7_digest 31 = .ok (.iinc 3 1, 3) := by decide +kernel
theorem dX7_digest_34 : decode cX7_digest 34 = .ok (.goto (-22), 3) := by decide +kernel
theorem dX7_digest_37 : decode cX7_digest 37 = .ok (.iconst 0, 1) := by decide +kernel
theorem dX7_digest_38 : decode cX7_digest 38 = .ok (.istore_n 3, 1) := by decide +kernel
theorem dX7_digest_39 : decode cX7_digest 39 = .ok (.iload_n 3, 1) := by decide +kernel
theorem dX7_digest_40 : decode cX7_digest 40 = .ok (.bipush 16, 2) := by decide +kernel
theorem dX7_digest_42 : decode cX7_digest 42 = .ok (.if_icmp .ge 35, 3) := by decide +kernel
theorem dX7_digest_45 : decode cX7_digest 45 = .ok (.ldc2_w 225, 3) := by decide +kernel
theorem dX7_digest_48 : decode cX7_digest 48 = .ok (.lload_n 1, 1) := by decide +kernel
theorem dX7_digest_49 : decode cX7_digest 49 = .ok (.lmul, 1) := by decide +kernel
theorem dX7_digest_50 : decode cX7_digest 50 = .ok (.aload_n 0, 1) := by decide +kernel
theorem dX7_digest_51 : decode cX7_digest 51 = .ok (.iload_n 3, 1) := by decide +kernel
theorem dX7_digest_52 : decode cX7_digest 52 = .ok (.invokevirtual 230, 3) := by decide +kernel
theorem dX7_digest_55 : decode cX7_digest 55 = .ok (.i2l, 1) := by decide +kernel
theorem dX7_digest_56 : decode cX7_digest 56 = .ok (.ladd, 1) := by decide +kernel
theorem dX7_digest_57 : decode cX7_digest 57 = .ok (.lstore_n 1, 1) := by decide +kernel
theorem dX7_digest_58 : decode cX7_digest 58 = .ok (.ldc2_w 225, 3) := by decide +kernel
theorem dX7_digest_61 : decode cX7_digest 61 = .ok (.lload_n 1, 1) := by decide +kernel
theorem dX7_digest_62 : decode cX7_digest 62 = .ok (.lmul, 1) := by decide +kernel
theorem dX7_digest_63 : decode cX7_digest 63 = .ok (.aload_n 0, 1) := by decide +kernel
theorem dX7_digest_64 : decode cX7_digest 64 = .ok (.iload_n 3, 1) := by decide +kernel
theorem dX7_digest_65 : decode cX7_digest 65 = .ok (.invokevirtual 233, 3) := by decide +kernel
theorem dX7_digest_68 : decode cX7_digest 68 = .ok (.i2l, 1) := by decide +kernel
theorem dX7_digest_69 : decode cX7_digest 69 = .ok (.ladd, 1) := by decide +kernel
theorem dX7_digest_70 : decode cX7_digest 70 = .ok (.lstore_n 1, 1) := by decide +kernel
theorem dX7_digest_71 : decode cX7_digest 71 = .ok (.iinc 3 1, 3) := by decide +kernel
theorem dX7_digest_74 : decode cX7_digest 74 = .ok (.goto (-35), 3) := by decide +kernel
theorem dX7_digest_77 : decode cX7_digest 77 = .ok (.iconst 0, 1) := by decide +kernel
theorem dX7_digest_78 : decode cX7_digest 78 = .ok (.istore_n 3, 1) := by decide +kernel
theorem dX7_digest_79 : decode cX7_digest 79 = .ok (.iload_n 3, 1) := by decide +kernel
theorem dX7_digest_80 : decode cX7_digest 80 = .ok (.aload_n 0, 1) := by decide +kernel
theorem dX7_digest_81 : decode cX7_digest 81 = .ok (.getfield 7, 3) := by decide +kernel
theorem dX7_digest_84 : decode cX7_digest 84 = .ok (.iconst 1, 1) := by decide +kernel
theorem dX7_digest_85 : decode cX7_digest 85 = .ok (.iaload, 1) := by decide +kernel
theorem dX7_digest_86 : decode cX7_digest 86 = .ok (.if_icmp .ge 66, 3) := by decide +kernel
theorem dX7_digest_89 : decode cX7_digest 89 = .ok (.iconst 0, 1) := by decide +kernel
theorem dX7_digest_90 : decode cX7_digest 90 = .ok (.istore 4, 2) := by decide +kernel
theorem dX7_digest_92 : decode cX7_digest 92 = .ok (.iload 4, 2) := by decide +kernel
theorem dX7_digest_94 : decode cX7_digest 94 = .ok (.bipush 9, 2) := by decide +kernel
theorem dX7_digest_96 : decode cX7_digest 96 = .ok (.if_icmp .gt 24, 3) := by decide +kernel
theorem dX7_digest_99 : decode cX7_digest 99 = .ok (.ldc2_w 225, 3) := by decide +kernel
theorem dX7_digest_102 : decode cX7_digest 102 = .ok (.lload_n 1, 1) := by decide +kernel
theorem dX7_digest_103 : decode cX7_digest 103 = .ok (.lmul, 1) := by decide +kernel
theorem dX7_digest_104 : decode cX7_digest 104 = .ok (.aload_n 0, 1) := by decide +kernel
theorem dX7_digest_105 : decode cX7_digest 105 = .ok (.iload_n 3, 1) := by decide +kernel
theorem dX7_digest_106 : decode cX7_digest 106 = .ok (.iload 4, 2) := by decide +kernel
theorem dX7_digest_108 : decode cX7_digest 108 = .ok (.invokevirtual 50, 3) := by decide +kernel
theorem dX7_digest_111 : decode cX7_digest 111 = .ok (.i2l, 1) := by decide +kernel
theorem dX7_digest_112 : decode cX7_digest 112 = .ok (.ladd, 1) := by decide +kernel
theorem dX7_digest_113 : decode cX7_digest 113 = .ok (.lstore_n 1, 1) := by decide +kernel
theorem dX7_digest_114 : decode cX7_digest 114 = .ok (.iinc 4 1, 3) := by decide +kernel
theorem dX7_digest_117 : decode cX7_digest 117 = .ok (.goto (-25), 3) := by decide +kernel
theorem dX7_digest_120 : decode cX7_digest 120 = .ok (.ldc2_w 225, 3) := by decide +kernel
theorem dX7_digest_123 : decode cX7_digest 123 = .ok (.lload_n 1, 1) := by decide +kernel
theorem dX7_digest_124 : decode cX7_digest 124 = .ok (.lmul, 1) := by decide +kernel
theorem dX7_digest_125 : decode cX7_digest 125 = .ok (.aload_n 0, 1) := by decide +kernel
theorem dX7_digest_126 : decode cX7_digest 126 = .ok (.iload_n 3, 1) := by decide +kernel
theorem dX7_digest_127 : decode cX7_digest 127 = .ok (.invokevirtual 236, 3) := by decide +kernel
theorem dX7_digest_130 : decode cX7_digest 130 = .ok (.i2l, 1) := by decide +kernel
theorem dX7_digest_131 : decode cX7_digest 131 = .ok (.ladd, 1) := by decide +kernel
theorem dX7_digest_132 : decode cX7_digest 132 = .ok (.lstore_n 1, 1) := by decide +kernel
theorem dX7_digest_133 : decode cX7_digest 133 = .ok (.ldc2_w 225, 3) := by decide +kernel
theorem dX7_digest_136 : decode cX7_digest 136 = .ok (.lload_n 1, 1) := by decide +kernel
theorem dX7_digest_137 : decode cX7_digest 137 = .ok (.lmul, 1) := by decide +kernel
theorem dX7_digest_138 : decode cX7_digest 138 = .ok (.aload_n 0, 1) := by decide +kernel
theorem dX7_digest_139 : decode cX7_digest 139 = .ok (.iload_n 3, 1) := by decide +kernel
theorem dX7_digest_140 : decode cX7_digest 140 = .ok (.invokevirtual 239, 3) := by decide +kernel
theorem dX7_digest_143 : decode cX7_digest 143 = .ok (.i2l, 1) := by decide +kernel
theorem dX7_digest_144 : decode cX7_digest 144 = .ok (.ladd, 1) := by decide +kernel
theorem dX7_digest_145 : decode cX7_digest 145 = .ok (.lstore_n 1, 1) := by decide +kernel
theorem dX7_digest_146 : decode cX7_digest 146 = .ok (.iinc 3 1, 3) := by decide +kernel
theorem dX7_digest_149 : decode cX7_digest 149 = .ok (.goto (-70), 3) := by decide +kernel
theorem dX7_digest_152 : decode cX7_digest 152 = .ok (.iconst 0, 1) := by decide +kernel
theorem dX7_digest_153 : decode cX7_digest 153 = .ok (.istore_n 3, 1) := by decide +kernel
theorem dX7_digest_154 : decode cX7_digest 154 = .ok (.iload_n 3, 1) := by decide +kernel
theorem dX7_digest_155 : decode cX7_digest 155 = .ok (.iconst 2, 1) := by decide +kernel
theorem dX7_digest_156 : decode cX7_digest 156 = .ok (.if_icmp .ge 88, 3) := by decide +kernel
theorem dX7_digest_159 : decode cX7_digest 159 = .ok (.iconst 0, 1) := by decide +kernel
theorem dX7_digest_160 : decode cX7_digest 160 = .ok (.istore 4, 2) := by decide +kernel
theorem dX7_digest_162 : decode cX7_digest 162 = .ok (.iload 4, 2) := by decide +kernel
theorem dX7_digest_164 : decode cX7_digest 164 = .ok (.bipush 8, 2) := by decide +kernel
theorem dX7_digest_166 : decode cX7_digest 166 = .ok (.if_icmp .gt 24, 3) := by decide +kernel
theorem dX7_digest_169 : decode cX7_digest 169 = .ok (.ldc2_w 225, 3) := by decide +kernel
theorem dX7_digest_172 : decode cX7_digest 172 = .ok (.lload_n 1, 1) := by decide +kernel
theorem dX7_digest_173 : decode cX7_digest 173 = .ok (.lmul, 1) := by decide +kernel
theorem dX7_digest_174 : decode cX7_digest 174 = .ok (.aload_n 0, 1) := by decide +kernel
theorem dX7_digest_175 : decode cX7_digest 175 = .ok (.iload_n 3, 1) := by decide +kernel
theorem dX7_digest_176 : decode cX7_digest 176 = .ok (.iload 4, 2) := by decide +kernel
theorem dX7_digest_178 : decode cX7_digest 178 = .ok (.invokevirtual 242, 3) := by decide +kernel
theorem dX7_digest_181 : decode cX7_digest 181 = .ok (.i2l, 1) := by decide +kernel
theorem dX7_digest_182 : decode cX7_digest 182 = .ok (.ladd, 1) := by decide +kernel
theorem dX7_digest_183 : decode cX7_digest 183 = .ok (.lstore_n 1, 1) := by decide +kernel
theorem dX7_digest_184 : decode cX7_digest 184 = .ok (.iinc 4 1, 3) := by decide +kernel
theorem dX7_digest_187 : decode cX7_digest 187 = .ok (.goto (-25), 3) := by decide +kernel
theorem dX7_digest_190 : decode cX7_digest 190 = .ok (.iconst 0, 1) := by decide +kernel
theorem dX7_digest_191 : decode cX7_digest 191 = .ok (.istore 4, 2) := by decide +kernel
theorem dX7_digest_193 : decode cX7_digest 193 = .ok (.iload 4, 2) := by decide +kernel
theorem dX7_digest_195 : decode cX7_digest 195 = .ok (.aload_n 0, 1) := by decide +kernel
theorem dX7_digest_196 : decode cX7_digest 196 = .ok (.iload_n 3, 1) := by decide +kernel
theorem dX7_digest_197 : decode cX7_digest 197 = .ok (.iconst 3, 1) := by decide +kernel
theorem dX7_digest_198 : decode cX7_digest 198 = .ok (.invokevirtual 77, 3) := by decide +kernel
theorem dX7_digest_201 : decode cX7_digest 201 = .ok (.if_icmp .ge 24, 3) := by decide +kernel
theorem dX7_digest_204 : decode cX7_digest 204 = .ok (.ldc2_w 225, 3) := by decide +kernel
theorem dX7_digest_207 : decode cX7_digest 207 = .ok (.lload_n 1, 1) := by decide +kernel
theorem dX7_digest_208 : decode cX7_digest 208 = .ok (.lmul, 1) := by decide +kernel
theorem dX7_digest_209 : decode cX7_digest 209 = .ok (.aload_n 0, 1) := by decide +kernel
theorem dX7_digest_210 : decode cX7_digest 210 = .ok (.iload_n 3, 1) := by decide +kernel
theorem dX7_digest_211 : decode cX7_digest 211 = .ok (.iload 4, 2) := by decide +kernel
theorem dX7_digest_213 : decode cX7_digest 213 = .ok (.invokevirtual 90, 3) := by decide +kernel
theorem dX7_digest_216 : decode cX7_digest 216 = .ok (.i2l, 1) := by decide +kernel
theorem dX7_digest_217 : decode cX7_digest 217 = .ok (.ladd, 1) := by decide +kernel
theorem dX7_digest_218 : decode cX7_digest 218 = .ok (.lstore_n 1, 1) := by decide +kernel
theorem dX7_digest_219 : decode cX7_digest 219 = .ok (.iinc 4 1, 3) := by decide +kernel
theorem dX7_digest_222 : decode cX7_digest 222 = .ok (.goto (-29), 3) := by decide +kernel
theorem dX7_digest_225 : decode cX7_digest 225 = .ok (.ldc2_w 225, 3) := by decide +kernel
theorem dX7_digest_228 : decode cX7_digest 228 = .ok (.lload_n 1, 1) := by decide +kernel
theorem dX7_digest_229 : decode cX7_digest 229 = .ok (.lmul, 1) := by decide +kernel
theorem dX7_digest_230 : decode cX7_digest 230 = .ok (.aload_n 0, 1) := by decide +kernel
theorem dX7_digest_231 : decode cX7_digest 231 = .ok (.iload_n 3, 1) := by decide +kernel
theorem dX7_digest_232 : decode cX7_digest 232 = .ok (.invokevirtual 152, 3) := by decide +kernel
theorem dX7_digest_235 : decode cX7_digest 235 = .ok (.i2l, 1) := by decide +kernel
theorem dX7_digest_236 : decode cX7_digest 236 = .ok (.ladd, 1) := by decide +kernel
theorem dX7_digest_237 : decode cX7_digest 237 = .ok (.lstore_n 1, 1) := by decide +kernel
theorem dX7_digest_238 : decode cX7_digest 238 = .ok (.iinc 3 1, 3) := by decide +kernel
theorem dX7_digest_241 : decode cX7_digest 241 = .ok (.goto (-87), 3) := by decide +kernel
theorem dX7_digest_244 : decode cX7_digest 244 = .ok (.aload_n 0, 1) := by decide +kernel
theorem dX7_digest_245 : decode cX7_digest 245 = .ok (.iconst 0, 1) := by decide +kernel
theorem dX7_digest_246 : decode cX7_digest 246 = .ok (.putfield 31, 3) := by decide +kernel
theorem dX7_digest_249 : decode cX7_digest 249 = .ok (.lload_n 1, 1) := by decide +kernel
theorem dX7_digest_250 : decode cX7_digest 250 = .ok (.lreturn, 1) := by decide +kernel
