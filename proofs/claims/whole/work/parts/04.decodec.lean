theorem dX3_begin_41 : decode cX3_begin 41 = .ok (.iload_n 2, 1) := by decide +kernel
theorem dX3_begin_42 : decode cX3_begin 42 = .ok (.bipush 8, 2) := by decide +kernel
theorem dX3_begin_44 : decode cX3_begin 44 = .ok (.if_icmp .ge 43, 3) := by decide +kernel
theorem dX3_begin_47 : decode cX3_begin 47 = .ok (.aload_n 0, 1) := by decide +kernel
theorem dX3_begin_48 : decode cX3_begin 48 = .ok (.getfield 30, 3) := by decide +kernel
theorem dX3_begin_51 : decode cX3_begin 51 = .ok (.bipush 8, 2) := by decide +kernel
theorem dX3_begin_53 : decode cX3_begin 53 = .ok (.iload_n 1, 1) := by decide +kernel
theorem dX3_begin_54 : decode cX3_begin 54 = .ok (.imul, 1) := by decide +kernel
theorem dX3_begin_55 : decode cX3_begin 55 = .ok (.iload_n 2, 1) := by decide +kernel
theorem dX3_begin_56 : decode cX3_begin 56 = .ok (.iadd, 1) := by decide +kernel
theorem dX3_begin_57 : decode cX3_begin 57 = .ok (.aload_n 0, 1) := by decide +kernel
theorem dX3_begin_58 : decode cX3_begin 58 = .ok (.getfield 27, 3) := by decide +kernel
theorem dX3_begin_61 : decode cX3_begin 61 = .ok (.iload_n 1, 1) := by decide +kernel
theorem dX3_begin_62 : decode cX3_begin 62 = .ok (.laload, 1) := by decide +kernel
theorem dX3_begin_63 : decode cX3_begin 63 = .ok (.lastore, 1) := by decide +kernel
theorem dX3_begin_64 : decode cX3_begin 64 = .ok (.aload_n 0, 1) := by decide +kernel
theorem dX3_begin_65 : decode cX3_begin 65 = .ok (.getfield 30, 3) := by decide +kernel
theorem dX3_begin_68 : decode cX3_begin 68 = .ok (.bipush 8, 2) := by decide +kernel
theorem dX3_begin_70 : decode cX3_begin 70 = .ok (.iload_n 2, 1) := by decide +kernel
theorem dX3_begin_71 : decode cX3_begin 71 = .ok (.imul, 1) := by decide +kernel
theorem dX3_begin_72 : decode cX3_begin 72 = .ok (.iload_n 1, 1) := by decide +kernel
theorem dX3_begin_73 : decode cX3_begin 73 = .ok (.iadd, 1) := by decide +kernel
theorem dX3_begin_74 : decode cX3_begin 74 = .ok (.aload_n 0, 1) := by decide +kernel
theorem dX3_begin_75 : decode cX3_begin 75 = .ok (.getfield 27, 3) := by decide +kernel
theorem dX3_begin_78 : decode cX3_begin 78 = .ok (.iload_n 2, 1) := by decide +kernel
theorem dX3_begin_79 : decode cX3_begin 79 = .ok (.laload, 1) := by decide +kernel
theorem dX3_begin_80 : decode cX3_begin 80 = .ok (.lastore, 1) := by decide +kernel
theorem dX3_begin_81 : decode cX3_begin 81 = .ok (.iinc 2 1, 3) := by decide +kernel
theorem dX3_begin_84 : decode cX3_begin 84 = .ok (.goto (-43), 3) := by decide +kernel
theorem dX3_begin_87 : decode cX3_begin 87 = .ok (.return_, 1) := by decide +kernel
theorem dX3_isBlocked_0 : decode cX3_isBlocked 0 = .ok (.iconst 0, 1) := by decide +kernel
theorem dX3_isBlocked_1 : decode cX3_isBlocked 1 = .ok (.istore_n 2, 1) := by decide +kernel
theorem dX3_isBlocked_2 : decode cX3_isBlocked 2 = .ok (.iconst 0, 1) := by decide +kernel
theorem dX3_isBlocked_3 : decode cX3_isBlocked 3 = .ok (.istore_n 3, 1) := by decide +kernel
theorem dX3_isBlocked_4 : decode cX3_isBlocked 4 = .ok (.iload_n 3, 1) := by decide +kernel
theorem dX3_isBlocked_5 : decode cX3_isBlocked 5 = .ok (.iload_n 1, 1) := by decide +kernel
theorem dX3_isBlocked_6 : decode cX3_isBlocked 6 = .ok (.if_icmp .ge 117, 3) := by decide +kernel
theorem dX3_isBlocked_9 : decode cX3_isBlocked 9 = .ok (.aload_n 0, 1) := by decide +kernel
theorem dX3_isBlocked_10 : decode cX3_isBlocked 10 = .ok (.getfield 36, 3) := by decide +kernel
theorem dX3_isBlocked_13 : decode cX3_isBlocked 13 = .ok (.iload_n 3, 1) := by decide +kernel
theorem dX3_isBlocked_14 : decode cX3_isBlocked 14 = .ok (.iaload, 1) := by decide +kernel
theorem dX3_isBlocked_15 : decode cX3_isBlocked 15 = .ok (.aload_n 0, 1) := by decide +kernel
theorem dX3_isBlocked_16 : decode cX3_isBlocked 16 = .ok (.getfield 36, 3) := by decide +kernel
theorem dX3_isBlocked_19 : decode cX3_isBlocked 19 = .ok (.iload_n 1, 1) := by decide +kernel
theorem dX3_isBlocked_20 : decode cX3_isBlocked 20 = .ok (.iaload, 1) := by decide +kernel
theorem dX3_isBlocked_21 : decode cX3_isBlocked 21 = .ok (.aload_n 0, 1) := by decide +kernel
theorem dX3_isBlocked_22 : decode cX3_isBlocked 22 = .ok (.getfield 39, 3) := by decide +kernel
theorem dX3_isBlocked_25 : decode cX3_isBlocked 25 = .ok (.iload_n 1, 1) := by decide +kernel
theorem dX3_isBlocked_26 : decode cX3_isBlocked 26 = .ok (.iaload, 1) := by decide +kernel
theorem dX3_isBlocked_27 : decode cX3_isBlocked 27 = .ok (.iadd, 1) := by decide +kernel
theorem dX3_isBlocked_28 : decode cX3_isBlocked 28 = .ok (.if_icmp .ge 29, 3) := by decide +kernel
theorem dX3_isBlocked_31 : decode cX3_isBlocked 31 = .ok (.aload_n 0, 1) := by decide +kernel
theorem dX3_isBlocked_32 : decode cX3_isBlocked 32 = .ok (.getfield 36, 3) := by decide +kernel
theorem dX3_isBlocked_35 : decode cX3_isBlocked 35 = .ok (.iload_n 1, 1) := by decide +kernel
theorem dX3_isBlocked_36 : decode cX3_isBlocked 36 = .ok (.iaload, 1) := by decide +kernel
theorem dX3_isBlocked_37 : decode cX3_isBlocked 37 = .ok (.aload_n 0, 1) := by decide +kernel
theorem dX3_isBlocked_38 : decode cX3_isBlocked 38 = .ok (.getfield 36, 3) := by decide +kernel
theorem dX3_isBlocked_41 : decode cX3_isBlocked 41 = .ok (.iload_n 3, 1) := by decide +kernel
theorem dX3_isBlocked_42 : decode cX3_isBlocked 42 = .ok (.iaload, 1) := by decide +kernel
theorem dX3_isBlocked_43 : decode cX3_isBlocked 43 = .ok (.aload_n 0, 1) := by decide +kernel
theorem dX3_isBlocked_44 : decode cX3_isBlocked 44 = .ok (.getfield 39, 3) := by decide +kernel
theorem dX3_isBlocked_47 : decode cX3_isBlocked 47 = .ok (.iload_n 3, 1) := by decide +kernel
theorem dX3_isBlocked_48 : decode cX3_isBlocked 48 = .ok (.iaload, 1) := by decide +kernel
theorem dX3_isBlocked_49 : decode cX3_isBlocked 49 = .ok (.iadd, 1) := by decide +kernel
theorem dX3_isBlocked_50 : decode cX3_isBlocked 50 = .ok (.if_icmp .ge 7, 3) := by decide +kernel
theorem dX3_isBlocked_53 : decode cX3_isBlocked 53 = .ok (.iconst 1, 1) := by decide +kernel
theorem dX3_isBlocked_54 : decode cX3_isBlocked 54 = .ok (.goto 4, 3) := by decide +kernel
theorem dX3_isBlocked_57 : decode cX3_isBlocked 57 = .ok (.iconst 0, 1) := by decide +kernel
theorem dX3_isBlocked_58 : decode cX3_isBlocked 58 = .ok (.istore 4, 2) := by decide +kernel
theorem dX3_isBlocked_60 : decode cX3_isBlocked 60 = .ok (.iload_n 2, 1) := by decide +kernel
theorem dX3_isBlocked_61 : decode cX3_isBlocked 61 = .ok (.ifCond .ne 50, 3) := by decide +kernel
theorem dX3_isBlocked_64 : decode cX3_isBlocked 64 = .ok (.aload_n 0, 1) := by decide +kernel
theorem dX3_isBlocked_65 : decode cX3_isBlocked 65 = .ok (.getfield 48, 3) := by decide +kernel
theorem dX3_isBlocked_68 : decode cX3_isBlocked 68 = .ok (.iload_n 3, 1) := by decide +kernel
theorem dX3_isBlocked_69 : decode cX3_isBlocked 69 = .ok (.baload, 1) := by decide +kernel
theorem dX3_isBlocked_70 : decode cX3_isBlocked 70 = .ok (.ifCond .ne 45, 3) := by decide +kernel
theorem dX3_isBlocked_73 : decode cX3_isBlocked 73 = .ok (.aload_n 0, 1) := by decide +kernel
theorem dX3_isBlocked_74 : decode cX3_isBlocked 74 = .ok (.getfield 33, 3) := by decide +kernel
theorem dX3_isBlocked_77 : decode cX3_isBlocked 77 = .ok (.iload_n 3, 1) := by decide +kernel
theorem dX3_isBlocked_78 : decode cX3_isBlocked 78 = .ok (.iaload, 1) := by decide +kernel
theorem dX3_isBlocked_79 : decode cX3_isBlocked 79 = .ok (.aload_n 0, 1) := by decide +kernel
theorem dX3_isBlocked_80 : decode cX3_isBlocked 80 = .ok (.getfield 33, 3) := by decide +kernel
theorem dX3_isBlocked_83 : decode cX3_isBlocked 83 = .ok (.iload_n 1, 1) := by decide +kernel
theorem dX3_isBlocked_84 : decode cX3_isBlocked 84 = .ok (.iaload, 1) := by decide +kernel
theorem dX3_isBlocked_85 : decode cX3_isBlocked 85 = .ok (.if_icmp .ne 30, 3) := by decide +kernel
theorem dX3_isBlocked_88 : decode cX3_isBlocked 88 = .ok (.iload 4, 2) := by decide +kernel
theorem dX3_isBlocked_90 : decode cX3_isBlocked 90 = .ok (.ifCond .eq 25, 3) := by decide +kernel
theorem dX3_isBlocked_93 : decode cX3_isBlocked 93 = .ok (.aload_n 0, 1) := by decide +kernel
theorem dX3_isBlocked_94 : decode cX3_isBlocked 94 = .ok (.getfield 45, 3) := by decide +kernel
theorem dX3_isBlocked_97 : decode cX3_isBlocked 97 = .ok (.iload_n 3, 1) := by decide +kernel
theorem dX3_isBlocked_98 : decode cX3_isBlocked 98 = .ok (.baload, 1) := by decide +kernel
theorem dX3_isBlocked_99 : decode cX3_isBlocked 99 = .ok (.ifCond .ne 12, 3) := by decide +kernel
theorem dX3_isBlocked_102 : decode cX3_isBlocked 102 = .ok (.aload_n 0, 1) := by decide +kernel
theorem dX3_isBlocked_103 : decode cX3_isBlocked 103 = .ok (.getfield 45, 3) := by decide +kernel
theorem dX3_isBlocked_106 : decode cX3_isBlocked 106 = .ok (.iload_n 1, 1) := by decide +kernel
theorem dX3_isBlocked_107 : decode cX3_isBlocked 107 = .ok (.baload, 1) := by decide +kernel
theorem dX3_isBlocked_108 : decode cX3_isBlocked 108 = .ok (.ifCond .eq 7, 3) := by decide +kernel
theorem dX3_isBlocked_111 : decode cX3_isBlocked 111 = .ok (.iconst 1, 1) := by decide +kernel
theorem dX3_isBlocked_112 : decode cX3_isBlocked 112 = .ok (.goto 4, 3) := by decide +kernel
theorem dX3_isBlocked_115 : decode cX3_isBlocked 115 = .ok (.iconst 0, 1) := by decide +kernel
theorem dX3_isBlocked_116 : decode cX3_isBlocked 116 = .ok (.istore_n 2, 1) := by decide +kernel
theorem dX3_isBlocked_117 : decode cX3_isBlocked 117 = .ok (.iinc 3 1, 3) := by decide +kernel
theorem dX3_isBlocked_120 : decode cX3_isBlocked 120 = .ok (.goto (-116), 3) := by decide +kernel
theorem dX3_isBlocked_123 : decode cX3_isBlocked 123 = .ok (.iload_n 2, 1) := by decide +kernel
theorem dX3_isBlocked_124 : decode cX3_isBlocked 124 = .ok (.ireturn, 1) := by decide +kernel
set_option maxRecDepth 20000 in
theorem ggX3_canGo_X3_isBlocked : GoodIn wsX3_canGo wsX3_isBlocked := goodIn_r _ [6, 7, 8, 1, 9, 10, 11, 12, 13, 14, 15, 16, 17, 18, 19, 20, 21, 22, 23, 24, 25, 26, 27, 28, 29, 30, 31, 32, 33, 34] (by decide +kernel) (by decide +kernel)
set_option maxRecDepth 20000 in
theorem gX3_canGo_X3_isBlocked : GoodIn wsX3_canGo (wsV RX3 111 RX3 yX3_isBlocked wsX3_isBlocked) := goodIn_app (goodIn_of _ (by decide +kernel)) ggX3_canGo_X3_isBlocked
theorem dX3_canGo_0 : decode cX3_canGo 0 = .ok (.aload_n 0, 1) := by decide +kernel
theorem dX3_canGo_1 : decode cX3_canGo 1 = .ok (.getfield 48, 3) := by decide +kernel
theorem dX3_canGo_4 : decode cX3_canGo 4 = .ok (.iload_n 1, 1) := by decide +kernel
theorem dX3_canGo_5 : decode cX3_canGo 5 = .ok (.baload, 1) := by decide +kernel
theorem dX3_canGo_6 : decode cX3_canGo 6 = .ok (.ifCond .ne 15, 3) := by decide +kernel
theorem dX3_canGo_9 : decode cX3_canGo 9 = .ok (.aload_n 0, 1) := by decide +kernel
theorem dX3_canGo_10 : decode cX3_canGo 10 = .ok (.iload_n 1, 1) := by decide +kernel
theorem dX3_canGo_11 : decode cX3_canGo 11 = .ok (.invokevirtual 111, 3) := by decide +kernel
theorem dX3_canGo_14 : decode cX3_canGo 14 = .ok (.ifCond .ne 7, 3) := by decide +kernel
theorem dX3_canGo_17 : decode cX3_canGo 17 = .ok (.iconst 1, 1) := by decide +kernel
theorem dX3_canGo_18 : decode cX3_canGo 18 = .ok (.goto 4, 3) := by decide +kernel
theorem dX3_canGo_21 : decode cX3_canGo 21 = .ok (.iconst 0, 1) := by decide +kernel
theorem dX3_canGo_22 : decode cX3_canGo 22 = .ok (.ireturn, 1) := by decide +kernel
set_option maxRecDepth 20000 in
theorem ggX3_due_X3_canGo : GoodIn wsX3_due wsX3_canGo := goodIn_r _ [8, 9, 10, 11, 12, 7, 13, 14, 15, 16, 17, 18, 19, 20, 21, 22, 23, 24, 25, 26, 27, 28, 29, 30, 31, 32, 33, 34, 35, 36, 37, 38, 39, 40, 41] (by decide +kernel) (by decide +kernel)
set_option maxRecDepth 20000 in
theorem gX3_due_X3_canGo : GoodIn wsX3_due (wsV RX3 114 RX3 yX3_canGo wsX3_canGo) := goodIn_app (goodIn_of _ (by decide +kernel)) ggX3_due_X3_canGo
theorem dX3_due_0 : decode cX3_due 0 = .ok (.iconst (-1), 1) := by decide +kernel
theorem dX3_due_1 : decode cX3_due 1 = .ok (.istore_n 1, 1) := by decide +kernel
theorem dX3_due_2 : decode cX3_due 2 = .ok (.iconst 0, 1) := by decide +kernel
theorem dX3_due_3 : decode cX3_due 3 = .ok (.istore_n 2, 1) := by decide +kernel
theorem dX3_due_4 : decode cX3_due 4 = .ok (.iload_n 2, 1) := by decide +kernel
theorem dX3_due_5 : decode cX3_due 5 = .ok (.aload_n 0, 1) := by decide +kernel
theorem dX3_due_6 : decode cX3_due 6 = .ok (.getfield 70, 3) := by decide +kernel
theorem dX3_due_9 : decode cX3_due 9 = .ok (.if_icmp .ge 61, 3) := by decide +kernel
theorem dX3_due_12 : decode cX3_due 12 = .ok (.aload_n 0, 1) := by decide +kernel
theorem dX3_due_13 : decode cX3_due 13 = .ok (.iload_n 2, 1) := by decide +kernel
theorem dX3_due_14 : decode cX3_due 14 = .ok (.invokevirtual 114, 3) := by decide +kernel
theorem dX3_due_17 : decode cX3_due 17 = .ok (.ifCond .eq 47, 3) := by decide +kernel
theorem dX3_due_20 : decode cX3_due 20 = .ok (.aload_n 0, 1) := by decide +kernel
theorem dX3_due_21 : decode cX3_due 21 = .ok (.getfield 54, 3) := by decide +kernel
theorem dX3_due_24 : decode cX3_due 24 = .ok (.iload_n 2, 1) := by decide +kernel
theorem dX3_due_25 : decode cX3_due 25 = .ok (.laload, 1) := by decide +kernel
theorem dX3_due_26 : decode cX3_due 26 = .ok (.aload_n 0, 1) := by decide +kernel
theorem dX3_due_27 : decode cX3_due 27 = .ok (.getfield 107, 3) := by decide +kernel
theorem dX3_due_30 : decode cX3_due 30 = .ok (.lcmp, 1) := by decide +kernel
theorem dX3_due_31 : decode cX3_due 31 = .ok (.ifCond .le 6, 3) := by decide +kernel
theorem dX3_due_34 : decode cX3_due 34 = .ok (.goto 30, 3) := by decide +kernel
theorem dX3_due_37 : decode cX3_due 37 = .ok (.iload_n 1, 1) := by decide +kernel
theorem dX3_due_38 : decode cX3_due 38 = .ok (.iconst (-1), 1) := by decide +kernel
theorem dX3_due_39 : decode cX3_due 39 = .ok (.if_icmp .eq 19, 3) := by decide +kernel
theorem dX3_due_42 : decode cX3_due 42 = .ok (.aload_n 0, 1) := by decide +kernel
theorem dX3_due_43 : decode cX3_due 43 = .ok (.getfield 54, 3) := by decide +kernel
theorem dX3_due_46 : decode cX3_due 46 = .ok (.iload_n 2, 1) := by decide +kernel
theorem dX3_due_47 : decode cX3_due 47 = .ok (.laload, 1) := by decide +kernel
theorem dX3_due_48 : decode cX3_due 48 = .ok (.aload_n 0, 1) := by decide +kernel
theorem dX3_due_49 : decode cX3_due 49 = .ok (.getfield 54, 3) := by decide +kernel
theorem dX3_due_52 : decode cX3_due 52 = .ok (.iload_n 1, 1) := by decide +kernel
theorem dX3_due_53 : decode cX3_due 53 = .ok (.laload, 1) := by decide +kernel
theorem dX3_due_54 : decode cX3_due 54 = .ok (.lcmp, 1) := by decide +kernel
theorem dX3_due_55 : decode cX3_due 55 = .ok (.ifCond .ge 7, 3) := by decide +kernel
theorem dX3_due_58 : decode cX3_due 58 = .ok (.iload_n 2, 1) := by decide +kernel
theorem dX3_due_59 : decode cX3_due 59 = .ok (.goto 4, 3) := by decide +kernel
theorem dX3_due_62 : decode cX3_due 62 = .ok (.iload_n 1, 1) := by decide +kernel
theorem dX3_due_63 : decode cX3_due 63 = .ok (.istore_n 1, 1) := by decide +kernel
theorem dX3_due_64 : decode cX3_due 64 = .ok (.iinc 2 1, 3) := by decide +kernel
theorem dX3_due_67 : decode cX3_due 67 = .ok (.goto (-63), 3) := by decide +kernel
theorem dX3_due_70 : decode cX3_due 70 = .ok (.iload_n 1, 1) := by decide +kernel
theorem dX3_due_71 : decode cX3_due 71 = .ok (.ireturn, 1) := by decide +kernel
set_option maxRecDepth 20000 in
theorem ggX3_choose_X3_waiting : GoodIn wsX3_choose wsX3_waiting := goodIn_r _ [9, 10, 11, 12, 13, 14, 15, 16, 17, 18, 19, 20, 21, 22, 23, 24, 25, 26, 27, 28, 29, 30, 31, 32, 33, 34, 35, 36] (by decide +kernel) (by decide +kernel)
set_option maxRecDepth 20000 in
theorem gX3_choose_X3_waiting : GoodIn wsX3_choose (wsV RX3 85 RX3 yX3_waiting wsX3_waiting) := goodIn_app (goodIn_of _ (by decide +kernel)) ggX3_choose_X3_waiting
theorem dX3_choose_0 : decode cX3_choose 0 = .ok (.iconst 0, 1) := by decide +kernel
theorem dX3_choose_1 : decode cX3_choose 1 = .ok (.istore_n 1, 1) := by decide +kernel
theorem dX3_choose_2 : decode cX3_choose 2 = .ok (.iload_n 1, 1) := by decide +kernel
theorem dX3_choose_3 : decode cX3_choose 3 = .ok (.bipush 8, 2) := by decide +kernel
theorem dX3_choose_5 : decode cX3_choose 5 = .ok (.if_icmp .ge 49, 3) := by decide +kernel
theorem dX3_choose_8 : decode cX3_choose 8 = .ok (.aload_n 0, 1) := by decide +kernel
theorem dX3_choose_9 : decode cX3_choose 9 = .ok (.iload_n 1, 1) := by decide +kernel
theorem dX3_choose_10 : decode cX3_choose 10 = .ok (.invokevirtual 85, 3) := by decide +kernel
theorem dX3_choose_13 : decode cX3_choose 13 = .ok (.ifCond .le 35, 3) := by decide +kernel
theorem dX3_choose_16 : decode cX3_choose 16 = .ok (.aload_n 0, 1) := by decide +kernel
theorem dX3_choose_17 : decode cX3_choose 17 = .ok (.getfield 57, 3) := by decide +kernel
theorem dX3_choose_20 : decode cX3_choose 20 = .ok (.iconst (-1), 1) := by decide +kernel
theorem dX3_choose_21 : decode cX3_choose 21 = .ok (.if_icmp .eq 22, 3) := by decide +kernel
theorem dX3_choose_24 : decode cX3_choose 24 = .ok (.aload_n 0, 1) := by decide +kernel
theorem dX3_choose_25 : decode cX3_choose 25 = .ok (.getfield 20, 3) := by decide +kernel
theorem dX3_choose_28 : decode cX3_choose 28 = .ok (.iload_n 1, 1) := by decide +kernel
theorem dX3_choose_29 : decode cX3_choose 29 = .ok (.laload, 1) := by decide +kernel
theorem dX3_choose_30 : decode cX3_choose 30 = .ok (.aload_n 0, 1) := by decide +kernel
theorem dX3_choose_31 : decode cX3_choose 31 = .ok (.getfield 20, 3) := by decide +kernel
theorem dX3_choose_34 : decode cX3_choose 34 = .ok (.aload_n 0, 1) := by decide +kernel
theorem dX3_choose_35 : decode cX3_choose 35 = .ok (.getfield 57, 3) := by decide +kernel
theorem dX3_choose_38 : decode cX3_choose 38 = .ok (.laload, 1) := by decide +kernel
theorem dX3_choose_39 : decode cX3_choose 39 = .ok (.lcmp, 1) := by decide +kernel
theorem dX3_choose_40 : decode cX3_choose 40 = .ok (.ifCond .ge 8, 3) := by decide +kernel
theorem dX3_choose_43 : decode cX3_choose 43 = .ok (.aload_n 0, 1) := by decide +kernel
theorem dX3_choose_44 : decode cX3_choose 44 = .ok (.iload_n 1, 1) := by decide +kernel
theorem dX3_choose_45 : decode cX3_choose 45 = .ok (.putfield 57, 3) := by decide +kernel
theorem dX3_choose_48 : decode cX3_choose 48 = .ok (.iinc 1 1, 3) := by decide +kernel
theorem dX3_choose_51 : decode cX3_choose 51 = .ok (.goto (-49), 3) := by decide +kernel
theorem dX3_choose_54 : decode cX3_choose 54 = .ok (.aload_n 0, 1) := by decide +kernel
theorem dX3_choose_55 : decode cX3_choose 55 = .ok (.aload_n 0, 1) := by decide +kernel
theorem dX3_choose_56 : decode cX3_choose 56 = .ok (.getfield 17, 3) := by decide +kernel
theorem dX3_choose_59 : decode cX3_choose 59 = .ok (.aload_n 0, 1) := by decide +kernel
theorem dX3_choose_60 : decode cX3_choose 60 = .ok (.getfield 57, 3) := by decide +kernel
theorem dX3_choose_63 : decode cX3_choose 63 = .ok (.iaload, 1) := by decide +kernel
theorem dX3_choose_64 : decode cX3_choose 64 = .ok (.putfield 92, 3) := by decide +kernel
theorem dX3_choose_67 : decode cX3_choose 67 = .ok (.aload_n 0, 1) := by decide +kernel
theorem dX3_choose_68 : decode cX3_choose 68 = .ok (.getfield 20, 3) := by decide +kernel
theorem dX3_choose_71 : decode cX3_choose 71 = .ok (.bipush 8, 2) := by decide +kernel
theorem dX3_choose_73 : decode cX3_choose 73 = .ok (.aload_n 0, 1) := by decide +kernel
theorem dX3_choose_74 : decode cX3_choose 74 = .ok (.getfield 20, 3) := by decide +kernel
theorem dX3_choose_77 : decode cX3_choose 77 = .ok (.aload_n 0, 1) := by decide +kernel
theorem dX3_choose_78 : decode cX3_choose 78 = .ok (.getfield 57, 3) := by decide +kernel
theorem dX3_choose_81 : decode cX3_choose 81 = .ok (.laload, 1) := by decide +kernel
theorem dX3_choose_82 : decode cX3_choose 82 = .ok (.lastore, 1) := by decide +kernel
theorem dX3_choose_83 : decode cX3_choose 83 = .ok (.return_, 1) := by decide +kernel
set_option maxRecDepth 20000 in
theorem ggX3_next_X3_canGo : GoodIn wsX3_next wsX3_canGo := goodIn_r _ [8, 9, 10, 11, 12, 7, 13, 14, 15, 2, 16, 23, 24, 25, 26, 27, 28, 29, 30, 31, 32, 33, 34, 35, 36, 37, 38, 39, 40, 41, 42, 43, 44, 45, 46] (by decide +kernel) (by decide +kernel)
set_option maxRecDepth 20000 in
theorem gX3_next_X3_canGo : GoodIn wsX3_next (wsV RX3 114 RX3 yX3_canGo wsX3_canGo) := goodIn_app (goodIn_of _ (by decide +kernel)) ggX3_next_X3_canGo
set_option maxRecDepth 20000 in
theorem ggX3_next_X3_ahead : GoodIn wsX3_next wsX3_ahead := goodIn_r _ [20, 14, 21, 22, 23, 24, 25, 26, 27, 28, 29, 30, 31, 32, 33, 34, 35, 36, 37, 38, 39, 40, 41, 42, 43, 44, 45, 46] (by decide +kernel) (by decide +kernel)
set_option maxRecDepth 20000 in
theorem gX3_next_X3_ahead : GoodIn wsX3_next (wsV RX3 117 RX3 yX3_ahead wsX3_ahead) := goodIn_app (goodIn_of _ (by decide +kernel)) ggX3_next_X3_ahead
theorem dX3_next_0 : decode cX3_next 0 = .ok (.iconst (-1), 1) := by decide +kernel
theorem dX3_next_1 : decode cX3_next 1 = .ok (.istore_n 1, 1) := by decide +kernel
theorem dX3_next_2 : decode cX3_next 2 = .ok (.iconst 0, 1) := by decide +kernel
theorem dX3_next_3 : decode cX3_next 3 = .ok (.istore_n 2, 1) := by decide +kernel
theorem dX3_next_4 : decode cX3_next 4 = .ok (.iload_n 2, 1) := by decide +kernel
theorem dX3_next_5 : decode cX3_next 5 = .ok (.aload_n 0, 1) := by decide +kernel
theorem dX3_next_6 : decode cX3_next 6 = .ok (.getfield 70, 3) := by decide +kernel
theorem dX3_next_9 : decode cX3_next 9 = .ok (.if_icmp .ge 57, 3) := by decide +kernel
theorem dX3_next_12 : decode cX3_next 12 = .ok (.aload_n 0, 1) := by decide +kernel
theorem dX3_next_13 : decode cX3_next 13 = .ok (.getfield 33, 3) := by decide +kernel
theorem dX3_next_16 : decode cX3_next 16 = .ok (.iload_n 2, 1) := by decide +kernel
theorem dX3_next_17 : decode cX3_next 17 = .ok (.iaload, 1) := by decide +kernel
theorem dX3_next_18 : decode cX3_next 18 = .ok (.aload_n 0, 1) := by decide +kernel
theorem dX3_next_19 : decode cX3_next 19 = .ok (.getfield 57, 3) := by decide +kernel
theorem dX3_next_22 : decode cX3_next 22 = .ok (.if_icmp .ne 38, 3) := by decide +kernel
theorem dX3_next_25 : decode cX3_next 25 = .ok (.aload_n 0, 1) := by decide +kernel
theorem dX3_next_26 : decode cX3_next 26 = .ok (.iload_n 2, 1) := by decide +kernel
theorem dX3_next_27 : decode cX3_next 27 = .ok (.invokevirtual 114, 3) := by decide +kernel
theorem dX3_next_30 : decode cX3_next 30 = .ok (.ifCond .ne 6, 3) := by decide +kernel
theorem dX3_next_33 : decode cX3_next 33 = .ok (.goto 27, 3) := by decide +kernel
theorem dX3_next_36 : decode cX3_next 36 = .ok (.iload_n 1, 1) := by decide +kernel
theorem dX3_next_37 : decode cX3_next 37 = .ok (.iconst (-1), 1) := by decide +kernel
theorem dX3_next_38 : decode cX3_next 38 = .ok (.if_icmp .eq 16, 3) := by decide +kernel
theorem dX3_next_41 : decode cX3_next 41 = .ok (.aload_n 0, 1) := by decide +kernel
theorem dX3_next_42 : decode cX3_next 42 = .ok (.iload_n 2, 1) := by decide +kernel
theorem dX3_next_43 : decode cX3_next 43 = .ok (.invokevirtual 117, 3) := by decide +kernel
theorem dX3_next_46 : decode cX3_next 46 = .ok (.aload_n 0, 1) := by decide +kernel
theorem dX3_next_47 : decode cX3_next 47 = .ok (.iload_n 1, 1) := by decide +kernel
theorem dX3_next_48 : decode cX3_next 48 = .ok (.invokevirtual 117, 3) := by decide +kernel
theorem dX3_next_51 : decode cX3_next 51 = .ok (.if_icmp .ge 7, 3) := by decide +kernel
theorem dX3_next_54 : decode cX3_next 54 = .ok (.iload_n 2, 1) := by decide +kernel
theorem dX3_next_55 : decode cX3_next 55 = .ok (.goto 4, 3) := by decide +kernel
theorem dX3_next_58 : decode cX3_next 58 = .ok (.iload_n 1, 1) := by decide +kernel
theorem dX3_next_59 : decode cX3_next 59 = .ok (.istore_n 1, 1) := by decide +kernel
theorem dX3_next_60 : decode cX3_next 60 = .ok (.iinc 2 1, 3) := by decide +kernel
theorem dX3_next_63 : decode cX3_next 63 = .ok (.goto (-59), 3) := by decide +kernel
theorem dX3_next_66 : decode cX3_next 66 = .ok (.iload_n 1, 1) := by decide +kernel
theorem dX3_next_67 : decode cX3_next 67 = .ok (.ireturn, 1) := by decide +kernel
theorem dX3_ahead_0 : decode cX3_ahead 0 = .ok (.aload_n 0, 1) := by decide +kernel
theorem dX3_ahead_1 : decode cX3_ahead 1 = .ok (.getfield 36, 3) := by decide +kernel
theorem dX3_ahead_4 : decode cX3_ahead 4 = .ok (.iload_n 1, 1) := by decide +kernel
theorem dX3_ahead_5 : decode cX3_ahead 5 = .ok (.iaload, 1) := by decide +kernel
theorem dX3_ahead_6 : decode cX3_ahead 6 = .ok (.aload_n 0, 1) := by decide +kernel
theorem dX3_ahead_7 : decode cX3_ahead 7 = .ok (.getfield 120, 3) := by decide +kernel
theorem dX3_ahead_10 : decode cX3_ahead 10 = .ok (.if_icmp .ge 15, 3) := by decide +kernel
theorem dX3_ahead_13 : decode cX3_ahead 13 = .ok (.aload_n 0, 1) := by decide +kernel
theorem dX3_ahead_14 : decode cX3_ahead 14 = .ok (.getfield 36, 3) := by decide +kernel
theorem dX3_ahead_17 : decode cX3_ahead 17 = .ok (.iload_n 1, 1) := by decide +kernel
theorem dX3_ahead_18 : decode cX3_ahead 18 = .ok (.iaload, 1) := by decide +kernel
theorem dX3_ahead_19 : decode cX3_ahead 19 = .ok (.ldc 123, 2) := by decide +kernel
theorem dX3_ahead_21 : decode cX3_ahead 21 = .ok (.iadd, 1) := by decide +kernel
theorem dX3_ahead_22 : decode cX3_ahead 22 = .ok (.goto 9, 3) := by decide +kernel
theorem dX3_ahead_25 : decode cX3_ahead 25 = .ok (.aload_n 0, 1) := by decide +kernel
theorem dX3_ahead_26 : decode cX3_ahead 26 = .ok (.getfield 36, 3) := by decide +kernel
theorem dX3_ahead_29 : decode cX3_ahead 29 = .ok (.iload_n 1, 1) := by decide +kernel
theorem dX3_ahead_30 : decode cX3_ahead 30 = .ok (.iaload, 1) := by decide +kernel
theorem dX3_ahead_31 : decode cX3_ahead 31 = .ok (.ireturn, 1) := by decide +kernel
set_option maxRecDepth 20000 in
theorem ggX3_dispatch_X3_due : GoodIn wsX3_dispatch wsX3_due := goodIn_r _ [9, 3, 10, 11, 12, 13, 14, 8, 15, 16, 17, 18, 19, 20, 21, 22, 23, 24, 63, 64, 65, 66, 67, 68, 69, 70, 71, 72, 73, 74, 75, 76, 77, 78, 79, 80, 81, 82, 83, 84, 85, 86] (by decide +kernel) (by decide +kernel)
set_option maxRecDepth 20000 in
theorem gX3_dispatch_X3_due : GoodIn wsX3_dispatch (wsV RX3 127 RX3 yX3_due wsX3_due) := goodIn_app (goodIn_of _ (by decide +kernel)) ggX3_dispatch_X3_due
set_option maxRecDepth 20000 in
theorem ggX3_dispatch_X3_choose : GoodIn wsX3_dispatch wsX3_choose := goodIn_r _ [28, 4, 29, 30, 31, 32, 33, 34, 8, 35, 3, 16, 23, 63, 64, 65, 66, 67, 68, 69, 70, 71, 72, 73, 74, 75, 76, 77, 78, 79, 80, 81, 82, 83, 84, 85, 86] (by decide +kernel) (by decide +kernel)
set_option maxRecDepth 20000 in
theorem gX3_dispatch_X3_choose : GoodIn wsX3_dispatch (wsV RX3 131 RX3 yX3_choose wsX3_choose) := goodIn_app (goodIn_of _ (by decide +kernel)) ggX3_dispatch_X3_choose
set_option maxRecDepth 20000 in
theorem ggX3_dispatch_X3_next : GoodIn wsX3_dispatch wsX3_next := goodIn_r _ [39, 3, 23, 4, 12, 13, 14, 8, 15, 16, 17, 18, 19, 20, 21, 22, 24, 40, 41, 42, 43, 44, 45, 63, 64, 65, 66, 67, 68, 69, 70, 71, 72, 73, 74, 75, 76, 77, 78, 79, 80, 81, 82, 83, 84, 85, 86] (by decide +kernel) (by decide +kernel)
set_option maxRecDepth 20000 in
theorem gX3_dispatch_X3_next : GoodIn wsX3_dispatch (wsV RX3 134 RX3 yX3_next wsX3_next) := goodIn_app (goodIn_of _ (by decide +kernel)) ggX3_dispatch_X3_next
set_option maxRecDepth 20000 in
theorem ggX3_dispatch_X3_serve : GoodIn wsX3_dispatch wsX3_serve := goodIn_r _ [49, 23, 21, 44, 50, 11, 22, 16, 51, 52, 53, 2, 54, 55, 29, 56, 57, 4, 31, 3, 58, 32, 33, 34, 8, 35, 59, 60, 61, 62, 63, 64, 65, 66, 67, 68, 69, 70, 71, 72, 73, 74, 75, 76, 77, 78, 79, 80, 81, 82, 83, 84, 85, 86] (by decide +kernel) (by decide +kernel)
set_option maxRecDepth 20000 in
theorem gX3_dispatch_X3_serve : GoodIn wsX3_dispatch (wsV RX3 137 RX3 yX3_serve wsX3_serve) := goodIn_app (goodIn_of _ (by decide +kernel)) ggX3_dispatch_X3_serve
theorem dX3_dispatch_0 : decode cX3_dispatch 0 = .ok (.aload_n 0, 1) := by decide +kernel
theorem dX3_dispatch_1 : decode cX3_dispatch 1 = .ok (.iconst 0, 1) := by decide +kernel
theorem dX3_dispatch_2 : decode cX3_dispatch 2 = .ok (.putfield 61, 3) := by decide +kernel
theorem dX3_dispatch_5 : decode cX3_dispatch 5 = .ok (.aload_n 0, 1) := by decide +kernel
theorem dX3_dispatch_6 : decode cX3_dispatch 6 = .ok (.getfield 124, 3) := by decide +kernel
theorem dX3_dispatch_9 : decode cX3_dispatch 9 = .ok (.aload_n 0, 1) := by decide +kernel
theorem dX3_dispatch_10 : decode cX3_dispatch 10 = .ok (.getfield 70, 3) := by decide +kernel
theorem dX3_dispatch_13 : decode cX3_dispatch 13 = .ok (.if_icmp .ne 5, 3) := by decide +kernel
theorem dX3_dispatch_16 : decode cX3_dispatch 16 = .ok (.iconst (-1), 1) := by decide +kernel
theorem dX3_dispatch_17 : decode cX3_dispatch 17 = .ok (.ireturn, 1) := by decide +kernel
theorem dX3_dispatch_18 : decode cX3_dispatch 18 = .ok (.aload_n 0, 1) := by decide +kernel
theorem dX3_dispatch_19 : decode cX3_dispatch 19 = .ok (.invokevirtual 127, 3) := by decide +kernel
theorem dX3_dispatch_22 : decode cX3_dispatch 22 = .ok (.istore_n 1, 1) := by decide +kernel
theorem dX3_dispatch_23 : decode cX3_dispatch 23 = .ok (.iload_n 1, 1) := by decide +kernel
theorem dX3_dispatch_24 : decode cX3_dispatch 24 = .ok (.iconst (-1), 1) := by decide +kernel
theorem dX3_dispatch_25 : decode cX3_dispatch 25 = .ok (.if_icmp .eq 7, 3) := by decide +kernel
theorem dX3_dispatch_28 : decode cX3_dispatch 28 = .ok (.iconst 1, 1) := by decide +kernel
theorem dX3_dispatch_29 : decode cX3_dispatch 29 = .ok (.goto 4, 3) := by decide +kernel
theorem dX3_dispatch_32 : decode cX3_dispatch 32 = .ok (.iconst 0, 1) := by decide +kernel
theorem dX3_dispatch_33 : decode cX3_dispatch 33 = .ok (.istore_n 2, 1) := by decide +kernel
theorem dX3_dispatch_34 : decode cX3_dispatch 34 = .ok (.iload_n 2, 1) := by decide +kernel
theorem dX3_dispatch_35 : decode cX3_dispatch 35 = .ok (.ifCond .ne 15, 3) := by decide +kernel
theorem dX3_dispatch_38 : decode cX3_dispatch 38 = .ok (.aload_n 0, 1) := by decide +kernel
theorem dX3_dispatch_39 : decode cX3_dispatch 39 = .ok (.getfield 57, 3) := by decide +kernel
theorem dX3_dispatch_42 : decode cX3_dispatch 42 = .ok (.iconst (-1), 1) := by decide +kernel
theorem dX3_dispatch_43 : decode cX3_dispatch 43 = .ok (.if_icmp .ne 7, 3) := by decide +kernel
theorem dX3_dispatch_46 : decode cX3_dispatch 46 = .ok (.aload_n 0, 1) := by decide +kernel
theorem dX3_dispatch_47 : decode cX3_dispatch 47 = .ok (.invokevirtual 131, 3) := by decide +kernel
theorem dX3_dispatch_50 : decode cX3_dispatch 50 = .ok (.iload_n 2, 1) := by decide +kernel
theorem dX3_dispatch_51 : decode cX3_dispatch 51 = .ok (.ifCond .ne 8, 3) := by decide +kernel
theorem dX3_dispatch_54 : decode cX3_dispatch 54 = .ok (.aload_n 0, 1) := by decide +kernel
theorem dX3_dispatch_55 : decode cX3_dispatch 55 = .ok (.invokevirtual 134, 3) := by decide +kernel
theorem dX3_dispatch_58 : decode cX3_dispatch 58 = .ok (.istore_n 1, 1) := by decide +kernel
theorem dX3_dispatch_59 : decode cX3_dispatch 59 = .ok (.aload_n 0, 1) := by decide +kernel
theorem dX3_dispatch_60 : decode cX3_dispatch 60 = .ok (.iload_n 1, 1) := by decide +kernel
theorem dX3_dispatch_61 : decode cX3_dispatch 61 = .ok (.iload_n 2, 1) := by decide +kernel
theorem dX3_dispatch_62 : decode cX3_dispatch 62 = .ok (.invokevirtual 137, 3) := by decide +kernel
theorem dX3_dispatch_65 : decode cX3_dispatch 65 = .ok (.iload_n 1, 1) := by decide +kernel
theorem dX3_dispatch_66 : decode cX3_dispatch 66 = .ok (.ireturn, 1) := by decide +kernel
set_option maxRecDepth 20000 in
theorem ggX3_serve_X3_waiting : GoodIn wsX3_serve wsX3_waiting := goodIn_r _ [25, 19, 7, 1, 30, 31, 32, 33, 34, 35, 36, 37, 38, 39, 40, 41, 42, 43, 44, 45, 46, 47, 48, 49, 50, 51, 52, 53] (by decide +kernel) (by decide +kernel)
set_option maxRecDepth 20000 in
theorem gX3_serve_X3_waiting : GoodIn wsX3_serve (wsV RX3 85 RX3 yX3_waiting wsX3_waiting) := goodIn_app (goodIn_of _ (by decide +kernel)) ggX3_serve_X3_waiting
set_option maxRecDepth 20000 in
theorem ggX3_serve_X3_end : GoodIn wsX3_serve wsX3_end := goodIn_r _ [29, 17, 18, 30, 31, 32, 33, 34, 35, 36, 37, 38, 39, 40, 41, 42, 43, 44, 45, 46, 47, 48, 49, 50, 51, 52, 53] (by decide +kernel) (by decide +kernel)
set_option maxRecDepth 20000 in
theorem gX3_serve_X3_end : GoodIn wsX3_serve (wsV RX3 89 RX3 yX3_end wsX3_end) := goodIn_app (goodIn_of _ (by decide +kernel)) ggX3_serve_X3_end
theorem dX3_serve_0 : decode cX3_serve 0 = .ok (.aload_n 0, 1) := by decide +kernel
theorem dX3_serve_1 : decode cX3_serve 1 = .ok (.getfield 33, 3) := by decide +kernel
theorem dX3_serve_4 : decode cX3_serve 4 = .ok (.iload_n 1, 1) := by decide +kernel
theorem dX3_serve_5 : decode cX3_serve 5 = .ok (.iaload, 1) := by decide +kernel
theorem dX3_serve_6 : decode cX3_serve 6 = .ok (.istore_n 3, 1) := by decide +kernel
theorem dX3_serve_7 : decode cX3_serve 7 = .ok (.aload_n 0, 1) := by decide +kernel
theorem dX3_serve_8 : decode cX3_serve 8 = .ok (.getfield 36, 3) := by decide +kernel
theorem dX3_serve_11 : decode cX3_serve 11 = .ok (.iload_n 1, 1) := by decide +kernel
theorem dX3_serve_12 : decode cX3_serve 12 = .ok (.iaload, 1) := by decide +kernel
theorem dX3_serve_13 : decode cX3_serve 13 = .ok (.aload_n 0, 1) := by decide +kernel
theorem dX3_serve_14 : decode cX3_serve 14 = .ok (.getfield 120, 3) := by decide +kernel
theorem dX3_serve_17 : decode cX3_serve 17 = .ok (.if_icmp .le 17, 3) := by decide +kernel
theorem dX3_serve_20 : decode cX3_serve 20 = .ok (.aload_n 0, 1) := by decide +kernel
theorem dX3_serve_21 : decode cX3_serve 21 = .ok (.getfield 36, 3) := by decide +kernel
theorem dX3_serve_24 : decode cX3_serve 24 = .ok (.iload_n 1, 1) := by decide +kernel
theorem dX3_serve_25 : decode cX3_serve 25 = .ok (.iaload, 1) := by decide +kernel
theorem dX3_serve_26 : decode cX3_serve 26 = .ok (.aload_n 0, 1) := by decide +kernel
theorem dX3_serve_27 : decode cX3_serve 27 = .ok (.getfield 120, 3) := by decide +kernel
theorem dX3_serve_30 : decode cX3_serve 30 = .ok (.isub, 1) := by decide +kernel
theorem dX3_serve_31 : decode cX3_serve 31 = .ok (.goto 14, 3) := by decide +kernel
theorem dX3_serve_34 : decode cX3_serve 34 = .ok (.aload_n 0, 1) := by decide +kernel
theorem dX3_serve_35 : decode cX3_serve 35 = .ok (.getfield 120, 3) := by decide +kernel
theorem dX3_serve_38 : decode cX3_serve 38 = .ok (.aload_n 0, 1) := by decide +kernel
theorem dX3_serve_39 : decode cX3_serve 39 = .ok (.getfield 36, 3) := by decide +kernel
theorem dX3_serve_42 : decode cX3_serve 42 = .ok (.iload_n 1, 1) := by decide +kernel
theorem dX3_serve_43 : decode cX3_serve 43 = .ok (.iaload, 1) := by decide +kernel
theorem dX3_serve_44 : decode cX3_serve 44 = .ok (.isub, 1) := by decide +kernel
theorem dX3_serve_45 : decode cX3_serve 45 = .ok (.istore 4, 2) := by decide +kernel
theorem dX3_serve_47 : decode cX3_serve 47 = .ok (.aload_n 0, 1) := by decide +kernel
theorem dX3_serve_48 : decode cX3_serve 48 = .ok (.dup, 1) := by decide +kernel
theorem dX3_serve_49 : decode cX3_serve 49 = .ok (.getfield 141, 3) := by decide +kernel
theorem dX3_serve_52 : decode cX3_serve 52 = .ok (.iload 4, 2) := by decide +kernel
theorem dX3_serve_54 : decode cX3_serve 54 = .ok (.i2l, 1) := by decide +kernel
theorem dX3_serve_55 : decode cX3_serve 55 = .ok (.ladd, 1) := by decide +kernel
theorem dX3_serve_56 : decode cX3_serve 56 = .ok (.putfield 141, 3) := by decide +kernel
theorem dX3_serve_59 : decode cX3_serve 59 = .ok (.aload_n 0, 1) := by decide +kernel
theorem dX3_serve_60 : decode cX3_serve 60 = .ok (.dup, 1) := by decide +kernel
theorem dX3_serve_61 : decode cX3_serve 61 = .ok (.getfield 107, 3) := by decide +kernel
theorem dX3_serve_64 : decode cX3_serve 64 = .ok (.iload 4, 2) := by decide +kernel
theorem dX3_serve_66 : decode cX3_serve 66 = .ok (.bipush 100, 2) := by decide +kernel
theorem dX3_serve_68 : decode cX3_serve 68 = .ok (.idiv, 1) := by decide +kernel
theorem dX3_serve_69 : decode cX3_serve 69 = .ok (.aload_n 0, 1) := by decide +kernel
theorem dX3_serve_70 : decode cX3_serve 70 = .ok (.getfield 39, 3) := by decide +kernel
theorem dX3_serve_73 : decode cX3_serve 73 = .ok (.iload_n 1, 1) := by decide +kernel
theorem dX3_serve_74 : decode cX3_serve 74 = .ok (.iaload, 1) := by decide +kernel
theorem dX3_serve_75 : decode cX3_serve 75 = .ok (.iadd, 1) := by decide +kernel
theorem dX3_serve_76 : decode cX3_serve 76 = .ok (.i2l, 1) := by decide +kernel
theorem dX3_serve_77 : decode cX3_serve 77 = .ok (.ladd, 1) := by decide +kernel
theorem dX3_serve_78 : decode cX3_serve 78 = .ok (.putfield 107, 3) := by decide +kernel
theorem dX3_serve_81 : decode cX3_serve 81 = .ok (.aload_n 0, 1) := by decide +kernel
theorem dX3_serve_82 : decode cX3_serve 82 = .ok (.aload_n 0, 1) := by decide +kernel
theorem dX3_serve_83 : decode cX3_serve 83 = .ok (.getfield 36, 3) := by decide +kernel
theorem dX3_serve_86 : decode cX3_serve 86 = .ok (.iload_n 1, 1) := by decide +kernel
theorem dX3_serve_87 : decode cX3_serve 87 = .ok (.iaload, 1) := by decide +kernel
theorem dX3_serve_88 : decode cX3_serve 88 = .ok (.aload_n 0, 1) := by decide +kernel
theorem dX3_serve_89 : decode cX3_serve 89 = .ok (.getfield 39, 3) := by decide +kernel
theorem dX3_serve_92 : decode cX3_serve 92 = .ok (.iload_n 1, 1) := by decide +kernel
theorem dX3_serve_93 : decode cX3_serve 93 = .ok (.iaload, 1) := by decide +kernel
theorem dX3_serve_94 : decode cX3_serve 94 = .ok (.iadd, 1) := by decide +kernel
theorem dX3_serve_95 : decode cX3_serve 95 = .ok (.putfield 120, 3) := by decide +kernel
theorem dX3_serve_98 : decode cX3_serve 98 = .ok (.aload_n 0, 1) := by decide +kernel
theorem dX3_serve_99 : decode cX3_serve 99 = .ok (.getfield 48, 3) := by decide +kernel
theorem dX3_serve_102 : decode cX3_serve 102 = .ok (.iload_n 1, 1) := by decide +kernel
theorem dX3_serve_103 : decode cX3_serve 103 = .ok (.iconst 1, 1) := by decide +kernel
theorem dX3_serve_104 : decode cX3_serve 104 = .ok (.bastore, 1) := by decide +kernel
theorem dX3_serve_105 : decode cX3_serve 105 = .ok (.aload_n 0, 1) := by decide +kernel
theorem dX3_serve_106 : decode cX3_serve 106 = .ok (.getfield 51, 3) := by decide +kernel
theorem dX3_serve_109 : decode cX3_serve 109 = .ok (.iload_n 1, 1) := by decide +kernel
theorem dX3_serve_110 : decode cX3_serve 110 = .ok (.iload_n 2, 1) := by decide +kernel
theorem dX3_serve_111 : decode cX3_serve 111 = .ok (.bastore, 1) := by decide +kernel
theorem dX3_serve_112 : decode cX3_serve 112 = .ok (.aload_n 0, 1) := by decide +kernel
theorem dX3_serve_113 : decode cX3_serve 113 = .ok (.dup, 1) := by decide +kernel
theorem dX3_serve_114 : decode cX3_serve 114 = .ok (.getfield 144, 3) := by decide +kernel
theorem dX3_serve_117 : decode cX3_serve 117 = .ok (.iload_n 2, 1) := by decide +kernel
theorem dX3_serve_118 : decode cX3_serve 118 = .ok (.ifCond .eq 7, 3) := by decide +kernel
theorem dX3_serve_121 : decode cX3_serve 121 = .ok (.iconst 1, 1) := by decide +kernel
theorem dX3_serve_122 : decode cX3_serve 122 = .ok (.goto 4, 3) := by decide +kernel
theorem dX3_serve_125 : decode cX3_serve 125 = .ok (.iconst 0, 1) := by decide +kernel
theorem dX3_serve_126 : decode cX3_serve 126 = .ok (.iadd, 1) := by decide +kernel
theorem dX3_serve_127 : decode cX3_serve 127 = .ok (.putfield 144, 3) := by decide +kernel
theorem dX3_serve_130 : decode cX3_serve 130 = .ok (.aload_n 0, 1) := by decide +kernel
theorem dX3_serve_131 : decode cX3_serve 131 = .ok (.getfield 42, 3) := by decide +kernel
theorem dX3_serve_134 : decode cX3_serve 134 = .ok (.aload_n 0, 1) := by decide +kernel
theorem dX3_serve_135 : decode cX3_serve 135 = .ok (.getfield 124, 3) := by decide +kernel
theorem dX3_serve_138 : decode cX3_serve 138 = .ok (.iload_n 1, 1) := by decide +kernel
theorem dX3_serve_139 : decode cX3_serve 139 = .ok (.iastore, 1) := by decide +kernel
theorem dX3_serve_140 : decode cX3_serve 140 = .ok (.aload_n 0, 1) := by decide +kernel
theorem dX3_serve_141 : decode cX3_serve 141 = .ok (.dup, 1) := by decide +kernel
theorem dX3_serve_142 : decode cX3_serve 142 = .ok (.getfield 124, 3) := by decide +kernel
theorem dX3_serve_145 : decode cX3_serve 145 = .ok (.iconst 1, 1) := by decide +kernel
theorem dX3_serve_146 : decode cX3_serve 146 = .ok (.iadd, 1) := by decide +kernel
theorem dX3_serve_147 : decode cX3_serve 147 = .ok (.putfield 124, 3) := by decide +kernel
theorem dX3_serve_150 : decode cX3_serve 150 = .ok (.ldc2_w 147, 3) := by decide +kernel
theorem dX3_serve_153 : decode cX3_serve 153 = .ok (.aload_n 0, 1) := by decide +kernel
theorem dX3_serve_154 : decode cX3_serve 154 = .ok (.getfield 39, 3) := by decide +kernel
theorem dX3_serve_157 : decode cX3_serve 157 = .ok (.iload_n 1, 1) := by decide +kernel
theorem dX3_serve_158 : decode cX3_serve 158 = .ok (.iaload, 1) := by decide +kernel
theorem dX3_serve_159 : decode cX3_serve 159 = .ok (.i2l, 1) := by decide +kernel
theorem dX3_serve_160 : decode cX3_serve 160 = .ok (.lmul, 1) := by decide +kernel
theorem dX3_serve_161 : decode cX3_serve 161 = .ok (.aload_n 0, 1) := by decide +kernel
theorem dX3_serve_162 : decode cX3_serve 162 = .ok (.getfield 13, 3) := by decide +kernel
theorem dX3_serve_165 : decode cX3_serve 165 = .ok (.iload_n 3, 1) := by decide +kernel
theorem dX3_serve_166 : decode cX3_serve 166 = .ok (.iaload, 1) := by decide +kernel
theorem dX3_serve_167 : decode cX3_serve 167 = .ok (.i2l, 1) := by decide +kernel
theorem dX3_serve_168 : decode cX3_serve 168 = .ok (.ldiv, 1) := by decide +kernel
theorem dX3_serve_169 : decode cX3_serve 169 = .ok (.lstore 5, 2) := by decide +kernel
theorem dX3_serve_171 : decode cX3_serve 171 = .ok (.aload_n 0, 1) := by decide +kernel
theorem dX3_serve_172 : decode cX3_serve 172 = .ok (.getfield 20, 3) := by decide +kernel
theorem dX3_serve_175 : decode cX3_serve 175 = .ok (.iload_n 3, 1) := by decide +kernel
theorem dX3_serve_176 : decode cX3_serve 176 = .ok (.dup2, 1) := by decide +kernel
theorem dX3_serve_177 : decode cX3_serve 177 = .ok (.laload, 1) := by decide +kernel
theorem dX3_serve_178 : decode cX3_serve 178 = .ok (.lload 5, 2) := by decide +kernel
theorem dX3_serve_180 : decode cX3_serve 180 = .ok (.ladd, 1) := by decide +kernel
theorem dX3_serve_181 : decode cX3_serve 181 = .ok (.lastore, 1) := by decide +kernel
theorem dX3_serve_182 : decode cX3_serve 182 = .ok (.aload_n 0, 1) := by decide +kernel
theorem dX3_serve_183 : decode cX3_serve 183 = .ok (.getfield 27, 3) := by decide +kernel
theorem dX3_serve_186 : decode cX3_serve 186 = .ok (.iload_n 3, 1) := by decide +kernel
theorem dX3_serve_187 : decode cX3_serve 187 = .ok (.dup2, 1) := by decide +kernel
theorem dX3_serve_188 : decode cX3_serve 188 = .ok (.laload, 1) := by decide +kernel
theorem dX3_serve_189 : decode cX3_serve 189 = .ok (.lload 5, 2) := by decide +kernel
theorem dX3_serve_191 : decode cX3_serve 191 = .ok (.ladd, 1) := by decide +kernel
theorem dX3_serve_192 : decode cX3_serve 192 = .ok (.lastore, 1) := by decide +kernel
theorem dX3_serve_193 : decode cX3_serve 193 = .ok (.aload_n 0, 1) := by decide +kernel
theorem dX3_serve_194 : decode cX3_serve 194 = .ok (.getfield 24, 3) := by decide +kernel
theorem dX3_serve_197 : decode cX3_serve 197 = .ok (.iload_n 3, 1) := by decide +kernel
theorem dX3_serve_198 : decode cX3_serve 198 = .ok (.dup2, 1) := by decide +kernel
theorem dX3_serve_199 : decode cX3_serve 199 = .ok (.laload, 1) := by decide +kernel
theorem dX3_serve_200 : decode cX3_serve 200 = .ok (.aload_n 0, 1) := by decide +kernel
theorem dX3_serve_201 : decode cX3_serve 201 = .ok (.getfield 39, 3) := by decide +kernel
theorem dX3_serve_204 : decode cX3_serve 204 = .ok (.iload_n 1, 1) := by decide +kernel
theorem dX3_serve_205 : decode cX3_serve 205 = .ok (.iaload, 1) := by decide +kernel
theorem dX3_serve_206 : decode cX3_serve 206 = .ok (.i2l, 1) := by decide +kernel
theorem dX3_serve_207 : decode cX3_serve 207 = .ok (.ladd, 1) := by decide +kernel
theorem dX3_serve_208 : decode cX3_serve 208 = .ok (.lastore, 1) := by decide +kernel
theorem dX3_serve_209 : decode cX3_serve 209 = .ok (.aload_n 0, 1) := by decide +kernel
theorem dX3_serve_210 : decode cX3_serve 210 = .ok (.getfield 57, 3) := by decide +kernel
theorem dX3_serve_213 : decode cX3_serve 213 = .ok (.iload_n 3, 1) := by decide +kernel
theorem dX3_serve_214 : decode cX3_serve 214 = .ok (.if_icmp .ne 18, 3) := by decide +kernel
theorem dX3_serve_217 : decode cX3_serve 217 = .ok (.aload_n 0, 1) := by decide +kernel
theorem dX3_serve_218 : decode cX3_serve 218 = .ok (.dup, 1) := by decide +kernel
theorem dX3_serve_219 : decode cX3_serve 219 = .ok (.getfield 92, 3) := by decide +kernel
theorem dX3_serve_222 : decode cX3_serve 222 = .ok (.aload_n 0, 1) := by decide +kernel
theorem dX3_serve_223 : decode cX3_serve 223 = .ok (.getfield 39, 3) := by decide +kernel
theorem dX3_serve_226 : decode cX3_serve 226 = .ok (.iload_n 1, 1) := by decide +kernel
theorem dX3_serve_227 : decode cX3_serve 227 = .ok (.iaload, 1) := by decide +kernel
theorem dX3_serve_228 : decode cX3_serve 228 = .ok (.isub, 1) := by decide +kernel
theorem dX3_serve_229 : decode cX3_serve 229 = .ok (.putfield 92, 3) := by decide +kernel
theorem dX3_serve_232 : decode cX3_serve 232 = .ok (.aload_n 0, 1) := by decide +kernel
theorem dX3_serve_233 : decode cX3_serve 233 = .ok (.getfield 57, 3) := by decide +kernel
theorem dX3_serve_236 : decode cX3_serve 236 = .ok (.iload_n 3, 1) := by decide +kernel
theorem dX3_serve_237 : decode cX3_serve 237 = .ok (.if_icmp .ne 22, 3) := by decide +kernel
theorem dX3_serve_240 : decode cX3_serve 240 = .ok (.aload_n 0, 1) := by decide +kernel
theorem dX3_serve_241 : decode cX3_serve 241 = .ok (.getfield 92, 3) := by decide +kernel
theorem dX3_serve_244 : decode cX3_serve 244 = .ok (.ifCond .le 11, 3) := by decide +kernel
theorem dX3_serve_247 : decode cX3_serve 247 = .ok (.aload_n 0, 1) := by decide +kernel
theorem dX3_serve_248 : decode cX3_serve 248 = .ok (.iload_n 3, 1) := by decide +kernel
theorem dX3_serve_249 : decode cX3_serve 249 = .ok (.invokevirtual 85, 3) := by decide +kernel
theorem dX3_serve_252 : decode cX3_serve 252 = .ok (.ifCond .ne 7, 3) := by decide +kernel
theorem dX3_serve_255 : decode cX3_serve 255 = .ok (.aload_n 0, 1) := by decide +kernel
theorem dX3_serve_256 : decode cX3_serve 256 = .ok (.invokevirtual 89, 3) := by decide +kernel
theorem dX3_serve_259 : decode cX3_serve 259 = .ok (.iconst 0, 1) := by decide +kernel
theorem dX3_serve_260 : decode cX3_serve 260 = .ok (.istore 7, 2) := by decide +kernel
theorem dX3_serve_262 : decode cX3_serve 262 = .ok (.iload 7, 2) := by decide +kernel
theorem dX3_serve_264 : decode cX3_serve 264 = .ok (.bipush 8, 2) := by decide +kernel
theorem dX3_serve_266 : decode cX3_serve 266 = .ok (.if_icmp .ge 72, 3) := by decide +kernel
theorem dX3_serve_269 : decode cX3_serve 269 = .ok (.aload_n 0, 1) := by decide +kernel
theorem dX3_serve_270 : decode cX3_serve 270 = .ok (.getfield 124, 3) := by decide +kernel
theorem dX3_serve_273 : decode cX3_serve 273 = .ok (.aload_n 0, 1) := by decide +kernel
theorem dX3_serve_274 : decode cX3_serve 274 = .ok (.getfield 70, 3) := by decide +kernel
theorem dX3_serve_277 : decode cX3_serve 277 = .ok (.if_icmp .ne 61, 3) := by decide +kernel
theorem dX3_serve_280 : decode cX3_serve 280 = .ok (.aload_n 0, 1) := by decide +kernel
theorem dX3_serve_281 : decode cX3_serve 281 = .ok (.getfield 20, 3) := by decide +kernel
theorem dX3_serve_284 : decode cX3_serve 284 = .ok (.bipush 8, 2) := by decide +kernel
theorem dX3_serve_286 : decode cX3_serve 286 = .ok (.aload_n 0, 1) := by decide +kernel
theorem dX3_serve_287 : decode cX3_serve 287 = .ok (.getfield 7, 3) := by decide +kernel
theorem dX3_serve_290 : decode cX3_serve 290 = .ok (.iload 7, 2) := by decide +kernel
theorem dX3_serve_292 : decode cX3_serve 292 = .ok (.baload, 1) := by decide +kernel
theorem dX3_serve_293 : decode cX3_serve 293 = .ok (.ifCond .eq 31, 3) := by decide +kernel
theorem dX3_serve_296 : decode cX3_serve 296 = .ok (.aload_n 0, 1) := by decide +kernel
theorem dX3_serve_297 : decode cX3_serve 297 = .ok (.getfield 20, 3) := by decide +kernel
theorem dX3_serve_300 : decode cX3_serve 300 = .ok (.iload 7, 2) := by decide +kernel
theorem dX3_serve_302 : decode cX3_serve 302 = .ok (.laload, 1) := by decide +kernel
theorem dX3_serve_303 : decode cX3_serve 303 = .ok (.aload_n 0, 1) := by decide +kernel
theorem dX3_serve_304 : decode cX3_serve 304 = .ok (.getfield 20, 3) := by decide +kernel
theorem dX3_serve_307 : decode cX3_serve 307 = .ok (.bipush 8, 2) := by decide +kernel
theorem dX3_serve_309 : decode cX3_serve 309 = .ok (.laload, 1) := by decide +kernel
theorem dX3_serve_310 : decode cX3_serve 310 = .ok (.lcmp, 1) := by decide +kernel
theorem dX3_serve_311 : decode cX3_serve 311 = .ok (.ifCond .le 13, 3) := by decide +kernel
theorem dX3_serve_314 : decode cX3_serve 314 = .ok (.aload_n 0, 1) := by decide +kernel
theorem dX3_serve_315 : decode cX3_serve 315 = .ok (.getfield 20, 3) := by decide +kernel
theorem dX3_serve_318 : decode cX3_serve 318 = .ok (.iload 7, 2) := by decide +kernel
theorem dX3_serve_320 : decode cX3_serve 320 = .ok (.laload, 1) := by decide +kernel
theorem dX3_serve_321 : decode cX3_serve 321 = .ok (.goto 10, 3) := by decide +kernel
theorem dX3_serve_324 : decode cX3_serve 324 = .ok (.aload_n 0, 1) := by decide +kernel
theorem dX3_serve_325 : decode cX3_serve 325 = .ok (.getfield 20, 3) := by decide +kernel
theorem dX3_serve_328 : decode cX3_serve 328 = .ok (.bipush 8, 2) := by decide +kernel
theorem dX3_serve_330 : decode cX3_serve 330 = .ok (.laload, 1) := by decide +kernel
theorem dX3_serve_331 : decode cX3_serve 331 = .ok (.lastore, 1) := by decide +kernel
theorem dX3_serve_332 : decode cX3_serve 332 = .ok (.iinc 7 1, 3) := by decide +kernel
theorem dX3_serve_335 : decode cX3_serve 335 = .ok (.goto (-73), 3) := by decide +kernel
theorem dX3_serve_338 : decode cX3_serve 338 = .ok (.return_, 1) := by decide +kernel
set_option maxRecDepth 20000 in
theorem ggX3_pass_X3_in : GoodIn wsX3_pass wsX3_in := goodIn_r _ [6] (by decide +kernel) (by decide +kernel)
set_option maxRecDepth 20000 in
theorem gX3_pass_X3_in : GoodIn wsX3_pass (va_wsS RX3 66 yX3_in wsX3_in) := goodIn_app (goodIn_of _ (by decide +kernel)) ggX3_pass_X3_in
set_option maxRecDepth 20000 in
theorem ggX3_pass_X3_fails : GoodIn wsX3_pass wsX3_fails := goodIn_r _ [10, 11, 12, 13, 14, 15, 16, 17, 18, 19, 20, 21, 22, 23, 24, 25, 26, 27, 28, 29, 30, 31, 32, 33, 34, 35] (by decide +kernel) (by decide +kernel)
set_option maxRecDepth 20000 in
theorem gX3_pass_X3_fails : GoodIn wsX3_pass (wsV RX3 77 RX3 yX3_fails wsX3_fails) := goodIn_app (goodIn_of _ (by decide +kernel)) ggX3_pass_X3_fails
theorem dX3_pass_0 : decode cX3_pass 0 = .ok (.aload_n 0, 1) := by decide +kernel
theorem dX3_pass_1 : decode cX3_pass 1 = .ok (.iload_n 1, 1) := by decide +kernel
theorem dX3_pass_2 : decode cX3_pass 2 = .ok (.i2l, 1) := by decide +kernel
theorem dX3_pass_3 : decode cX3_pass 3 = .ok (.lconst 0, 1) := by decide +kernel
theorem dX3_pass_4 : decode cX3_pass 4 = .ok (.ldc2_w 101, 3) := by decide +kernel
theorem dX3_pass_7 : decode cX3_pass 7 = .ok (.invokestatic 66, 3) := by decide +kernel
theorem dX3_pass_10 : decode cX3_pass 10 = .ok (.ifCond .ne 7, 3) := by decide +kernel
theorem dX3_pass_13 : decode cX3_pass 13 = .ok (.iconst 1, 1) := by decide +kernel
theorem dX3_pass_14 : decode cX3_pass 14 = .ok (.goto 4, 3) := by decide +kernel
theorem dX3_pass_17 : decode cX3_pass 17 = .ok (.iconst 0, 1) := by decide +kernel
theorem dX3_pass_18 : decode cX3_pass 18 = .ok (.iconst 0, 1) := by decide +kernel
theorem dX3_pass_19 : decode cX3_pass 19 = .ok (.invokevirtual 77, 3) := by decide +kernel
theorem dX3_pass_22 : decode cX3_pass 22 = .ok (.ifCond .eq 5, 3) := by decide +kernel
theorem dX3_pass_25 : decode cX3_pass 25 = .ok (.lconst 0, 1) := by decide +kernel
theorem dX3_pass_26 : decode cX3_pass 26 = .ok (.lreturn, 1) := by decide +kernel
theorem dX3_pass_27 : decode cX3_pass 27 = .ok (.aload_n 0, 1) := by decide +kernel
theorem dX3_pass_28 : decode cX3_pass 28 = .ok (.dup, 1) := by decide +kernel
theorem dX3_pass_29 : decode cX3_pass 29 = .ok (.getfield 107, 3) := by decide +kernel
theorem dX3_pass_32 : decode cX3_pass 32 = .ok (.iload_n 1, 1) := by decide +kernel
theorem dX3_pass_33 : decode cX3_pass 33 = .ok (.i2l, 1) := by decide +kernel
theorem dX3_pass_34 : decode cX3_pass 34 = .ok (.ladd, 1) := by decide +kernel
theorem dX3_pass_35 : decode cX3_pass 35 = .ok (.putfield 107, 3) := by decide +kernel
theorem dX3_pass_38 : decode cX3_pass 38 = .ok (.aload_n 0, 1) := by decide +kernel
theorem dX3_pass_39 : decode cX3_pass 39 = .ok (.getfield 107, 3) := by decide +kernel
theorem dX3_pass_42 : decode cX3_pass 42 = .ok (.lreturn, 1) := by decide +kernel
set_option maxRecDepth 20000 in
theorem ggX3_state_X3_in : GoodIn wsX3_state wsX3_in := goodIn_r _ [7] (by decide +kernel) (by decide +kernel)
set_option maxRecDepth 20000 in
theorem gX3_state_X3_in : GoodIn wsX3_state (va_wsS RX3 66 yX3_in wsX3_in) := goodIn_app (goodIn_of _ (by decide +kernel)) ggX3_state_X3_in
set_option maxRecDepth 20000 in
theorem ggX3_state_X3_fails : GoodIn wsX3_state wsX3_fails := goodIn_r _ [11, 12, 21, 22, 23, 24, 25, 26, 27, 28, 29, 30, 31, 32, 33, 34, 35, 36, 37, 38, 39, 40, 41, 42, 43, 44] (by decide +kernel) (by decide +kernel)
set_option maxRecDepth 20000 in
theorem gX3_state_X3_fails : GoodIn wsX3_state (wsV RX3 77 RX3 yX3_fails wsX3_fails) := goodIn_app (goodIn_of _ (by decide +kernel)) ggX3_state_X3_fails
set_option maxRecDepth 20000 in
theorem ggX3_state_X3_isBlocked : GoodIn wsX3_state wsX3_isBlocked := goodIn_r _ [16, 17, 18, 2, 19, 20, 21, 22, 23, 24, 25, 26, 27, 28, 29, 30, 31, 32, 33, 34, 35, 36, 37, 38, 39, 40, 41, 42, 43, 44] (by decide +kernel) (by decide +kernel)
set_option maxRecDepth 20000 in
theorem gX3_state_X3_isBlocked : GoodIn wsX3_state (wsV RX3 111 RX3 yX3_isBlocked wsX3_isBlocked) := goodIn_app (goodIn_of _ (by decide +kernel)) ggX3_state_X3_isBlocked
theorem dX3_state_0 : decode cX3_state 0 = .ok (.aload_n 0, 1) := by decide +kernel
theorem dX3_state_1 : decode cX3_state 1 = .ok (.iload_n 1, 1) := by decide +kernel
theorem dX3_state_2 : decode cX3_state 2 = .ok (.i2l, 1) := by decide +kernel
theorem dX3_state_3 : decode cX3_state 3 = .ok (.lconst 0, 1) := by decide +kernel
theorem dX3_state_4 : decode cX3_state 4 = .ok (.aload_n 0, 1) := by decide +kernel
theorem dX3_state_5 : decode cX3_state 5 = .ok (.getfield 70, 3) := by decide +kernel
theorem dX3_state_8 : decode cX3_state 8 = .ok (.iconst 1, 1) := by decide +kernel
theorem dX3_state_9 : decode cX3_state 9 = .ok (.isub, 1) := by decide +kernel
theorem dX3_state_10 : decode cX3_state 10 = .ok (.i2l, 1) := by decide +kernel
theorem dX3_state_11 : decode cX3_state 11 = .ok (.invokestatic 66, 3) := by decide +kernel
theorem dX3_state_14 : decode cX3_state 14 = .ok (.ifCond .ne 7, 3) := by decide +kernel
theorem dX3_state_17 : decode cX3_state 17 = .ok (.iconst 1, 1) := by decide +kernel
theorem dX3_state_18 : decode cX3_state 18 = .ok (.goto 4, 3) := by decide +kernel
theorem dX3_state_21 : decode cX3_state 21 = .ok (.iconst 0, 1) := by decide +kernel
theorem dX3_state_22 : decode cX3_state 22 = .ok (.iconst 0, 1) := by decide +kernel
theorem dX3_state_23 : decode cX3_state 23 = .ok (.invokevirtual 77, 3) := by decide +kernel
theorem dX3_state_26 : decode cX3_state 26 = .ok (.ifCond .eq 5, 3) := by decide +kernel
theorem dX3_state_29 : decode cX3_state 29 = .ok (.iconst 0, 1) := by decide +kernel
theorem dX3_state_30 : decode cX3_state 30 = .ok (.ireturn, 1) := by decide +kernel
theorem dX3_state_31 : decode cX3_state 31 = .ok (.aload_n 0, 1) := by decide +kernel
theorem dX3_state_32 : decode cX3_state 32 = .ok (.getfield 48, 3) := by decide +kernel
theorem dX3_state_35 : decode cX3_state 35 = .ok (.iload_n 1, 1) := by decide +kernel
theorem dX3_state_36 : decode cX3_state 36 = .ok (.baload, 1) := by decide +kernel
theorem dX3_state_37 : decode cX3_state 37 = .ok (.ifCond .eq 20, 3) := by decide +kernel
theorem dX3_state_40 : decode cX3_state 40 = .ok (.aload_n 0, 1) := by decide +kernel
theorem dX3_state_41 : decode cX3_state 41 = .ok (.getfield 51, 3) := by decide +kernel
theorem dX3_state_44 : decode cX3_state 44 = .ok (.iload_n 1, 1) := by decide +kernel
theorem dX3_state_45 : decode cX3_state 45 = .ok (.baload, 1) := by decide +kernel
theorem dX3_state_46 : decode cX3_state 46 = .ok (.ifCond .eq 7, 3) := by decide +kernel
theorem dX3_state_49 : decode cX3_state 49 = .ok (.iconst 3, 1) := by decide +kernel
theorem dX3_state_50 : decode cX3_state 50 = .ok (.goto 20, 3) := by decide +kernel
theorem dX3_state_53 : decode cX3_state 53 = .ok (.iconst 2, 1) := by decide +kernel
theorem dX3_state_54 : decode cX3_state 54 = .ok (.goto 16, 3) := by decide +kernel
theorem dX3_state_57 : decode cX3_state 57 = .ok (.aload_n 0, 1) := by decide +kernel
theorem dX3_state_58 : decode cX3_state 58 = .ok (.iload_n 1, 1) := by decide +kernel
theorem dX3_state_59 : decode cX3_state 59 = .ok (.invokevirtual 111, 3) := by decide +kernel
theorem dX3_state_62 : decode cX3_state 62 = .ok (.ifCond .eq 7, 3) := by decide +kernel
theorem dX3_state_65 : decode cX3_state 65 = .ok (.iconst 0, 1) := by decide +kernel
theorem dX3_state_66 : decode cX3_state 66 = .ok (.goto 4, 3) := by decide +kernel
theorem dX3_state_69 : decode cX3_state 69 = .ok (.iconst 1, 1) := by decide +kernel
theorem dX3_state_70 : decode cX3_state 70 = .ok (.ireturn, 1) := by decide +kernel
set_option maxRecDepth 20000 in
theorem ggX3_order_X3_in : GoodIn wsX3_order wsX3_in := goodIn_r _ [7] (by decide +kernel) (by decide +kernel)
set_option maxRecDepth 20000 in
theorem gX3_order_X3_in : GoodIn wsX3_order (va_wsS RX3 66 yX3_in wsX3_in) := goodIn_app (goodIn_of _ (by decide +kernel)) ggX3_order_X3_in
theorem dX3_order_0 : decode cX3_order 0 = .ok (.aload_n 0, 1) := by decide +kernel
theorem dX3_order_1 : decode cX3_order 1 = .ok (.iconst 0, 1) := by decide +kernel
theorem dX3_order_2 : decode cX3_order 2 = .ok (.putfield 61, 3) := by decide +kernel
theorem dX3_order_5 : decode cX3_order 5 = .ok (.iload_n 1, 1) := by decide +kernel
theorem dX3_order_6 : decode cX3_order 6 = .ok (.i2l, 1) := by decide +kernel
theorem dX3_order_7 : decode cX3_order 7 = .ok (.lconst 0, 1) := by decide +kernel
theorem dX3_order_8 : decode cX3_order 8 = .ok (.aload_n 0, 1) := by decide +kernel
theorem dX3_order_9 : decode cX3_order 9 = .ok (.getfield 124, 3) := by decide +kernel
theorem dX3_order_12 : decode cX3_order 12 = .ok (.iconst 1, 1) := by decide +kernel
theorem dX3_order_13 : decode cX3_order 13 = .ok (.isub, 1) := by decide +kernel
theorem dX3_order_14 : decode cX3_order 14 = .ok (.i2l, 1) := by decide +kernel
theorem dX3_order_15 : decode cX3_order 15 = .ok (.invokestatic 66, 3) := by decide +kernel
theorem dX3_order_18 : decode cX3_order 18 = .ok (.ifCond .eq 12, 3) := by decide +kernel
theorem dX3_order_21 : decode cX3_order 21 = .ok (.aload_n 0, 1) := by decide +kernel
theorem dX3_order_22 : decode cX3_order 22 = .ok (.getfield 42, 3) := by decide +kernel
theorem dX3_order_25 : decode cX3_order 25 = .ok (.iload_n 1, 1) := by decide +kernel
theorem dX3_order_26 : decode cX3_order 26 = .ok (.iaload, 1) := by decide +kernel
theorem dX3_order_27 : decode cX3_order 27 = .ok (.goto 4, 3) := by decide +kernel
theorem dX3_order_30 : decode cX3_order 30 = .ok (.iconst (-1), 1) := by decide +kernel
theorem dX3_order_31 : decode cX3_order 31 = .ok (.ireturn, 1) := by decide +kernel
set_option maxRecDepth 20000 in
theorem ggX3_tag_X3_isThere : GoodIn wsX3_tag wsX3_isThere := goodIn_r _ [6, 7, 8, 9, 10, 5, 11, 17, 18, 19, 20, 21, 22, 23, 24, 25, 26, 27, 28, 29, 30, 31, 32, 33, 34, 35, 36, 37, 38, 39, 40] (by decide +kernel) (by decide +kernel)
set_option maxRecDepth 20000 in
theorem gX3_tag_X3_isThere : GoodIn wsX3_tag (wsV RX3 81 RX3 yX3_isThere wsX3_isThere) := goodIn_app (goodIn_of _ (by decide +kernel)) ggX3_tag_X3_isThere
set_option maxRecDepth 20000 in
theorem ggX3_tag_X3_fails : GoodIn wsX3_tag wsX3_fails := goodIn_r _ [15, 16, 17, 18, 19, 20, 21, 22, 23, 24, 25, 26, 27, 28, 29, 30, 31, 32, 33, 34, 35, 36, 37, 38, 39, 40] (by decide +kernel) (by decide +kernel)
set_option maxRecDepth 20000 in
theorem gX3_tag_X3_fails : GoodIn wsX3_tag (wsV RX3 77 RX3 yX3_fails wsX3_fails) := goodIn_app (goodIn_of _ (by decide +kernel)) ggX3_tag_X3_fails
theorem dX3_tag_0 : decode cX3_tag 0 = .ok (.aload_n 0, 1) := by decide +kernel
theorem dX3_tag_1 : decode cX3_tag 1 = .ok (.iload_n 1, 1) := by decide +kernel
theorem dX3_tag_2 : decode cX3_tag 2 = .ok (.bipush 8, 2) := by decide +kernel
theorem dX3_tag_4 : decode cX3_tag 4 = .ok (.if_icmp .eq 15, 3) := by decide +kernel
theorem dX3_tag_7 : decode cX3_tag 7 = .ok (.aload_n 0, 1) := by decide +kernel
theorem dX3_tag_8 : decode cX3_tag 8 = .ok (.iload_n 1, 1) := by decide +kernel
theorem dX3_tag_9 : decode cX3_tag 9 = .ok (.invokevirtual 81, 3) := by decide +kernel
theorem dX3_tag_12 : decode cX3_tag 12 = .ok (.ifCond .ne 7, 3) := by decide +kernel
theorem dX3_tag_15 : decode cX3_tag 15 = .ok (.iconst 1, 1) := by decide +kernel
theorem dX3_tag_16 : decode cX3_tag 16 = .ok (.goto 4, 3) := by decide +kernel
theorem dX3_tag_19 : decode cX3_tag 19 = .ok (.iconst 0, 1) := by decide +kernel
theorem dX3_tag_20 : decode cX3_tag 20 = .ok (.iconst 0, 1) := by decide +kernel
theorem dX3_tag_21 : decode cX3_tag 21 = .ok (.invokevirtual 77, 3) := by decide +kernel
theorem dX3_tag_24 : decode cX3_tag 24 = .ok (.ifCond .eq 5, 3) := by decide +kernel
theorem dX3_tag_27 : decode cX3_tag 27 = .ok (.lconst 0, 1) := by decide +kernel
theorem dX3_tag_28 : decode cX3_tag 28 = .ok (.lreturn, 1) := by decide +kernel
theorem dX3_tag_29 : decode cX3_tag 29 = .ok (.aload_n 0, 1) := by decide +kernel
theorem dX3_tag_30 : decode cX3_tag 30 = .ok (.getfield 20, 3) := by decide +kernel
theorem dX3_tag_33 : decode cX3_tag 33 = .ok (.iload_n 1, 1) := by decide +kernel
theorem dX3_tag_34 : decode cX3_tag 34 = .ok (.laload, 1) := by decide +kernel
theorem dX3_tag_35 : decode cX3_tag 35 = .ok (.lreturn, 1) := by decide +kernel
set_option maxRecDepth 20000 in
theorem ggX3_lag_X3_isThere : GoodIn wsX3_lag wsX3_isThere := goodIn_r _ [7, 8, 9, 10, 11, 6, 12, 25, 26, 27, 28, 29, 30, 31, 32, 33, 34, 35, 36, 37, 38, 39, 40, 41, 42, 43, 44, 45, 46, 47, 48] (by decide +kernel) (by decide +kernel)
set_option maxRecDepth 20000 in
theorem gX3_lag_X3_isThere : GoodIn wsX3_lag (wsV RX3 81 RX3 yX3_isThere wsX3_isThere) := goodIn_app (goodIn_of _ (by decide +kernel)) ggX3_lag_X3_isThere
set_option maxRecDepth 20000 in
theorem ggX3_lag_X3_fails : GoodIn wsX3_lag wsX3_fails := goodIn_r _ [16, 17, 25, 26, 27, 28, 29, 30, 31, 32, 33, 34, 35, 36, 37, 38, 39, 40, 41, 42, 43, 44, 45, 46, 47, 48] (by decide +kernel) (by decide +kernel)
set_option maxRecDepth 20000 in
theorem gX3_lag_X3_fails : GoodIn wsX3_lag (wsV RX3 77 RX3 yX3_fails wsX3_fails) := goodIn_app (goodIn_of _ (by decide +kernel)) ggX3_lag_X3_fails
set_option maxRecDepth 20000 in
theorem ggX3_lag_X3_waiting : GoodIn wsX3_lag wsX3_waiting := goodIn_r _ [21, 22, 23, 24, 25, 26, 27, 28, 29, 30, 31, 32, 33, 34, 35, 36, 37, 38, 39, 40, 41, 42, 43, 44, 45, 46, 47, 48] (by decide +kernel) (by decide +kernel)
set_option maxRecDepth 20000 in
theorem gX3_lag_X3_waiting : GoodIn wsX3_lag (wsV RX3 85 RX3 yX3_waiting wsX3_waiting) := goodIn_app (goodIn_of _ (by decide +kernel)) ggX3_lag_X3_waiting
theorem dX3_lag_0 : decode cX3_lag 0 = .ok (.aload_n 0, 1) := by decide +kernel
theorem dX3_lag_1 : decode cX3_lag 1 = .ok (.aload_n 0, 1) := by decide +kernel
theorem dX3_lag_2 : decode cX3_lag 2 = .ok (.iload_n 1, 1) := by decide +kernel
theorem dX3_lag_3 : decode cX3_lag 3 = .ok (.invokevirtual 81, 3) := by decide +kernel
theorem dX3_lag_6 : decode cX3_lag 6 = .ok (.ifCond .eq 16, 3) := by decide +kernel
theorem dX3_lag_9 : decode cX3_lag 9 = .ok (.aload_n 0, 1) := by decide +kernel
theorem dX3_lag_10 : decode cX3_lag 10 = .ok (.iload_n 2, 1) := by decide +kernel
theorem dX3_lag_11 : decode cX3_lag 11 = .ok (.invokevirtual 81, 3) := by decide +kernel
theorem dX3_lag_14 : decode cX3_lag 14 = .ok (.ifCond .eq 8, 3) := by decide +kernel
theorem dX3_lag_17 : decode cX3_lag 17 = .ok (.iload_n 1, 1) := by decide +kernel
theorem dX3_lag_18 : decode cX3_lag 18 = .ok (.iload_n 2, 1) := by decide +kernel
theorem dX3_lag_19 : decode cX3_lag 19 = .ok (.if_icmp .ne 7, 3) := by decide +kernel
theorem dX3_lag_22 : decode cX3_lag 22 = .ok (.iconst 1, 1) := by decide +kernel
theorem dX3_lag_23 : decode cX3_lag 23 = .ok (.goto 4, 3) := by decide +kernel
theorem dX3_lag_26 : decode cX3_lag 26 = .ok (.iconst 0, 1) := by decide +kernel
theorem dX3_lag_27 : decode cX3_lag 27 = .ok (.iconst 0, 1) := by decide +kernel
theorem dX3_lag_28 : decode cX3_lag 28 = .ok (.invokevirtual 77, 3) := by decide +kernel
theorem dX3_lag_31 : decode cX3_lag 31 = .ok (.ifCond .eq 5, 3) := by decide +kernel
theorem dX3_lag_34 : decode cX3_lag 34 = .ok (.lconst 0, 1) := by decide +kernel
theorem dX3_lag_35 : decode cX3_lag 35 = .ok (.lreturn, 1) := by decide +kernel
theorem dX3_lag_36 : decode cX3_lag 36 = .ok (.aload_n 0, 1) := by decide +kernel
theorem dX3_lag_37 : decode cX3_lag 37 = .ok (.iload_n 1, 1) := by decide +kernel
theorem dX3_lag_38 : decode cX3_lag 38 = .ok (.invokevirtual 85, 3) := by decide +kernel
theorem dX3_lag_41 : decode cX3_lag 41 = .ok (.ifCond .eq 11, 3) := by decide +kernel
theorem dX3_lag_44 : decode cX3_lag 44 = .ok (.aload_n 0, 1) := by decide +kernel
theorem dX3_lag_45 : decode cX3_lag 45 = .ok (.iload_n 2, 1) := by decide +kernel
theorem dX3_lag_46 : decode cX3_lag 46 = .ok (.invokevirtual 85, 3) := by decide +kernel
theorem dX3_lag_49 : decode cX3_lag 49 = .ok (.ifCond .ne 5, 3) := by decide +kernel
theorem dX3_lag_52 : decode cX3_lag 52 = .ok (.lconst 0, 1) := by decide +kernel
theorem dX3_lag_53 : decode cX3_lag 53 = .ok (.lreturn, 1) := by decide +kernel
theorem dX3_lag_54 : decode cX3_lag 54 = .ok (.aload_n 0, 1) := by decide +kernel
theorem dX3_lag_55 : decode cX3_lag 55 = .ok (.getfield 27, 3) := by decide +kernel
theorem dX3_lag_58 : decode cX3_lag 58 = .ok (.iload_n 1, 1) := by decide +kernel
theorem dX3_lag_59 : decode cX3_lag 59 = .ok (.laload, 1) := by decide +kernel
theorem dX3_lag_60 : decode cX3_lag 60 = .ok (.aload_n 0, 1) := by decide +kernel
theorem dX3_lag_61 : decode cX3_lag 61 = .ok (.getfield 30, 3) := by decide +kernel
theorem dX3_lag_64 : decode cX3_lag 64 = .ok (.bipush 8, 2) := by decide +kernel
theorem dX3_lag_66 : decode cX3_lag 66 = .ok (.iload_n 1, 1) := by decide +kernel
theorem dX3_lag_67 : decode cX3_lag 67 = .ok (.imul, 1) := by decide +kernel
theorem dX3_lag_68 : decode cX3_lag 68 = .ok (.iload_n 2, 1) := by decide +kernel
theorem dX3_lag_69 : decode cX3_lag 69 = .ok (.iadd, 1) := by decide +kernel
theorem dX3_lag_70 : decode cX3_lag 70 = .ok (.laload, 1) := by decide +kernel
theorem dX3_lag_71 : decode cX3_lag 71 = .ok (.lsub, 1) := by decide +kernel
theorem dX3_lag_72 : decode cX3_lag 72 = .ok (.aload_n 0, 1) := by decide +kernel
theorem dX3_lag_73 : decode cX3_lag 73 = .ok (.getfield 27, 3) := by decide +kernel
theorem dX3_lag_76 : decode cX3_lag 76 = .ok (.iload_n 2, 1) := by decide +kernel
theorem dX3_lag_77 : decode cX3_lag 77 = .ok (.laload, 1) := by decide +kernel
theorem dX3_lag_78 : decode cX3_lag 78 = .ok (.aload_n 0, 1) := by decide +kernel
theorem dX3_lag_79 : decode cX3_lag 79 = .ok (.getfield 30, 3) := by decide +kernel
theorem dX3_lag_82 : decode cX3_lag 82 = .ok (.bipush 8, 2) := by decide +kernel
theorem dX3_lag_84 : decode cX3_lag 84 = .ok (.iload_n 2, 1) := by decide +kernel
theorem dX3_lag_85 : decode cX3_lag 85 = .ok (.imul, 1) := by decide +kernel
theorem dX3_lag_86 : decode cX3_lag 86 = .ok (.iload_n 1, 1) := by decide +kernel
theorem dX3_lag_87 : decode cX3_lag 87 = .ok (.iadd, 1) := by decide +kernel
theorem dX3_lag_88 : decode cX3_lag 88 = .ok (.laload, 1) := by decide +kernel
theorem dX3_lag_89 : decode cX3_lag 89 = .ok (.lsub, 1) := by decide +kernel
theorem dX3_lag_90 : decode cX3_lag 90 = .ok (.lsub, 1) := by decide +kernel
theorem dX3_lag_91 : decode cX3_lag 91 = .ok (.lreturn, 1) := by decide +kernel
set_option maxRecDepth 20000 in
theorem ggX3_count_X3_in : GoodIn wsX3_count wsX3_in := goodIn_r _ [19] (by decide +kernel) (by decide +kernel)
set_option maxRecDepth 20000 in
theorem gX3_count_X3_in : GoodIn wsX3_count (va_wsS RX3 66 yX3_in wsX3_in) := goodIn_app (goodIn_of _ (by decide +kernel)) ggX3_count_X3_in
set_option maxRecDepth 20000 in
theorem ggX3_count_X3_waiting : GoodIn wsX3_count wsX3_waiting := goodIn_r _ [23, 3, 24, 25, 26, 27, 28, 29, 30, 31, 32, 33, 34, 35, 36, 37, 38, 39, 40, 41, 42, 43, 44, 45, 46, 47, 48, 49] (by decide +kernel) (by decide +kernel)
set_option maxRecDepth 20000 in
theorem gX3_count_X3_waiting : GoodIn wsX3_count (wsV RX3 85 RX3 yX3_waiting wsX3_waiting) := goodIn_app (goodIn_of _ (by decide +kernel)) ggX3_count_X3_waiting
theorem dX3_count_0 : decode cX3_count 0 = .ok (.aload_n 0, 1) := by decide +kernel
theorem dX3_count_1 : decode cX3_count 1 = .ok (.iconst 0, 1) := by decide +kernel
theorem dX3_count_2 : decode cX3_count 2 = .ok (.putfield 61, 3) := by decide +kernel
theorem dX3_count_5 : decode cX3_count 5 = .ok (.lconst 0, 1) := by decide +kernel
theorem dX3_count_6 : decode cX3_count 6 = .ok (.lstore_n 2, 1) := by decide +kernel
theorem dX3_count_7 : decode cX3_count 7 = .ok (.iload_n 1, 1) := by decide +kernel
theorem dX3_count_8 : decode cX3_count 8 = .ok (.tableswitch 130 0 7 #[48, 84, 95, 101, 107, 113, 118, 124], 48) := by decide +kernel
theorem dX3_count_56 : decode cX3_count 56 = .ok (.iconst 0, 1) := by decide +kernel
theorem dX3_count_57 : decode cX3_count 57 = .ok (.istore 4, 2) := by decide +kernel
theorem dX3_count_59 : decode cX3_count 59 = .ok (.iload 4, 2) := by decide +kernel
theorem dX3_count_61 : decode cX3_count 61 = .ok (.bipush 8, 2) := by decide +kernel
theorem dX3_count_63 : decode cX3_count 63 = .ok (.if_icmp .ge 27, 3) := by decide +kernel
theorem dX3_count_66 : decode cX3_count 66 = .ok (.lload_n 2, 1) := by decide +kernel
theorem dX3_count_67 : decode cX3_count 67 = .ok (.aload_n 0, 1) := by decide +kernel
theorem dX3_count_68 : decode cX3_count 68 = .ok (.getfield 7, 3) := by decide +kernel
theorem dX3_count_71 : decode cX3_count 71 = .ok (.iload 4, 2) := by decide +kernel
theorem dX3_count_73 : decode cX3_count 73 = .ok (.baload, 1) := by decide +kernel
theorem dX3_count_74 : decode cX3_count 74 = .ok (.ifCond .eq 7, 3) := by decide +kernel
theorem dX3_count_77 : decode cX3_count 77 = .ok (.lconst 1, 1) := by decide +kernel
theorem dX3_count_78 : decode cX3_count 78 = .ok (.goto 4, 3) := by decide +kernel
theorem dX3_count_81 : decode cX3_count 81 = .ok (.lconst 0, 1) := by decide +kernel
theorem dX3_count_82 : decode cX3_count 82 = .ok (.ladd, 1) := by decide +kernel
theorem dX3_count_83 : decode cX3_count 83 = .ok (.lstore_n 2, 1) := by decide +kernel
theorem dX3_count_84 : decode cX3_count 84 = .ok (.iinc 4 1, 3) := by decide +kernel
theorem dX3_count_87 : decode cX3_count 87 = .ok (.goto (-28), 3) := by decide +kernel
theorem dX3_count_90 : decode cX3_count 90 = .ok (.lload_n 2, 1) := by decide +kernel
theorem dX3_count_91 : decode cX3_count 91 = .ok (.lreturn, 1) := by decide +kernel
theorem dX3_count_92 : decode cX3_count 92 = .ok (.aload_n 0, 1) := by decide +kernel
theorem dX3_count_93 : decode cX3_count 93 = .ok (.getfield 70, 3) := by decide +kernel
theorem dX3_count_96 : decode cX3_count 96 = .ok (.aload_n 0, 1) := by decide +kernel
theorem dX3_count_97 : decode cX3_count 97 = .ok (.getfield 124, 3) := by decide +kernel
theorem dX3_count_100 : decode cX3_count 100 = .ok (.isub, 1) := by decide +kernel
theorem dX3_count_101 : decode cX3_count 101 = .ok (.i2l, 1) := by decide +kernel
theorem dX3_count_102 : decode cX3_count 102 = .ok (.lreturn, 1) := by decide +kernel
theorem dX3_count_103 : decode cX3_count 103 = .ok (.aload_n 0, 1) := by decide +kernel
theorem dX3_count_104 : decode cX3_count 104 = .ok (.getfield 124, 3) := by decide +kernel
theorem dX3_count_107 : decode cX3_count 107 = .ok (.i2l, 1) := by decide +kernel
theorem dX3_count_108 : decode cX3_count 108 = .ok (.lreturn, 1) := by decide +kernel
theorem dX3_count_109 : decode cX3_count 109 = .ok (.aload_n 0, 1) := by decide +kernel
theorem dX3_count_110 : decode cX3_count 110 = .ok (.getfield 144, 3) := by decide +kernel
theorem dX3_count_113 : decode cX3_count 113 = .ok (.i2l, 1) := by decide +kernel
theorem dX3_count_114 : decode cX3_count 114 = .ok (.lreturn, 1) := by decide +kernel
theorem dX3_count_115 : decode cX3_count 115 = .ok (.aload_n 0, 1) := by decide +kernel
theorem dX3_count_116 : decode cX3_count 116 = .ok (.getfield 120, 3) := by decide +kernel
theorem dX3_count_119 : decode cX3_count 119 = .ok (.i2l, 1) := by decide +kernel
theorem dX3_count_120 : decode cX3_count 120 = .ok (.lreturn, 1) := by decide +kernel
theorem dX3_count_121 : decode cX3_count 121 = .ok (.aload_n 0, 1) := by decide +kernel
theorem dX3_count_122 : decode cX3_count 122 = .ok (.getfield 141, 3) := by decide +kernel
theorem dX3_count_125 : decode cX3_count 125 = .ok (.lreturn, 1) := by decide +kernel
theorem dX3_count_126 : decode cX3_count 126 = .ok (.aload_n 0, 1) := by decide +kernel
theorem dX3_count_127 : decode cX3_count 127 = .ok (.getfield 57, 3) := by decide +kernel
theorem dX3_count_130 : decode cX3_count 130 = .ok (.i2l, 1) := by decide +kernel
theorem dX3_count_131 : decode cX3_count 131 = .ok (.lreturn, 1) := by decide +kernel
theorem dX3_count_132 : decode cX3_count 132 = .ok (.aload_n 0, 1) := by decide +kernel
theorem dX3_count_133 : decode cX3_count 133 = .ok (.getfield 92, 3) := by decide +kernel
theorem dX3_count_136 : decode cX3_count 136 = .ok (.i2l, 1) := by decide +kernel
theorem dX3_count_137 : decode cX3_count 137 = .ok (.lreturn, 1) := by decide +kernel
theorem dX3_count_138 : decode cX3_count 138 = .ok (.iload_n 1, 1) := by decide +kernel
theorem dX3_count_139 : decode cX3_count 139 = .ok (.i2l, 1) := by decide +kernel
theorem dX3_count_140 : decode cX3_count 140 = .ok (.ldc2_w 149, 3) := by decide +kernel
theorem dX3_count_143 : decode cX3_count 143 = .ok (.ldc2_w 151, 3) := by decide +kernel
theorem dX3_count_146 : decode cX3_count 146 = .ok (.invokestatic 66, 3) := by decide +kernel
theorem dX3_count_149 : decode cX3_count 149 = .ok (.ifCond .eq 13, 3) := by decide +kernel
theorem dX3_count_152 : decode cX3_count 152 = .ok (.aload_n 0, 1) := by decide +kernel
theorem dX3_count_153 : decode cX3_count 153 = .ok (.getfield 24, 3) := by decide +kernel
theorem dX3_count_156 : decode cX3_count 156 = .ok (.iload_n 1, 1) := by decide +kernel
theorem dX3_count_157 : decode cX3_count 157 = .ok (.bipush 8, 2) := by decide +kernel
theorem dX3_count_159 : decode cX3_count 159 = .ok (.isub, 1) := by decide +kernel
theorem dX3_count_160 : decode cX3_count 160 = .ok (.laload, 1) := by decide +kernel
theorem dX3_count_161 : decode cX3_count 161 = .ok (.lreturn, 1) := by decide +kernel
theorem dX3_count_162 : decode cX3_count 162 = .ok (.iload_n 1, 1) := by decide +kernel
theorem dX3_count_163 : decode cX3_count 163 = .ok (.i2l, 1) := by decide +kernel
theorem dX3_count_164 : decode cX3_count 164 = .ok (.ldc2_w 153, 3) := by decide +kernel
theorem dX3_count_167 : decode cX3_count 167 = .ok (.ldc2_w 155, 3) := by decide +kernel
theorem dX3_count_170 : decode cX3_count 170 = .ok (.invokestatic 66, 3) := by decide +kernel
theorem dX3_count_173 : decode cX3_count 173 = .ok (.ifCond .eq 15, 3) := by decide +kernel
theorem dX3_count_176 : decode cX3_count 176 = .ok (.aload_n 0, 1) := by decide +kernel
theorem dX3_count_177 : decode cX3_count 177 = .ok (.iload_n 1, 1) := by decide +kernel
theorem dX3_count_178 : decode cX3_count 178 = .ok (.bipush 16, 2) := by decide +kernel
theorem dX3_count_180 : decode cX3_count 180 = .ok (.isub, 1) := by decide +kernel
theorem dX3_count_181 : decode cX3_count 181 = .ok (.invokevirtual 85, 3) := by decide +kernel
theorem dX3_count_184 : decode cX3_count 184 = .ok (.i2l, 1) := by decide +kernel
theorem dX3_count_185 : decode cX3_count 185 = .ok (.goto 6, 3) := by decide +kernel
theorem dX3_count_188 : decode cX3_count 188 = .ok (.ldc2_w 157, 3) := by decide +kernel
theorem dX3_count_191 : decode cX3_count 191 = .ok (.lreturn, 1) := by decide +kernel
theorem dJ9_abs_0f7a4_0 : decode cJ9_abs_0f7a4 0 = .ok (.iload_n 0, 1) := by decide +kernel
theorem dJ9_abs_0f7a4_1 : decode cJ9_abs_0f7a4 1 = .ok (.ifCond .ge 8, 3) := by decide +kernel
theorem dJ9_abs_0f7a4_4 : decode cJ9_abs_0f7a4 4 = .ok (.iload_n 0, 1) := by decide +kernel
theorem dJ9_abs_0f7a4_5 : decode cJ9_abs_0f7a4 5 = .ok (.ineg, 1) := by decide +kernel
theorem dJ9_abs_0f7a4_6 : decode cJ9_abs_0f7a4 6 = .ok (.goto 4, 3) := by decide +kernel
theorem dJ9_abs_0f7a4_9 : decode cJ9_abs_0f7a4 9 = .ok (.iload_n 0, 1) := by decide +kernel
theorem dJ9_abs_0f7a4_10 : decode cJ9_abs_0f7a4 10 = .ok (.ireturn, 1) := by decide +kernel
theorem dJ9_max_f86c9_0 : decode cJ9_max_f86c9 0 = .ok (.lload_n 0, 1) := by decide +kernel
theorem dJ9_max_f86c9_1 : decode cJ9_max_f86c9 1 = .ok (.lload_n 2, 1) := by decide +kernel
theorem dJ9_max_f86c9_2 : decode cJ9_max_f86c9 2 = .ok (.lcmp, 1) := by decide +kernel
theorem dJ9_max_f86c9_3 : decode cJ9_max_f86c9 3 = .ok (.ifCond .lt 7, 3) := by decide +kernel
theorem dJ9_max_f86c9_6 : decode cJ9_max_f86c9 6 = .ok (.lload_n 0, 1) := by decide +kernel
theorem dJ9_max_f86c9_7 : decode cJ9_max_f86c9 7 = .ok (.goto 4, 3) := by decide +kernel
theorem dJ9_max_f86c9_10 : decode cJ9_max_f86c9 10 = .ok (.lload_n 2, 1) := by decide +kernel
theorem dJ9_max_f86c9_11 : decode cJ9_max_f86c9 11 = .ok (.lreturn, 1) := by decide +kernel
set_option maxRecDepth 20000 in
theorem ggL_client_X2_client : GoodIn wsL_client wsX2_client := goodIn_ca (goodIn_r _ [6, 7, 8, 9, 10, 11, 12, 5, 13, 14, 15, 16, 17, 18, 19, 20, 21, 22, 23, 24, 25, 26, 27, 28, 29, 30, 31, 32, 33, 34, 35, 36, 37, 38, 39, 40, 41, 42, 43, 44, 45] (by decide +kernel) (by decide +kernel)) (goodIn_sub (fun _ h => List.mem_cons_of_mem _ (List.mem_append_right _ h)) (by decide +kernel))
set_option maxRecDepth 20000 in
theorem gL_client_X2_client : GoodIn wsL_client (wsV RL 7 RX2 yX2_client wsX2_client) := goodIn_app (goodIn_of _ (by decide +kernel)) ggL_client_X2_client
theorem dL_client_0 : decode cL_client 0 = .ok (.aload_n 0, 1) := by decide +kernel
theorem dL_client_1 : decode cL_client 1 = .ok (.iload_n 1, 1) := by decide +kernel
theorem dL_client_2 : decode cL_client 2 = .ok (.iload_n 2, 1) := by decide +kernel
theorem dL_client_3 : decode cL_client 3 = .ok (.iload_n 3, 1) := by decide +kernel
theorem dL_client_4 : decode cL_client 4 = .ok (.invokevirtual 7, 3) := by decide +kernel
theorem dL_client_7 : decode cL_client 7 = .ok (.goto 7, 3) := by decide +kernel
theorem dL_client_10 : decode cL_client 10 = .ok (.astore 4, 2) := by decide +kernel
theorem dL_client_12 : decode cL_client 12 = .ok (.iconst 1, 1) := by decide +kernel
theorem dL_client_13 : decode cL_client 13 = .ok (.ireturn, 1) := by decide +kernel
theorem dL_client_14 : decode cL_client 14 = .ok (.iconst 0, 1) := by decide +kernel
theorem dL_client_15 : decode cL_client 15 = .ok (.ireturn, 1) := by decide +kernel
set_option maxRecDepth 20000 in
theorem ggL_gone_X2_gone : GoodIn wsL_gone wsX2_gone := goodIn_ca (goodIn_ca (goodIn_r _ [7, 8, 9, 10, 11, 12, 13, 14, 6, 15, 16, 17, 18, 19, 20, 21, 22, 23, 24, 25, 26, 27, 28, 29, 30, 31, 32, 33, 34, 35, 36, 37, 38, 39, 40, 41, 42, 43, 44, 45, 46, 47, 48, 49, 50, 51, 52, 53, 54, 55, 56] (by decide +kernel) (by decide +kernel)) (goodIn_sub (fun _ h => List.mem_cons_of_mem _ (List.mem_append_left _ (List.mem_append_right _ h))) (by decide +kernel))) (goodIn_sub (fun _ h => List.mem_cons_of_mem _ (List.mem_append_right _ h)) (by decide +kernel))
set_option maxRecDepth 20000 in
theorem gL_gone_X2_gone : GoodIn wsL_gone (wsV RL 15 RX2 yX2_gone wsX2_gone) := goodIn_app (goodIn_of _ (by decide +kernel)) ggL_gone_X2_gone
theorem dL_gone_0 : decode cL_gone 0 = .ok (.aload_n 0, 1) := by decide +kernel
theorem dL_gone_1 : decode cL_gone 1 = .ok (.iload_n 1, 1) := by decide +kernel
theorem dL_gone_2 : decode cL_gone 2 = .ok (.invokevirtual 15, 3) := by decide +kernel
theorem dL_gone_5 : decode cL_gone 5 = .ok (.goto 9, 3) := by decide +kernel
theorem dL_gone_8 : decode cL_gone 8 = .ok (.astore_n 2, 1) := by decide +kernel
theorem dL_gone_9 : decode cL_gone 9 = .ok (.iconst 1, 1) := by decide +kernel
theorem dL_gone_10 : decode cL_gone 10 = .ok (.ireturn, 1) := by decide +kernel
theorem dL_gone_11 : decode cL_gone 11 = .ok (.astore_n 2, 1) := by decide +kernel
theorem dL_gone_12 : decode cL_gone 12 = .ok (.iconst 2, 1) := by decide +kernel
theorem dL_gone_13 : decode cL_gone 13 = .ok (.ireturn, 1) := by decide +kernel
theorem dL_gone_14 : decode cL_gone 14 = .ok (.iconst 0, 1) := by decide +kernel
theorem dL_gone_15 : decode cL_gone 15 = .ok (.ireturn, 1) := by decide +kernel
set_option maxRecDepth 20000 in
theorem ggL_submit_X2_submit : GoodIn wsL_submit wsX2_submit := goodIn_ca (goodIn_r _ [6, 7, 8, 9, 10, 11, 12, 13, 14, 15, 16, 5, 17, 18, 19, 20, 21, 22, 23, 24, 25, 26, 27, 28, 29, 30, 31, 32, 33, 34, 35, 36, 37, 38, 39, 40, 41, 42, 43, 44, 45, 46, 47, 48, 49, 50, 51, 52, 53, 54, 55, 56, 57, 58, 59, 60, 61, 62, 63, 64, 65, 66, 67, 68, 69, 70, 71, 72, 73, 74, 75, 76, 77, 78, 79, 80, 81, 82, 83, 84, 85, 86, 87, 88, 89, 90, 91, 92, 93, 94, 95, 96, 97] (by decide +kernel) (by decide +kernel)) (goodIn_sub (fun _ h => List.mem_cons_of_mem _ (List.mem_append_right _ h)) (by decide +kernel))
set_option maxRecDepth 20000 in
theorem gL_submit_X2_submit : GoodIn wsL_submit (wsV RL 21 RX2 yX2_submit wsX2_submit) := goodIn_app (goodIn_of _ (by decide +kernel)) ggL_submit_X2_submit
theorem dL_submit_0 : decode cL_submit 0 = .ok (.aload 6, 2) := by decide +kernel
