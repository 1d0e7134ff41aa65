theorem dX2_dispatch_0 : decode cX2_dispatch 0 = .ok (.aload_n 0, 1) := by decide +kernel
theorem dX2_dispatch_1 : decode cX2_dispatch 1 = .ok (.getfield 19, 3) := by decide +kernel
theorem dX2_dispatch_4 : decode cX2_dispatch 4 = .ok (.aload_n 0, 1) := by decide +kernel
theorem dX2_dispatch_5 : decode cX2_dispatch 5 = .ok (.getfield 79, 3) := by decide +kernel
theorem dX2_dispatch_8 : decode cX2_dispatch 8 = .ok (.invokevirtual 86, 3) := by decide +kernel
theorem dX2_dispatch_11 : decode cX2_dispatch 11 = .ok (.istore_n 1, 1) := by decide +kernel
theorem dX2_dispatch_12 : decode cX2_dispatch 12 = .ok (.iload_n 1, 1) := by decide +kernel
theorem dX2_dispatch_13 : decode cX2_dispatch 13 = .ok (.iconst (-1), 1) := by decide +kernel
theorem dX2_dispatch_14 : decode cX2_dispatch 14 = .ok (.if_icmp .eq 11, 3) := by decide +kernel
theorem dX2_dispatch_17 : decode cX2_dispatch 17 = .ok (.aload_n 0, 1) := by decide +kernel
theorem dX2_dispatch_18 : decode cX2_dispatch 18 = .ok (.iload_n 1, 1) := by decide +kernel
theorem dX2_dispatch_19 : decode cX2_dispatch 19 = .ok (.iconst 3, 1) := by decide +kernel
theorem dX2_dispatch_20 : decode cX2_dispatch 20 = .ok (.invokevirtual 90, 3) := by decide +kernel
theorem dX2_dispatch_23 : decode cX2_dispatch 23 = .ok (.iload_n 1, 1) := by decide +kernel
theorem dX2_dispatch_24 : decode cX2_dispatch 24 = .ok (.ireturn, 1) := by decide +kernel
theorem dX2_dispatch_25 : decode cX2_dispatch 25 = .ok (.aload_n 0, 1) := by decide +kernel
theorem dX2_dispatch_26 : decode cX2_dispatch 26 = .ok (.getfield 23, 3) := by decide +kernel
theorem dX2_dispatch_29 : decode cX2_dispatch 29 = .ok (.iconst (-1), 1) := by decide +kernel
theorem dX2_dispatch_30 : decode cX2_dispatch 30 = .ok (.if_icmp .ne 7, 3) := by decide +kernel
theorem dX2_dispatch_33 : decode cX2_dispatch 33 = .ok (.aload_n 0, 1) := by decide +kernel
theorem dX2_dispatch_34 : decode cX2_dispatch 34 = .ok (.invokevirtual 94, 3) := by decide +kernel
theorem dX2_dispatch_37 : decode cX2_dispatch 37 = .ok (.aload_n 0, 1) := by decide +kernel
theorem dX2_dispatch_38 : decode cX2_dispatch 38 = .ok (.getfield 19, 3) := by decide +kernel
theorem dX2_dispatch_41 : decode cX2_dispatch 41 = .ok (.aload_n 0, 1) := by decide +kernel
theorem dX2_dispatch_42 : decode cX2_dispatch 42 = .ok (.getfield 23, 3) := by decide +kernel
theorem dX2_dispatch_45 : decode cX2_dispatch 45 = .ok (.aload_n 0, 1) := by decide +kernel
theorem dX2_dispatch_46 : decode cX2_dispatch 46 = .ok (.getfield 97, 3) := by decide +kernel
theorem dX2_dispatch_49 : decode cX2_dispatch 49 = .ok (.invokevirtual 100, 3) := by decide +kernel
theorem dX2_dispatch_52 : decode cX2_dispatch 52 = .ok (.istore_n 2, 1) := by decide +kernel
theorem dX2_dispatch_53 : decode cX2_dispatch 53 = .ok (.iload_n 2, 1) := by decide +kernel
theorem dX2_dispatch_54 : decode cX2_dispatch 54 = .ok (.iconst (-1), 1) := by decide +kernel
theorem dX2_dispatch_55 : decode cX2_dispatch 55 = .ok (.if_icmp .eq 9, 3) := by decide +kernel
theorem dX2_dispatch_58 : decode cX2_dispatch 58 = .ok (.aload_n 0, 1) := by decide +kernel
theorem dX2_dispatch_59 : decode cX2_dispatch 59 = .ok (.iload_n 2, 1) := by decide +kernel
theorem dX2_dispatch_60 : decode cX2_dispatch 60 = .ok (.iconst 2, 1) := by decide +kernel
theorem dX2_dispatch_61 : decode cX2_dispatch 61 = .ok (.invokevirtual 90, 3) := by decide +kernel
theorem dX2_dispatch_64 : decode cX2_dispatch 64 = .ok (.iload_n 2, 1) := by decide +kernel
theorem dX2_dispatch_65 : decode cX2_dispatch 65 = .ok (.ireturn, 1) := by decide +kernel
set_option maxRecDepth 20000 in
theorem ggX2_pass_X2_isWithin : GoodIn wsX2_pass wsX2_isWithin := goodIn_r _ [8] (by decide +kernel) (by decide +kernel)
set_option maxRecDepth 20000 in
theorem gX2_pass_X2_isWithin : GoodIn wsX2_pass (va_wsS RX2 27 yX2_isWithin wsX2_isWithin) := goodIn_app (goodIn_of _ (by decide +kernel)) ggX2_pass_X2_isWithin
theorem dX2_pass_0 : decode cX2_pass 0 = .ok (.iload_n 1, 1) := by decide +kernel
theorem dX2_pass_1 : decode cX2_pass 1 = .ok (.iconst 0, 1) := by decide +kernel
theorem dX2_pass_2 : decode cX2_pass 2 = .ok (.ldc 71, 2) := by decide +kernel
theorem dX2_pass_4 : decode cX2_pass 4 = .ok (.invokestatic 27, 3) := by decide +kernel
theorem dX2_pass_7 : decode cX2_pass 7 = .ok (.ifCond .ne 11, 3) := by decide +kernel
theorem dX2_pass_10 : decode cX2_pass 10 = .ok (.new 31, 3) := by decide +kernel
theorem dX2_pass_13 : decode cX2_pass 13 = .ok (.dup, 1) := by decide +kernel
theorem dX2_pass_14 : decode cX2_pass 14 = .ok (.invokespecial 33, 3) := by decide +kernel
theorem dX2_pass_17 : decode cX2_pass 17 = .ok (.athrow, 1) := by decide +kernel
theorem dX2_pass_18 : decode cX2_pass 18 = .ok (.aload_n 0, 1) := by decide +kernel
theorem dX2_pass_19 : decode cX2_pass 19 = .ok (.dup, 1) := by decide +kernel
theorem dX2_pass_20 : decode cX2_pass 20 = .ok (.getfield 79, 3) := by decide +kernel
theorem dX2_pass_23 : decode cX2_pass 23 = .ok (.iload_n 1, 1) := by decide +kernel
theorem dX2_pass_24 : decode cX2_pass 24 = .ok (.i2l, 1) := by decide +kernel
theorem dX2_pass_25 : decode cX2_pass 25 = .ok (.ladd, 1) := by decide +kernel
theorem dX2_pass_26 : decode cX2_pass 26 = .ok (.putfield 79, 3) := by decide +kernel
theorem dX2_pass_29 : decode cX2_pass 29 = .ok (.aload_n 0, 1) := by decide +kernel
theorem dX2_pass_30 : decode cX2_pass 30 = .ok (.getfield 79, 3) := by decide +kernel
theorem dX2_pass_33 : decode cX2_pass 33 = .ok (.lreturn, 1) := by decide +kernel
set_option maxRecDepth 20000 in
theorem ggX2_state_X1_isTicket : GoodIn wsX2_state wsX1_isTicket := goodIn_r _ [8, 9, 25, 26, 27, 28, 29, 30, 31, 32, 33, 34, 35, 36] (by decide +kernel) (by decide +kernel)
set_option maxRecDepth 20000 in
theorem gX2_state_X1_isTicket : GoodIn wsX2_state (wsV RX2 104 RX1 yX1_isTicket wsX1_isTicket) := goodIn_app (goodIn_of _ (by decide +kernel)) ggX2_state_X1_isTicket
set_option maxRecDepth 20000 in
theorem ggX2_state_X1_stateOf : GoodIn wsX2_state wsX1_stateOf := goodIn_r _ [13, 14, 15, 16, 25, 26, 27, 28, 29, 30, 31, 32, 33, 34, 35, 36] (by decide +kernel) (by decide +kernel)
set_option maxRecDepth 20000 in
theorem gX2_state_X1_stateOf : GoodIn wsX2_state (wsV RX2 110 RX1 yX1_stateOf wsX1_stateOf) := goodIn_app (goodIn_of _ (by decide +kernel)) ggX2_state_X1_stateOf
theorem dX2_state_0 : decode cX2_state 0 = .ok (.aload_n 0, 1) := by decide +kernel
theorem dX2_state_1 : decode cX2_state 1 = .ok (.getfield 19, 3) := by decide +kernel
theorem dX2_state_4 : decode cX2_state 4 = .ok (.iload_n 1, 1) := by decide +kernel
theorem dX2_state_5 : decode cX2_state 5 = .ok (.invokevirtual 104, 3) := by decide +kernel
theorem dX2_state_8 : decode cX2_state 8 = .ok (.ifCond .ne 11, 3) := by decide +kernel
theorem dX2_state_11 : decode cX2_state 11 = .ok (.new 107, 3) := by decide +kernel
theorem dX2_state_14 : decode cX2_state 14 = .ok (.dup, 1) := by decide +kernel
theorem dX2_state_15 : decode cX2_state 15 = .ok (.invokespecial 109, 3) := by decide +kernel
theorem dX2_state_18 : decode cX2_state 18 = .ok (.athrow, 1) := by decide +kernel
theorem dX2_state_19 : decode cX2_state 19 = .ok (.aload_n 0, 1) := by decide +kernel
theorem dX2_state_20 : decode cX2_state 20 = .ok (.getfield 19, 3) := by decide +kernel
theorem dX2_state_23 : decode cX2_state 23 = .ok (.iload_n 1, 1) := by decide +kernel
theorem dX2_state_24 : decode cX2_state 24 = .ok (.invokevirtual 110, 3) := by decide +kernel
theorem dX2_state_27 : decode cX2_state 27 = .ok (.ireturn, 1) := by decide +kernel
set_option maxRecDepth 20000 in
theorem ggX2_order_X1_servedAt : GoodIn wsX2_order wsX1_servedAt := goodIn_r _ [6, 7, 8, 17, 18, 19, 20, 21, 22, 23, 24, 25, 26, 27, 28] (by decide +kernel) (by decide +kernel)
set_option maxRecDepth 20000 in
theorem gX2_order_X1_servedAt : GoodIn wsX2_order (wsV RX2 113 RX1 yX1_servedAt wsX1_servedAt) := goodIn_app (goodIn_of _ (by decide +kernel)) ggX2_order_X1_servedAt
theorem dX2_order_0 : decode cX2_order 0 = .ok (.aload_n 0, 1) := by decide +kernel
theorem dX2_order_1 : decode cX2_order 1 = .ok (.getfield 19, 3) := by decide +kernel
theorem dX2_order_4 : decode cX2_order 4 = .ok (.iload_n 1, 1) := by decide +kernel
theorem dX2_order_5 : decode cX2_order 5 = .ok (.invokevirtual 113, 3) := by decide +kernel
theorem dX2_order_8 : decode cX2_order 8 = .ok (.ireturn, 1) := by decide +kernel
set_option maxRecDepth 20000 in
theorem ggX2_tag_X2_requireThere : GoodIn wsX2_tag wsX2_requireThere := goodIn_ca (goodIn_r _ [7, 8, 9, 2, 10, 11, 6, 12, 13, 14, 15, 16, 17, 18, 24, 25, 26, 27, 28, 29, 30, 31, 32, 33, 34, 35, 36, 37, 38] (by decide +kernel) (by decide +kernel)) (goodIn_sub (fun _ h => List.mem_cons_of_mem _ (List.mem_append_right _ h)) (by decide +kernel))
set_option maxRecDepth 20000 in
theorem gX2_tag_X2_requireThere : GoodIn wsX2_tag (wsV RX2 50 RX2 yX2_requireThere wsX2_requireThere) := goodIn_app (goodIn_of _ (by decide +kernel)) ggX2_tag_X2_requireThere
set_option maxRecDepth 20000 in
theorem ggX2_tag_X0_tagOf : GoodIn wsX2_tag wsX0_tagOf := goodIn_r _ [22, 23, 32, 33, 34, 35, 36, 37, 38] (by decide +kernel) (by decide +kernel)
set_option maxRecDepth 20000 in
theorem gX2_tag_X0_tagOf : GoodIn wsX2_tag (wsV RX2 116 RX0 yX0_tagOf wsX0_tagOf) := goodIn_app (goodIn_of _ (by decide +kernel)) ggX2_tag_X0_tagOf
theorem dX2_tag_0 : decode cX2_tag 0 = .ok (.iload_n 1, 1) := by decide +kernel
theorem dX2_tag_1 : decode cX2_tag 1 = .ok (.bipush 8, 2) := by decide +kernel
theorem dX2_tag_3 : decode cX2_tag 3 = .ok (.if_icmp .ne 8, 3) := by decide +kernel
theorem dX2_tag_6 : decode cX2_tag 6 = .ok (.aload_n 0, 1) := by decide +kernel
theorem dX2_tag_7 : decode cX2_tag 7 = .ok (.getfield 38, 3) := by decide +kernel
theorem dX2_tag_10 : decode cX2_tag 10 = .ok (.lreturn, 1) := by decide +kernel
theorem dX2_tag_11 : decode cX2_tag 11 = .ok (.aload_n 0, 1) := by decide +kernel
theorem dX2_tag_12 : decode cX2_tag 12 = .ok (.iload_n 1, 1) := by decide +kernel
theorem dX2_tag_13 : decode cX2_tag 13 = .ok (.invokevirtual 50, 3) := by decide +kernel
theorem dX2_tag_16 : decode cX2_tag 16 = .ok (.aload_n 0, 1) := by decide +kernel
theorem dX2_tag_17 : decode cX2_tag 17 = .ok (.getfield 10, 3) := by decide +kernel
theorem dX2_tag_20 : decode cX2_tag 20 = .ok (.iload_n 1, 1) := by decide +kernel
theorem dX2_tag_21 : decode cX2_tag 21 = .ok (.invokevirtual 116, 3) := by decide +kernel
theorem dX2_tag_24 : decode cX2_tag 24 = .ok (.lreturn, 1) := by decide +kernel
set_option maxRecDepth 20000 in
theorem ggX2_lag_X2_requireThere : GoodIn wsX2_lag wsX2_requireThere := goodIn_ca (goodIn_r _ [8, 1, 2, 3, 9, 10, 7, 11, 12, 13, 14, 15, 16, 17, 24, 25, 26, 27, 28, 29, 30, 31, 32, 33, 34, 35, 36, 37, 38] (by decide +kernel) (by decide +kernel)) (goodIn_sub (fun _ h => List.mem_cons_of_mem _ (List.mem_append_right _ h)) (by decide +kernel))
set_option maxRecDepth 20000 in
theorem gX2_lag_X2_requireThere : GoodIn wsX2_lag (wsV RX2 50 RX2 yX2_requireThere wsX2_requireThere) := goodIn_app (goodIn_of _ (by decide +kernel)) ggX2_lag_X2_requireThere
set_option maxRecDepth 20000 in
theorem ggX2_lag_X0_leadOf : GoodIn wsX2_lag wsX0_leadOf := goodIn_r _ [21, 22, 23, 32, 33, 34, 35, 36, 37, 38] (by decide +kernel) (by decide +kernel)
set_option maxRecDepth 20000 in
theorem gX2_lag_X0_leadOf : GoodIn wsX2_lag (wsV RX2 120 RX0 yX0_leadOf wsX0_leadOf) := goodIn_app (goodIn_of _ (by decide +kernel)) ggX2_lag_X0_leadOf
theorem dX2_lag_0 : decode cX2_lag 0 = .ok (.aload_n 0, 1) := by decide +kernel
theorem dX2_lag_1 : decode cX2_lag 1 = .ok (.iload_n 1, 1) := by decide +kernel
theorem dX2_lag_2 : decode cX2_lag 2 = .ok (.invokevirtual 50, 3) := by decide +kernel
theorem dX2_lag_5 : decode cX2_lag 5 = .ok (.aload_n 0, 1) := by decide +kernel
theorem dX2_lag_6 : decode cX2_lag 6 = .ok (.iload_n 2, 1) := by decide +kernel
theorem dX2_lag_7 : decode cX2_lag 7 = .ok (.invokevirtual 50, 3) := by decide +kernel
theorem dX2_lag_10 : decode cX2_lag 10 = .ok (.iload_n 1, 1) := by decide +kernel
theorem dX2_lag_11 : decode cX2_lag 11 = .ok (.iload_n 2, 1) := by decide +kernel
theorem dX2_lag_12 : decode cX2_lag 12 = .ok (.if_icmp .ne 11, 3) := by decide +kernel
theorem dX2_lag_15 : decode cX2_lag 15 = .ok (.new 31, 3) := by decide +kernel
theorem dX2_lag_18 : decode cX2_lag 18 = .ok (.dup, 1) := by decide +kernel
theorem dX2_lag_19 : decode cX2_lag 19 = .ok (.invokespecial 33, 3) := by decide +kernel
theorem dX2_lag_22 : decode cX2_lag 22 = .ok (.athrow, 1) := by decide +kernel
theorem dX2_lag_23 : decode cX2_lag 23 = .ok (.aload_n 0, 1) := by decide +kernel
theorem dX2_lag_24 : decode cX2_lag 24 = .ok (.getfield 10, 3) := by decide +kernel
theorem dX2_lag_27 : decode cX2_lag 27 = .ok (.iload_n 1, 1) := by decide +kernel
theorem dX2_lag_28 : decode cX2_lag 28 = .ok (.iload_n 2, 1) := by decide +kernel
theorem dX2_lag_29 : decode cX2_lag 29 = .ok (.invokevirtual 120, 3) := by decide +kernel
theorem dX2_lag_32 : decode cX2_lag 32 = .ok (.lreturn, 1) := by decide +kernel
set_option maxRecDepth 20000 in
theorem ggX2_count_X2_isWithin : GoodIn wsX2_count wsX2_isWithin := goodIn_r _ [5] (by decide +kernel) (by decide +kernel)
set_option maxRecDepth 20000 in
theorem gX2_count_X2_isWithin : GoodIn wsX2_count (va_wsS RX2 27 yX2_isWithin wsX2_isWithin) := goodIn_app (goodIn_of _ (by decide +kernel)) ggX2_count_X2_isWithin
set_option maxRecDepth 20000 in
theorem ggX2_count_X0_sectorsOf : GoodIn wsX2_count wsX0_sectorsOf := goodIn_r _ [10, 11, 56, 57, 58, 59, 60, 61, 62] (by decide +kernel) (by decide +kernel)
set_option maxRecDepth 20000 in
theorem gX2_count_X0_sectorsOf : GoodIn wsX2_count (wsV RX2 124 RX0 yX0_sectorsOf wsX0_sectorsOf) := goodIn_app (goodIn_of _ (by decide +kernel)) ggX2_count_X0_sectorsOf
set_option maxRecDepth 20000 in
theorem ggX2_count_X0_waitingOf : GoodIn wsX2_count wsX0_waitingOf := goodIn_r _ [15, 16, 56, 57, 58, 59, 60, 61, 62] (by decide +kernel) (by decide +kernel)
set_option maxRecDepth 20000 in
theorem gX2_count_X0_waitingOf : GoodIn wsX2_count (wsV RX2 54 RX0 yX0_waitingOf wsX0_waitingOf) := goodIn_app (goodIn_of _ (by decide +kernel)) ggX2_count_X0_waitingOf
set_option maxRecDepth 20000 in
theorem ggX2_count_X2_countOfDisk : GoodIn wsX2_count wsX2_countOfDisk := goodIn_r _ [20, 1, 21, 22, 23, 24, 25, 26, 27, 28, 29, 9, 30, 31, 32, 33, 34, 35, 36, 37, 38, 39, 40, 41, 42, 43, 44, 45, 46, 47, 48, 49, 50, 51, 52, 53, 54, 55, 56, 57, 58, 59, 60, 61, 62, 63, 64, 65, 66, 67, 68, 69, 70, 71, 72, 73, 74] (by decide +kernel) (by decide +kernel)
set_option maxRecDepth 20000 in
theorem gX2_count_X2_countOfDisk : GoodIn wsX2_count (wsV RX2 127 RX2 yX2_countOfDisk wsX2_countOfDisk) := goodIn_app (goodIn_of _ (by decide +kernel)) ggX2_count_X2_countOfDisk
theorem dX2_count_0 : decode cX2_count 0 = .ok (.iload_n 1, 1) := by decide +kernel
theorem dX2_count_1 : decode cX2_count 1 = .ok (.bipush 8, 2) := by decide +kernel
theorem dX2_count_3 : decode cX2_count 3 = .ok (.bipush 15, 2) := by decide +kernel
theorem dX2_count_5 : decode cX2_count 5 = .ok (.invokestatic 27, 3) := by decide +kernel
theorem dX2_count_8 : decode cX2_count 8 = .ok (.ifCond .eq 16, 3) := by decide +kernel
theorem dX2_count_11 : decode cX2_count 11 = .ok (.aload_n 0, 1) := by decide +kernel
theorem dX2_count_12 : decode cX2_count 12 = .ok (.getfield 10, 3) := by decide +kernel
theorem dX2_count_15 : decode cX2_count 15 = .ok (.iload_n 1, 1) := by decide +kernel
theorem dX2_count_16 : decode cX2_count 16 = .ok (.bipush 8, 2) := by decide +kernel
theorem dX2_count_18 : decode cX2_count 18 = .ok (.isub, 1) := by decide +kernel
theorem dX2_count_19 : decode cX2_count 19 = .ok (.invokevirtual 124, 3) := by decide +kernel
theorem dX2_count_22 : decode cX2_count 22 = .ok (.i2l, 1) := by decide +kernel
theorem dX2_count_23 : decode cX2_count 23 = .ok (.lreturn, 1) := by decide +kernel
theorem dX2_count_24 : decode cX2_count 24 = .ok (.iload_n 1, 1) := by decide +kernel
theorem dX2_count_25 : decode cX2_count 25 = .ok (.bipush 16, 2) := by decide +kernel
theorem dX2_count_27 : decode cX2_count 27 = .ok (.bipush 23, 2) := by decide +kernel
theorem dX2_count_29 : decode cX2_count 29 = .ok (.invokestatic 27, 3) := by decide +kernel
theorem dX2_count_32 : decode cX2_count 32 = .ok (.ifCond .eq 16, 3) := by decide +kernel
theorem dX2_count_35 : decode cX2_count 35 = .ok (.aload_n 0, 1) := by decide +kernel
theorem dX2_count_36 : decode cX2_count 36 = .ok (.getfield 10, 3) := by decide +kernel
theorem dX2_count_39 : decode cX2_count 39 = .ok (.iload_n 1, 1) := by decide +kernel
theorem dX2_count_40 : decode cX2_count 40 = .ok (.bipush 16, 2) := by decide +kernel
theorem dX2_count_42 : decode cX2_count 42 = .ok (.isub, 1) := by decide +kernel
theorem dX2_count_43 : decode cX2_count 43 = .ok (.invokevirtual 54, 3) := by decide +kernel
theorem dX2_count_46 : decode cX2_count 46 = .ok (.i2l, 1) := by decide +kernel
theorem dX2_count_47 : decode cX2_count 47 = .ok (.lreturn, 1) := by decide +kernel
theorem dX2_count_48 : decode cX2_count 48 = .ok (.aload_n 0, 1) := by decide +kernel
theorem dX2_count_49 : decode cX2_count 49 = .ok (.iload_n 1, 1) := by decide +kernel
theorem dX2_count_50 : decode cX2_count 50 = .ok (.invokevirtual 127, 3) := by decide +kernel
theorem dX2_count_53 : decode cX2_count 53 = .ok (.lreturn, 1) := by decide +kernel
set_option maxRecDepth 20000 in
theorem ggX2_countOfDisk_X0_howMany : GoodIn wsX2_countOfDisk wsX0_howMany := goodIn_r _ [12, 13, 38, 39, 40, 41, 42, 43, 44] (by decide +kernel) (by decide +kernel)
set_option maxRecDepth 20000 in
theorem gX2_countOfDisk_X0_howMany : GoodIn wsX2_countOfDisk (wsV RX2 130 RX0 yX0_howMany wsX0_howMany) := goodIn_app (goodIn_of _ (by decide +kernel)) ggX2_countOfDisk_X0_howMany
set_option maxRecDepth 20000 in
theorem ggX2_countOfDisk_X1_waiting : GoodIn wsX2_countOfDisk wsX1_waiting := goodIn_r _ [18, 19, 20, 45, 46, 47, 48, 49, 50, 51, 52, 53, 54, 55, 56] (by decide +kernel) (by decide +kernel)
set_option maxRecDepth 20000 in
theorem gX2_countOfDisk_X1_waiting : GoodIn wsX2_countOfDisk (wsV RX2 134 RX1 yX1_waiting wsX1_waiting) := goodIn_app (goodIn_of _ (by decide +kernel)) ggX2_countOfDisk_X1_waiting
set_option maxRecDepth 20000 in
theorem ggX2_countOfDisk_X1_served : GoodIn wsX2_countOfDisk wsX1_served := goodIn_r _ [24, 20, 45, 46, 47, 48, 49, 50, 51, 52, 53, 54, 55, 56] (by decide +kernel) (by decide +kernel)
set_option maxRecDepth 20000 in
theorem gX2_countOfDisk_X1_served : GoodIn wsX2_countOfDisk (wsV RX2 137 RX1 yX1_served wsX1_served) := goodIn_app (goodIn_of _ (by decide +kernel)) ggX2_countOfDisk_X1_served
set_option maxRecDepth 20000 in
theorem ggX2_countOfDisk_X1_urgent : GoodIn wsX2_countOfDisk wsX1_urgent := goodIn_r _ [28, 29, 45, 46, 47, 48, 49, 50, 51, 52, 53, 54, 55, 56] (by decide +kernel) (by decide +kernel)
set_option maxRecDepth 20000 in
theorem gX2_countOfDisk_X1_urgent : GoodIn wsX2_countOfDisk (wsV RX2 140 RX1 yX1_urgent wsX1_urgent) := goodIn_app (goodIn_of _ (by decide +kernel)) ggX2_countOfDisk_X1_urgent
theorem dX2_countOfDisk_0 : decode cX2_countOfDisk 0 = .ok (.iload_n 1, 1) := by decide +kernel
theorem dX2_countOfDisk_1 : decode cX2_countOfDisk 1 = .ok (.tableswitch 106 0 7 #[47, 56, 65, 74, 83, 89, 94, 100], 47) := by decide +kernel
theorem dX2_countOfDisk_48 : decode cX2_countOfDisk 48 = .ok (.aload_n 0, 1) := by decide +kernel
theorem dX2_countOfDisk_49 : decode cX2_countOfDisk 49 = .ok (.getfield 10, 3) := by decide +kernel
theorem dX2_countOfDisk_52 : decode cX2_countOfDisk 52 = .ok (.invokevirtual 130, 3) := by decide +kernel
theorem dX2_countOfDisk_55 : decode cX2_countOfDisk 55 = .ok (.i2l, 1) := by decide +kernel
theorem dX2_countOfDisk_56 : decode cX2_countOfDisk 56 = .ok (.lreturn, 1) := by decide +kernel
theorem dX2_countOfDisk_57 : decode cX2_countOfDisk 57 = .ok (.aload_n 0, 1) := by decide +kernel
theorem dX2_countOfDisk_58 : decode cX2_countOfDisk 58 = .ok (.getfield 19, 3) := by decide +kernel
theorem dX2_countOfDisk_61 : decode cX2_countOfDisk 61 = .ok (.invokevirtual 134, 3) := by decide +kernel
theorem dX2_countOfDisk_64 : decode cX2_countOfDisk 64 = .ok (.i2l, 1) := by decide +kernel
theorem dX2_countOfDisk_65 : decode cX2_countOfDisk 65 = .ok (.lreturn, 1) := by decide +kernel
theorem dX2_countOfDisk_66 : decode cX2_countOfDisk 66 = .ok (.aload_n 0, 1) := by decide +kernel
theorem dX2_countOfDisk_67 : decode cX2_countOfDisk 67 = .ok (.getfield 19, 3) := by decide +kernel
theorem dX2_countOfDisk_70 : decode cX2_countOfDisk 70 = .ok (.invokevirtual 137, 3) := by decide +kernel
theorem dX2_countOfDisk_73 : decode cX2_countOfDisk 73 = .ok (.i2l, 1) := by decide +kernel
theorem dX2_countOfDisk_74 : decode cX2_countOfDisk 74 = .ok (.lreturn, 1) := by decide +kernel
theorem dX2_countOfDisk_75 : decode cX2_countOfDisk 75 = .ok (.aload_n 0, 1) := by decide +kernel
theorem dX2_countOfDisk_76 : decode cX2_countOfDisk 76 = .ok (.getfield 19, 3) := by decide +kernel
theorem dX2_countOfDisk_79 : decode cX2_countOfDisk 79 = .ok (.invokevirtual 140, 3) := by decide +kernel
theorem dX2_countOfDisk_82 : decode cX2_countOfDisk 82 = .ok (.i2l, 1) := by decide +kernel
theorem dX2_countOfDisk_83 : decode cX2_countOfDisk 83 = .ok (.lreturn, 1) := by decide +kernel
theorem dX2_countOfDisk_84 : decode cX2_countOfDisk 84 = .ok (.aload_n 0, 1) := by decide +kernel
theorem dX2_countOfDisk_85 : decode cX2_countOfDisk 85 = .ok (.getfield 97, 3) := by decide +kernel
theorem dX2_countOfDisk_88 : decode cX2_countOfDisk 88 = .ok (.i2l, 1) := by decide +kernel
theorem dX2_countOfDisk_89 : decode cX2_countOfDisk 89 = .ok (.lreturn, 1) := by decide +kernel
theorem dX2_countOfDisk_90 : decode cX2_countOfDisk 90 = .ok (.aload_n 0, 1) := by decide +kernel
theorem dX2_countOfDisk_91 : decode cX2_countOfDisk 91 = .ok (.getfield 143, 3) := by decide +kernel
theorem dX2_countOfDisk_94 : decode cX2_countOfDisk 94 = .ok (.lreturn, 1) := by decide +kernel
theorem dX2_countOfDisk_95 : decode cX2_countOfDisk 95 = .ok (.aload_n 0, 1) := by decide +kernel
theorem dX2_countOfDisk_96 : decode cX2_countOfDisk 96 = .ok (.getfield 23, 3) := by decide +kernel
theorem dX2_countOfDisk_99 : decode cX2_countOfDisk 99 = .ok (.i2l, 1) := by decide +kernel
theorem dX2_countOfDisk_100 : decode cX2_countOfDisk 100 = .ok (.lreturn, 1) := by decide +kernel
theorem dX2_countOfDisk_101 : decode cX2_countOfDisk 101 = .ok (.aload_n 0, 1) := by decide +kernel
theorem dX2_countOfDisk_102 : decode cX2_countOfDisk 102 = .ok (.getfield 146, 3) := by decide +kernel
theorem dX2_countOfDisk_105 : decode cX2_countOfDisk 105 = .ok (.i2l, 1) := by decide +kernel
theorem dX2_countOfDisk_106 : decode cX2_countOfDisk 106 = .ok (.lreturn, 1) := by decide +kernel
theorem dX2_countOfDisk_107 : decode cX2_countOfDisk 107 = .ok (.ldc2_w 149, 3) := by decide +kernel
theorem dX2_countOfDisk_110 : decode cX2_countOfDisk 110 = .ok (.lreturn, 1) := by decide +kernel
set_option maxRecDepth 20000 in
theorem ggX2_requireThere_X2_isWithin : GoodIn wsX2_requireThere wsX2_isWithin := goodIn_r _ [7] (by decide +kernel) (by decide +kernel)
set_option maxRecDepth 20000 in
theorem gX2_requireThere_X2_isWithin : GoodIn wsX2_requireThere (va_wsS RX2 27 yX2_isWithin wsX2_isWithin) := goodIn_app (goodIn_of _ (by decide +kernel)) ggX2_requireThere_X2_isWithin
set_option maxRecDepth 20000 in
theorem ggX2_requireThere_X0_isThere : GoodIn wsX2_requireThere wsX0_isThere := goodIn_r _ [12, 13, 22, 23, 24, 25, 26, 27, 28] (by decide +kernel) (by decide +kernel)
set_option maxRecDepth 20000 in
theorem gX2_requireThere_X0_isThere : GoodIn wsX2_requireThere (wsV RX2 34 RX0 yX0_isThere wsX0_isThere) := goodIn_app (goodIn_of _ (by decide +kernel)) ggX2_requireThere_X0_isThere
theorem dX2_requireThere_0 : decode cX2_requireThere 0 = .ok (.iload_n 1, 1) := by decide +kernel
theorem dX2_requireThere_1 : decode cX2_requireThere 1 = .ok (.iconst 0, 1) := by decide +kernel
theorem dX2_requireThere_2 : decode cX2_requireThere 2 = .ok (.bipush 7, 2) := by decide +kernel
theorem dX2_requireThere_4 : decode cX2_requireThere 4 = .ok (.invokestatic 27, 3) := by decide +kernel
theorem dX2_requireThere_7 : decode cX2_requireThere 7 = .ok (.ifCond .eq 14, 3) := by decide +kernel
theorem dX2_requireThere_10 : decode cX2_requireThere 10 = .ok (.aload_n 0, 1) := by decide +kernel
theorem dX2_requireThere_11 : decode cX2_requireThere 11 = .ok (.getfield 10, 3) := by decide +kernel
theorem dX2_requireThere_14 : decode cX2_requireThere 14 = .ok (.iload_n 1, 1) := by decide +kernel
theorem dX2_requireThere_15 : decode cX2_requireThere 15 = .ok (.invokevirtual 34, 3) := by decide +kernel
theorem dX2_requireThere_18 : decode cX2_requireThere 18 = .ok (.ifCond .ne 11, 3) := by decide +kernel
theorem dX2_requireThere_21 : decode cX2_requireThere 21 = .ok (.new 31, 3) := by decide +kernel
theorem dX2_requireThere_24 : decode cX2_requireThere 24 = .ok (.dup, 1) := by decide +kernel
theorem dX2_requireThere_25 : decode cX2_requireThere 25 = .ok (.invokespecial 33, 3) := by decide +kernel
theorem dX2_requireThere_28 : decode cX2_requireThere 28 = .ok (.athrow, 1) := by decide +kernel
theorem dX2_requireThere_29 : decode cX2_requireThere 29 = .ok (.return_, 1) := by decide +kernel
theorem dX2_isWithin_0 : decode cX2_isWithin 0 = .ok (.iload_n 0, 1) := by decide +kernel
theorem dX2_isWithin_1 : decode cX2_isWithin 1 = .ok (.iload_n 1, 1) := by decide +kernel
theorem dX2_isWithin_2 : decode cX2_isWithin 2 = .ok (.if_icmp .lt 12, 3) := by decide +kernel
theorem dX2_isWithin_5 : decode cX2_isWithin 5 = .ok (.iload_n 0, 1) := by decide +kernel
theorem dX2_isWithin_6 : decode cX2_isWithin 6 = .ok (.iload_n 2, 1) := by decide +kernel
theorem dX2_isWithin_7 : decode cX2_isWithin 7 = .ok (.if_icmp .gt 7, 3) := by decide +kernel
theorem dX2_isWithin_10 : decode cX2_isWithin 10 = .ok (.iconst 1, 1) := by decide +kernel
theorem dX2_isWithin_11 : decode cX2_isWithin 11 = .ok (.goto 4, 3) := by decide +kernel
theorem dX2_isWithin_14 : decode cX2_isWithin 14 = .ok (.iconst 0, 1) := by decide +kernel
theorem dX2_isWithin_15 : decode cX2_isWithin 15 = .ok (.ireturn, 1) := by decide +kernel
set_option maxRecDepth 20000 in
theorem ggX2_areOnDisk_X2_isWithin : GoodIn wsX2_areOnDisk wsX2_isWithin := goodIn_r _ [5] (by decide +kernel) (by decide +kernel)
set_option maxRecDepth 20000 in
theorem gX2_areOnDisk_X2_isWithin : GoodIn wsX2_areOnDisk (va_wsS RX2 27 yX2_isWithin wsX2_isWithin) := goodIn_app (goodIn_of _ (by decide +kernel)) ggX2_areOnDisk_X2_isWithin
theorem dX2_areOnDisk_0 : decode cX2_areOnDisk 0 = .ok (.iload_n 1, 1) := by decide +kernel
theorem dX2_areOnDisk_1 : decode cX2_areOnDisk 1 = .ok (.iconst 1, 1) := by decide +kernel
theorem dX2_areOnDisk_2 : decode cX2_areOnDisk 2 = .ok (.bipush 64, 2) := by decide +kernel
theorem dX2_areOnDisk_4 : decode cX2_areOnDisk 4 = .ok (.invokestatic 27, 3) := by decide +kernel
theorem dX2_areOnDisk_7 : decode cX2_areOnDisk 7 = .ok (.ifCond .eq 19, 3) := by decide +kernel
theorem dX2_areOnDisk_10 : decode cX2_areOnDisk 10 = .ok (.iload_n 0, 1) := by decide +kernel
theorem dX2_areOnDisk_11 : decode cX2_areOnDisk 11 = .ok (.iconst 0, 1) := by decide +kernel
theorem dX2_areOnDisk_12 : decode cX2_areOnDisk 12 = .ok (.ldc 151, 2) := by decide +kernel
theorem dX2_areOnDisk_14 : decode cX2_areOnDisk 14 = .ok (.iload_n 1, 1) := by decide +kernel
theorem dX2_areOnDisk_15 : decode cX2_areOnDisk 15 = .ok (.isub, 1) := by decide +kernel
theorem dX2_areOnDisk_16 : decode cX2_areOnDisk 16 = .ok (.invokestatic 27, 3) := by decide +kernel
theorem dX2_areOnDisk_19 : decode cX2_areOnDisk 19 = .ok (.ifCond .eq 7, 3) := by decide +kernel
theorem dX2_areOnDisk_22 : decode cX2_areOnDisk 22 = .ok (.iconst 1, 1) := by decide +kernel
theorem dX2_areOnDisk_23 : decode cX2_areOnDisk 23 = .ok (.goto 4, 3) := by decide +kernel
theorem dX2_areOnDisk_26 : decode cX2_areOnDisk 26 = .ok (.iconst 0, 1) := by decide +kernel
theorem dX2_areOnDisk_27 : decode cX2_areOnDisk 27 = .ok (.ireturn, 1) := by decide +kernel
set_option maxRecDepth 20000 in
theorem ggX2_beginSlice_X0_nextInTurn : GoodIn wsX2_beginSlice wsX0_nextInTurn := goodIn_r _ [9, 10, 11, 29, 30, 31, 32, 33, 34, 35] (by decide +kernel) (by decide +kernel)
set_option maxRecDepth 20000 in
theorem gX2_beginSlice_X0_nextInTurn : GoodIn wsX2_beginSlice (wsV RX2 152 RX0 yX0_nextInTurn wsX0_nextInTurn) := goodIn_app (goodIn_of _ (by decide +kernel)) ggX2_beginSlice_X0_nextInTurn
set_option maxRecDepth 20000 in
theorem ggX2_beginSlice_X0_budgetOf : GoodIn wsX2_beginSlice wsX0_budgetOf := goodIn_r _ [15, 16, 29, 30, 31, 32, 33, 34, 35] (by decide +kernel) (by decide +kernel)
set_option maxRecDepth 20000 in
theorem gX2_beginSlice_X0_budgetOf : GoodIn wsX2_beginSlice (wsV RX2 155 RX0 yX0_budgetOf wsX0_budgetOf) := goodIn_app (goodIn_of _ (by decide +kernel)) ggX2_beginSlice_X0_budgetOf
set_option maxRecDepth 20000 in
theorem ggX2_beginSlice_X0_tagOf : GoodIn wsX2_beginSlice wsX0_tagOf := goodIn_r _ [20, 11, 29, 30, 31, 32, 33, 34, 35] (by decide +kernel) (by decide +kernel)
set_option maxRecDepth 20000 in
theorem gX2_beginSlice_X0_tagOf : GoodIn wsX2_beginSlice (wsV RX2 116 RX0 yX0_tagOf wsX0_tagOf) := goodIn_app (goodIn_of _ (by decide +kernel)) ggX2_beginSlice_X0_tagOf
theorem dX2_beginSlice_0 : decode cX2_beginSlice 0 = .ok (.aload_n 0, 1) := by decide +kernel
theorem dX2_beginSlice_1 : decode cX2_beginSlice 1 = .ok (.getfield 10, 3) := by decide +kernel
theorem dX2_beginSlice_4 : decode cX2_beginSlice 4 = .ok (.invokevirtual 152, 3) := by decide +kernel
theorem dX2_beginSlice_7 : decode cX2_beginSlice 7 = .ok (.istore_n 1, 1) := by decide +kernel
theorem dX2_beginSlice_8 : decode cX2_beginSlice 8 = .ok (.iload_n 1, 1) := by decide +kernel
theorem dX2_beginSlice_9 : decode cX2_beginSlice 9 = .ok (.iconst (-1), 1) := by decide +kernel
theorem dX2_beginSlice_10 : decode cX2_beginSlice 10 = .ok (.if_icmp .eq 32, 3) := by decide +kernel
theorem dX2_beginSlice_13 : decode cX2_beginSlice 13 = .ok (.aload_n 0, 1) := by decide +kernel
theorem dX2_beginSlice_14 : decode cX2_beginSlice 14 = .ok (.iload_n 1, 1) := by decide +kernel
theorem dX2_beginSlice_15 : decode cX2_beginSlice 15 = .ok (.putfield 23, 3) := by decide +kernel
theorem dX2_beginSlice_18 : decode cX2_beginSlice 18 = .ok (.aload_n 0, 1) := by decide +kernel
theorem dX2_beginSlice_19 : decode cX2_beginSlice 19 = .ok (.aload_n 0, 1) := by decide +kernel
theorem dX2_beginSlice_20 : decode cX2_beginSlice 20 = .ok (.getfield 10, 3) := by decide +kernel
theorem dX2_beginSlice_23 : decode cX2_beginSlice 23 = .ok (.iload_n 1, 1) := by decide +kernel
theorem dX2_beginSlice_24 : decode cX2_beginSlice 24 = .ok (.invokevirtual 155, 3) := by decide +kernel
theorem dX2_beginSlice_27 : decode cX2_beginSlice 27 = .ok (.putfield 146, 3) := by decide +kernel
theorem dX2_beginSlice_30 : decode cX2_beginSlice 30 = .ok (.aload_n 0, 1) := by decide +kernel
theorem dX2_beginSlice_31 : decode cX2_beginSlice 31 = .ok (.aload_n 0, 1) := by decide +kernel
theorem dX2_beginSlice_32 : decode cX2_beginSlice 32 = .ok (.getfield 10, 3) := by decide +kernel
theorem dX2_beginSlice_35 : decode cX2_beginSlice 35 = .ok (.iload_n 1, 1) := by decide +kernel
theorem dX2_beginSlice_36 : decode cX2_beginSlice 36 = .ok (.invokevirtual 116, 3) := by decide +kernel
theorem dX2_beginSlice_39 : decode cX2_beginSlice 39 = .ok (.putfield 38, 3) := by decide +kernel
theorem dX2_beginSlice_42 : decode cX2_beginSlice 42 = .ok (.return_, 1) := by decide +kernel
theorem dX2_endSlice_0 : decode cX2_endSlice 0 = .ok (.aload_n 0, 1) := by decide +kernel
theorem dX2_endSlice_1 : decode cX2_endSlice 1 = .ok (.iconst (-1), 1) := by decide +kernel
theorem dX2_endSlice_2 : decode cX2_endSlice 2 = .ok (.putfield 23, 3) := by decide +kernel
theorem dX2_endSlice_5 : decode cX2_endSlice 5 = .ok (.aload_n 0, 1) := by decide +kernel
theorem dX2_endSlice_6 : decode cX2_endSlice 6 = .ok (.iconst 0, 1) := by decide +kernel
theorem dX2_endSlice_7 : decode cX2_endSlice 7 = .ok (.putfield 146, 3) := by decide +kernel
theorem dX2_endSlice_10 : decode cX2_endSlice 10 = .ok (.return_, 1) := by decide +kernel
set_option maxRecDepth 20000 in
theorem ggX2_serve_X1_ownerOf : GoodIn wsX2_serve wsX1_ownerOf := goodIn_r _ [9, 10, 92, 93, 94, 95, 96, 97, 98, 99, 100, 101, 102, 103] (by decide +kernel) (by decide +kernel)
set_option maxRecDepth 20000 in
theorem gX2_serve_X1_ownerOf : GoodIn wsX2_serve (wsV RX2 158 RX1 yX1_ownerOf wsX1_ownerOf) := goodIn_app (goodIn_of _ (by decide +kernel)) ggX2_serve_X1_ownerOf
set_option maxRecDepth 20000 in
theorem ggX2_serve_X1_sizeOf : GoodIn wsX2_serve wsX1_sizeOf := goodIn_r _ [14, 15, 92, 93, 94, 95, 96, 97, 98, 99, 100, 101, 102, 103] (by decide +kernel) (by decide +kernel)
set_option maxRecDepth 20000 in
theorem gX2_serve_X1_sizeOf : GoodIn wsX2_serve (wsV RX2 161 RX1 yX1_sizeOf wsX1_sizeOf) := goodIn_app (goodIn_of _ (by decide +kernel)) ggX2_serve_X1_sizeOf
set_option maxRecDepth 20000 in
theorem ggX2_serve_X1_firstOf : GoodIn wsX2_serve wsX1_firstOf := goodIn_r _ [19, 20, 92, 93, 94, 95, 96, 97, 98, 99, 100, 101, 102, 103] (by decide +kernel) (by decide +kernel)
set_option maxRecDepth 20000 in
theorem gX2_serve_X1_firstOf : GoodIn wsX2_serve (wsV RX2 164 RX1 yX1_firstOf wsX1_firstOf) := goodIn_app (goodIn_of _ (by decide +kernel)) ggX2_serve_X1_firstOf
set_option maxRecDepth 20000 in
theorem ggX2_serve_X2_moveHead : GoodIn wsX2_serve wsX2_moveHead := goodIn_r _ [25, 26, 27, 28, 29, 30, 31, 32, 84, 85, 86, 87, 88, 89, 90, 91] (by decide +kernel) (by decide +kernel)
set_option maxRecDepth 20000 in
theorem gX2_serve_X2_moveHead : GoodIn wsX2_serve (wsV RX2 167 RX2 yX2_moveHead wsX2_moveHead) := goodIn_app (goodIn_of _ (by decide +kernel)) ggX2_serve_X2_moveHead
set_option maxRecDepth 20000 in
theorem ggX2_serve_X1_markServed : GoodIn wsX2_serve wsX1_markServed := goodIn_r _ [36, 37, 38, 39, 40, 41, 42, 43, 44, 45, 46, 8, 47, 10, 48, 20, 15, 92, 93, 94, 95, 96, 97, 98, 99, 100, 101, 102, 103] (by decide +kernel) (by decide +kernel)
set_option maxRecDepth 20000 in
theorem gX2_serve_X1_markServed : GoodIn wsX2_serve (wsV RX2 170 RX1 yX1_markServed wsX1_markServed) := goodIn_app (goodIn_of _ (by decide +kernel)) ggX2_serve_X1_markServed
set_option maxRecDepth 20000 in
theorem ggX2_serve_X0_noteService : GoodIn wsX2_serve wsX0_noteService := goodIn_r _ [53, 54, 55, 56, 57, 58, 104, 105, 106, 107, 108, 109, 110] (by decide +kernel) (by decide +kernel)
set_option maxRecDepth 20000 in
theorem gX2_serve_X0_noteService : GoodIn wsX2_serve (wsV RX2 173 RX0 yX0_noteService wsX0_noteService) := goodIn_app (goodIn_of _ (by decide +kernel)) ggX2_serve_X0_noteService
set_option maxRecDepth 20000 in
theorem ggX2_serve_X2_takeFromSlice : GoodIn wsX2_serve wsX2_takeFromSlice := goodIn_r _ [62, 63, 2, 3, 64, 65, 66, 52, 67, 57, 68, 69, 70, 24, 71, 84, 85, 86, 87, 88, 89, 90, 91, 104, 105, 106, 107, 108, 109, 110] (by decide +kernel) (by decide +kernel)
set_option maxRecDepth 20000 in
theorem gX2_serve_X2_takeFromSlice : GoodIn wsX2_serve (wsV RX2 176 RX2 yX2_takeFromSlice wsX2_takeFromSlice) := goodIn_app (goodIn_of _ (by decide +kernel)) ggX2_serve_X2_takeFromSlice
set_option maxRecDepth 20000 in
theorem ggX2_serve_X1_waiting : GoodIn wsX2_serve wsX1_waiting := goodIn_r _ [75, 42, 40, 92, 93, 94, 95, 96, 97, 98, 99, 100, 101, 102, 103] (by decide +kernel) (by decide +kernel)
set_option maxRecDepth 20000 in
theorem gX2_serve_X1_waiting : GoodIn wsX2_serve (wsV RX2 134 RX1 yX1_waiting wsX1_waiting) := goodIn_app (goodIn_of _ (by decide +kernel)) ggX2_serve_X1_waiting
set_option maxRecDepth 20000 in
theorem ggX2_serve_X0_greatestTag : GoodIn wsX2_serve wsX0_greatestTag := goodIn_r _ [79, 80, 55, 81, 82, 29, 83, 104, 105, 106, 107, 108, 109, 110] (by decide +kernel) (by decide +kernel)
set_option maxRecDepth 20000 in
theorem gX2_serve_X0_greatestTag : GoodIn wsX2_serve (wsV RX2 179 RX0 yX0_greatestTag wsX0_greatestTag) := goodIn_app (goodIn_of _ (by decide +kernel)) ggX2_serve_X0_greatestTag
theorem dX2_serve_0 : decode cX2_serve 0 = .ok (.aload_n 0, 1) := by decide +kernel
theorem dX2_serve_1 : decode cX2_serve 1 = .ok (.getfield 19, 3) := by decide +kernel
theorem dX2_serve_4 : decode cX2_serve 4 = .ok (.iload_n 1, 1) := by decide +kernel
theorem dX2_serve_5 : decode cX2_serve 5 = .ok (.invokevirtual 158, 3) := by decide +kernel
theorem dX2_serve_8 : decode cX2_serve 8 = .ok (.istore_n 3, 1) := by decide +kernel
theorem dX2_serve_9 : decode cX2_serve 9 = .ok (.aload_n 0, 1) := by decide +kernel
theorem dX2_serve_10 : decode cX2_serve 10 = .ok (.getfield 19, 3) := by decide +kernel
theorem dX2_serve_13 : decode cX2_serve 13 = .ok (.iload_n 1, 1) := by decide +kernel
theorem dX2_serve_14 : decode cX2_serve 14 = .ok (.invokevirtual 161, 3) := by decide +kernel
theorem dX2_serve_17 : decode cX2_serve 17 = .ok (.istore 4, 2) := by decide +kernel
theorem dX2_serve_19 : decode cX2_serve 19 = .ok (.aload_n 0, 1) := by decide +kernel
theorem dX2_serve_20 : decode cX2_serve 20 = .ok (.aload_n 0, 1) := by decide +kernel
theorem dX2_serve_21 : decode cX2_serve 21 = .ok (.getfield 19, 3) := by decide +kernel
theorem dX2_serve_24 : decode cX2_serve 24 = .ok (.iload_n 1, 1) := by decide +kernel
theorem dX2_serve_25 : decode cX2_serve 25 = .ok (.invokevirtual 164, 3) := by decide +kernel
theorem dX2_serve_28 : decode cX2_serve 28 = .ok (.iload 4, 2) := by decide +kernel
theorem dX2_serve_30 : decode cX2_serve 30 = .ok (.invokevirtual 167, 3) := by decide +kernel
theorem dX2_serve_33 : decode cX2_serve 33 = .ok (.aload_n 0, 1) := by decide +kernel
theorem dX2_serve_34 : decode cX2_serve 34 = .ok (.getfield 19, 3) := by decide +kernel
theorem dX2_serve_37 : decode cX2_serve 37 = .ok (.iload_n 1, 1) := by decide +kernel
theorem dX2_serve_38 : decode cX2_serve 38 = .ok (.iload_n 2, 1) := by decide +kernel
theorem dX2_serve_39 : decode cX2_serve 39 = .ok (.invokevirtual 170, 3) := by decide +kernel
theorem dX2_serve_42 : decode cX2_serve 42 = .ok (.aload_n 0, 1) := by decide +kernel
theorem dX2_serve_43 : decode cX2_serve 43 = .ok (.getfield 10, 3) := by decide +kernel
theorem dX2_serve_46 : decode cX2_serve 46 = .ok (.iload_n 3, 1) := by decide +kernel
theorem dX2_serve_47 : decode cX2_serve 47 = .ok (.iload 4, 2) := by decide +kernel
theorem dX2_serve_49 : decode cX2_serve 49 = .ok (.invokevirtual 173, 3) := by decide +kernel
theorem dX2_serve_52 : decode cX2_serve 52 = .ok (.iload_n 3, 1) := by decide +kernel
theorem dX2_serve_53 : decode cX2_serve 53 = .ok (.aload_n 0, 1) := by decide +kernel
theorem dX2_serve_54 : decode cX2_serve 54 = .ok (.getfield 23, 3) := by decide +kernel
theorem dX2_serve_57 : decode cX2_serve 57 = .ok (.if_icmp .ne 9, 3) := by decide +kernel
theorem dX2_serve_60 : decode cX2_serve 60 = .ok (.aload_n 0, 1) := by decide +kernel
theorem dX2_serve_61 : decode cX2_serve 61 = .ok (.iload 4, 2) := by decide +kernel
theorem dX2_serve_63 : decode cX2_serve 63 = .ok (.invokevirtual 176, 3) := by decide +kernel
theorem dX2_serve_66 : decode cX2_serve 66 = .ok (.aload_n 0, 1) := by decide +kernel
theorem dX2_serve_67 : decode cX2_serve 67 = .ok (.getfield 19, 3) := by decide +kernel
theorem dX2_serve_70 : decode cX2_serve 70 = .ok (.invokevirtual 134, 3) := by decide +kernel
theorem dX2_serve_73 : decode cX2_serve 73 = .ok (.ifCond .ne 18, 3) := by decide +kernel
theorem dX2_serve_76 : decode cX2_serve 76 = .ok (.aload_n 0, 1) := by decide +kernel
theorem dX2_serve_77 : decode cX2_serve 77 = .ok (.aload_n 0, 1) := by decide +kernel
theorem dX2_serve_78 : decode cX2_serve 78 = .ok (.getfield 10, 3) := by decide +kernel
theorem dX2_serve_81 : decode cX2_serve 81 = .ok (.aload_n 0, 1) := by decide +kernel
theorem dX2_serve_82 : decode cX2_serve 82 = .ok (.getfield 38, 3) := by decide +kernel
theorem dX2_serve_85 : decode cX2_serve 85 = .ok (.invokevirtual 179, 3) := by decide +kernel
theorem dX2_serve_88 : decode cX2_serve 88 = .ok (.putfield 38, 3) := by decide +kernel
theorem dX2_serve_91 : decode cX2_serve 91 = .ok (.return_, 1) := by decide +kernel
theorem dX2_moveHead_0 : decode cX2_moveHead 0 = .ok (.iload_n 1, 1) := by decide +kernel
theorem dX2_moveHead_1 : decode cX2_moveHead 1 = .ok (.aload_n 0, 1) := by decide +kernel
theorem dX2_moveHead_2 : decode cX2_moveHead 2 = .ok (.getfield 97, 3) := by decide +kernel
theorem dX2_moveHead_5 : decode cX2_moveHead 5 = .ok (.isub, 1) := by decide +kernel
theorem dX2_moveHead_6 : decode cX2_moveHead 6 = .ok (.invokestatic 183, 3) := by decide +kernel
theorem dX2_moveHead_9 : decode cX2_moveHead 9 = .ok (.istore_n 3, 1) := by decide +kernel
theorem dX2_moveHead_10 : decode cX2_moveHead 10 = .ok (.aload_n 0, 1) := by decide +kernel
theorem dX2_moveHead_11 : decode cX2_moveHead 11 = .ok (.dup, 1) := by decide +kernel
theorem dX2_moveHead_12 : decode cX2_moveHead 12 = .ok (.getfield 143, 3) := by decide +kernel
theorem dX2_moveHead_15 : decode cX2_moveHead 15 = .ok (.iload_n 3, 1) := by decide +kernel
theorem dX2_moveHead_16 : decode cX2_moveHead 16 = .ok (.i2l, 1) := by decide +kernel
theorem dX2_moveHead_17 : decode cX2_moveHead 17 = .ok (.ladd, 1) := by decide +kernel
theorem dX2_moveHead_18 : decode cX2_moveHead 18 = .ok (.putfield 143, 3) := by decide +kernel
theorem dX2_moveHead_21 : decode cX2_moveHead 21 = .ok (.aload_n 0, 1) := by decide +kernel
theorem dX2_moveHead_22 : decode cX2_moveHead 22 = .ok (.dup, 1) := by decide +kernel
theorem dX2_moveHead_23 : decode cX2_moveHead 23 = .ok (.getfield 79, 3) := by decide +kernel
theorem dX2_moveHead_26 : decode cX2_moveHead 26 = .ok (.iload_n 3, 1) := by decide +kernel
theorem dX2_moveHead_27 : decode cX2_moveHead 27 = .ok (.bipush 100, 2) := by decide +kernel
theorem dX2_moveHead_29 : decode cX2_moveHead 29 = .ok (.idiv, 1) := by decide +kernel
theorem dX2_moveHead_30 : decode cX2_moveHead 30 = .ok (.iload_n 2, 1) := by decide +kernel
theorem dX2_moveHead_31 : decode cX2_moveHead 31 = .ok (.iadd, 1) := by decide +kernel
theorem dX2_moveHead_32 : decode cX2_moveHead 32 = .ok (.i2l, 1) := by decide +kernel
theorem dX2_moveHead_33 : decode cX2_moveHead 33 = .ok (.ladd, 1) := by decide +kernel
theorem dX2_moveHead_34 : decode cX2_moveHead 34 = .ok (.putfield 79, 3) := by decide +kernel
theorem dX2_moveHead_37 : decode cX2_moveHead 37 = .ok (.aload_n 0, 1) := by decide +kernel
theorem dX2_moveHead_38 : decode cX2_moveHead 38 = .ok (.iload_n 1, 1) := by decide +kernel
theorem dX2_moveHead_39 : decode cX2_moveHead 39 = .ok (.iload_n 2, 1) := by decide +kernel
theorem dX2_moveHead_40 : decode cX2_moveHead 40 = .ok (.iadd, 1) := by decide +kernel
theorem dX2_moveHead_41 : decode cX2_moveHead 41 = .ok (.putfield 97, 3) := by decide +kernel
theorem dX2_moveHead_44 : decode cX2_moveHead 44 = .ok (.return_, 1) := by decide +kernel
set_option maxRecDepth 20000 in
theorem ggX2_takeFromSlice_X0_waitingOf : GoodIn wsX2_takeFromSlice wsX0_waitingOf := goodIn_r _ [8, 9, 23, 24, 25, 26, 27, 28, 29] (by decide +kernel) (by decide +kernel)
set_option maxRecDepth 20000 in
theorem gX2_takeFromSlice_X0_waitingOf : GoodIn wsX2_takeFromSlice (wsV RX2 54 RX0 yX0_waitingOf wsX0_waitingOf) := goodIn_app (goodIn_of _ (by decide +kernel)) ggX2_takeFromSlice_X0_waitingOf
set_option maxRecDepth 20000 in
theorem ggX2_takeFromSlice_X2_endSlice : GoodIn wsX2_takeFromSlice wsX2_endSlice := goodIn_r _ [14, 3, 1, 15, 16, 17, 18, 19, 20, 21, 22] (by decide +kernel) (by decide +kernel)
set_option maxRecDepth 20000 in
theorem gX2_takeFromSlice_X2_endSlice : GoodIn wsX2_takeFromSlice (wsV RX2 64 RX2 yX2_endSlice wsX2_endSlice) := goodIn_app (goodIn_of _ (by decide +kernel)) ggX2_takeFromSlice_X2_endSlice
theorem dX2_takeFromSlice_0 : decode cX2_takeFromSlice 0 = .ok (.aload_n 0, 1) := by decide +kernel
theorem dX2_takeFromSlice_1 : decode cX2_takeFromSlice 1 = .ok (.dup, 1) := by decide +kernel
theorem dX2_takeFromSlice_2 : decode cX2_takeFromSlice 2 = .ok (.getfield 146, 3) := by decide +kernel
theorem dX2_takeFromSlice_5 : decode cX2_takeFromSlice 5 = .ok (.iload_n 1, 1) := by decide +kernel
theorem dX2_takeFromSlice_6 : decode cX2_takeFromSlice 6 = .ok (.isub, 1) := by decide +kernel
theorem dX2_takeFromSlice_7 : decode cX2_takeFromSlice 7 = .ok (.putfield 146, 3) := by decide +kernel
theorem dX2_takeFromSlice_10 : decode cX2_takeFromSlice 10 = .ok (.aload_n 0, 1) := by decide +kernel
theorem dX2_takeFromSlice_11 : decode cX2_takeFromSlice 11 = .ok (.getfield 146, 3) := by decide +kernel
theorem dX2_takeFromSlice_14 : decode cX2_takeFromSlice 14 = .ok (.ifCond .le 17, 3) := by decide +kernel
theorem dX2_takeFromSlice_17 : decode cX2_takeFromSlice 17 = .ok (.aload_n 0, 1) := by decide +kernel
theorem dX2_takeFromSlice_18 : decode cX2_takeFromSlice 18 = .ok (.getfield 10, 3) := by decide +kernel
theorem dX2_takeFromSlice_21 : decode cX2_takeFromSlice 21 = .ok (.aload_n 0, 1) := by decide +kernel
theorem dX2_takeFromSlice_22 : decode cX2_takeFromSlice 22 = .ok (.getfield 23, 3) := by decide +kernel
theorem dX2_takeFromSlice_25 : decode cX2_takeFromSlice 25 = .ok (.invokevirtual 54, 3) := by decide +kernel
theorem dX2_takeFromSlice_28 : decode cX2_takeFromSlice 28 = .ok (.ifCond .ne 7, 3) := by decide +kernel
theorem dX2_takeFromSlice_31 : decode cX2_takeFromSlice 31 = .ok (.aload_n 0, 1) := by decide +kernel
theorem dX2_takeFromSlice_32 : decode cX2_takeFromSlice 32 = .ok (.invokevirtual 64, 3) := by decide +kernel
theorem dX2_takeFromSlice_35 : decode cX2_takeFromSlice 35 = .ok (.return_, 1) := by decide +kernel
theorem dX3_init_0 : decode cX3_init 0 = .ok (.aload_n 0, 1) := by decide +kernel
theorem dX3_init_1 : decode cX3_init 1 = .ok (.invokespecial 1, 3) := by decide +kernel
theorem dX3_init_4 : decode cX3_init 4 = .ok (.aload_n 0, 1) := by decide +kernel
theorem dX3_init_5 : decode cX3_init 5 = .ok (.bipush 8, 2) := by decide +kernel
theorem dX3_init_7 : decode cX3_init 7 = .ok (.newarray .boolean, 2) := by decide +kernel
theorem dX3_init_9 : decode cX3_init 9 = .ok (.putfield 7, 3) := by decide +kernel
theorem dX3_init_12 : decode cX3_init 12 = .ok (.aload_n 0, 1) := by decide +kernel
theorem dX3_init_13 : decode cX3_init 13 = .ok (.bipush 8, 2) := by decide +kernel
theorem dX3_init_15 : decode cX3_init 15 = .ok (.newarray .int, 2) := by decide +kernel
theorem dX3_init_17 : decode cX3_init 17 = .ok (.putfield 13, 3) := by decide +kernel
theorem dX3_init_20 : decode cX3_init 20 = .ok (.aload_n 0, 1) := by decide +kernel
theorem dX3_init_21 : decode cX3_init 21 = .ok (.bipush 8, 2) := by decide +kernel
theorem dX3_init_23 : decode cX3_init 23 = .ok (.newarray .int, 2) := by decide +kernel
theorem dX3_init_25 : decode cX3_init 25 = .ok (.putfield 17, 3) := by decide +kernel
theorem dX3_init_28 : decode cX3_init 28 = .ok (.aload_n 0, 1) := by decide +kernel
theorem dX3_init_29 : decode cX3_init 29 = .ok (.bipush 9, 2) := by decide +kernel
theorem dX3_init_31 : decode cX3_init 31 = .ok (.newarray .long, 2) := by decide +kernel
theorem dX3_init_33 : decode cX3_init 33 = .ok (.putfield 20, 3) := by decide +kernel
theorem dX3_init_36 : decode cX3_init 36 = .ok (.aload_n 0, 1) := by decide +kernel
theorem dX3_init_37 : decode cX3_init 37 = .ok (.bipush 8, 2) := by decide +kernel
theorem dX3_init_39 : decode cX3_init 39 = .ok (.newarray .long, 2) := by decide +kernel
theorem dX3_init_41 : decode cX3_init 41 = .ok (.putfield 24, 3) := by decide +kernel
theorem dX3_init_44 : decode cX3_init 44 = .ok (.aload_n 0, 1) := by decide +kernel
theorem dX3_init_45 : decode cX3_init 45 = .ok (.bipush 8, 2) := by decide +kernel
theorem dX3_init_47 : decode cX3_init 47 = .ok (.newarray .long, 2) := by decide +kernel
theorem dX3_init_49 : decode cX3_init 49 = .ok (.putfield 27, 3) := by decide +kernel
theorem dX3_init_52 : decode cX3_init 52 = .ok (.aload_n 0, 1) := by decide +kernel
theorem dX3_init_53 : decode cX3_init 53 = .ok (.bipush 64, 2) := by decide +kernel
theorem dX3_init_55 : decode cX3_init 55 = .ok (.newarray .long, 2) := by decide +kernel
theorem dX3_init_57 : decode cX3_init 57 = .ok (.putfield 30, 3) := by decide +kernel
theorem dX3_init_60 : decode cX3_init 60 = .ok (.aload_n 0, 1) := by decide +kernel
theorem dX3_init_61 : decode cX3_init 61 = .ok (.sipush 500, 3) := by decide +kernel
theorem dX3_init_64 : decode cX3_init 64 = .ok (.newarray .int, 2) := by decide +kernel
theorem dX3_init_66 : decode cX3_init 66 = .ok (.putfield 33, 3) := by decide +kernel
theorem dX3_init_69 : decode cX3_init 69 = .ok (.aload_n 0, 1) := by decide +kernel
theorem dX3_init_70 : decode cX3_init 70 = .ok (.sipush 500, 3) := by decide +kernel
theorem dX3_init_73 : decode cX3_init 73 = .ok (.newarray .int, 2) := by decide +kernel
theorem dX3_init_75 : decode cX3_init 75 = .ok (.putfield 36, 3) := by decide +kernel
theorem dX3_init_78 : decode cX3_init 78 = .ok (.aload_n 0, 1) := by decide +kernel
theorem dX3_init_79 : decode cX3_init 79 = .ok (.sipush 500, 3) := by decide +kernel
theorem dX3_init_82 : decode cX3_init 82 = .ok (.newarray .int, 2) := by decide +kernel
theorem dX3_init_84 : decode cX3_init 84 = .ok (.putfield 39, 3) := by decide +kernel
theorem dX3_init_87 : decode cX3_init 87 = .ok (.aload_n 0, 1) := by decide +kernel
theorem dX3_init_88 : decode cX3_init 88 = .ok (.sipush 500, 3) := by decide +kernel
theorem dX3_init_91 : decode cX3_init 91 = .ok (.newarray .int, 2) := by decide +kernel
theorem dX3_init_93 : decode cX3_init 93 = .ok (.putfield 42, 3) := by decide +kernel
theorem dX3_init_96 : decode cX3_init 96 = .ok (.aload_n 0, 1) := by decide +kernel
theorem dX3_init_97 : decode cX3_init 97 = .ok (.sipush 500, 3) := by decide +kernel
theorem dX3_init_100 : decode cX3_init 100 = .ok (.newarray .boolean, 2) := by decide +kernel
theorem dX3_init_102 : decode cX3_init 102 = .ok (.putfield 45, 3) := by decide +kernel
theorem dX3_init_105 : decode cX3_init 105 = .ok (.aload_n 0, 1) := by decide +kernel
theorem dX3_init_106 : decode cX3_init 106 = .ok (.sipush 500, 3) := by decide +kernel
theorem dX3_init_109 : decode cX3_init 109 = .ok (.newarray .boolean, 2) := by decide +kernel
theorem dX3_init_111 : decode cX3_init 111 = .ok (.putfield 48, 3) := by decide +kernel
theorem dX3_init_114 : decode cX3_init 114 = .ok (.aload_n 0, 1) := by decide +kernel
theorem dX3_init_115 : decode cX3_init 115 = .ok (.sipush 500, 3) := by decide +kernel
theorem dX3_init_118 : decode cX3_init 118 = .ok (.newarray .boolean, 2) := by decide +kernel
theorem dX3_init_120 : decode cX3_init 120 = .ok (.putfield 51, 3) := by decide +kernel
theorem dX3_init_123 : decode cX3_init 123 = .ok (.aload_n 0, 1) := by decide +kernel
theorem dX3_init_124 : decode cX3_init 124 = .ok (.sipush 500, 3) := by decide +kernel
theorem dX3_init_127 : decode cX3_init 127 = .ok (.newarray .long, 2) := by decide +kernel
theorem dX3_init_129 : decode cX3_init 129 = .ok (.putfield 54, 3) := by decide +kernel
theorem dX3_init_132 : decode cX3_init 132 = .ok (.aload_n 0, 1) := by decide +kernel
theorem dX3_init_133 : decode cX3_init 133 = .ok (.iconst (-1), 1) := by decide +kernel
theorem dX3_init_134 : decode cX3_init 134 = .ok (.putfield 57, 3) := by decide +kernel
theorem dX3_init_137 : decode cX3_init 137 = .ok (.return_, 1) := by decide +kernel
theorem dX3_thrown_0 : decode cX3_thrown 0 = .ok (.aload_n 0, 1) := by decide +kernel
theorem dX3_thrown_1 : decode cX3_thrown 1 = .ok (.getfield 61, 3) := by decide +kernel
theorem dX3_thrown_4 : decode cX3_thrown 4 = .ok (.ireturn, 1) := by decide +kernel
theorem dX3_fails_0 : decode cX3_fails 0 = .ok (.aload_n 0, 1) := by decide +kernel
theorem dX3_fails_1 : decode cX3_fails 1 = .ok (.iload_n 1, 1) := by decide +kernel
theorem dX3_fails_2 : decode cX3_fails 2 = .ok (.ifCond .eq 7, 3) := by decide +kernel
theorem dX3_fails_5 : decode cX3_fails 5 = .ok (.iconst 1, 1) := by decide +kernel
theorem dX3_fails_6 : decode cX3_fails 6 = .ok (.goto 12, 3) := by decide +kernel
theorem dX3_fails_9 : decode cX3_fails 9 = .ok (.iload_n 2, 1) := by decide +kernel
theorem dX3_fails_10 : decode cX3_fails 10 = .ok (.ifCond .eq 7, 3) := by decide +kernel
theorem dX3_fails_13 : decode cX3_fails 13 = .ok (.iconst 2, 1) := by decide +kernel
theorem dX3_fails_14 : decode cX3_fails 14 = .ok (.goto 4, 3) := by decide +kernel
theorem dX3_fails_17 : decode cX3_fails 17 = .ok (.iconst 0, 1) := by decide +kernel
theorem dX3_fails_18 : decode cX3_fails 18 = .ok (.putfield 61, 3) := by decide +kernel
theorem dX3_fails_21 : decode cX3_fails 21 = .ok (.aload_n 0, 1) := by decide +kernel
theorem dX3_fails_22 : decode cX3_fails 22 = .ok (.getfield 61, 3) := by decide +kernel
theorem dX3_fails_25 : decode cX3_fails 25 = .ok (.ifCond .le 7, 3) := by decide +kernel
theorem dX3_fails_28 : decode cX3_fails 28 = .ok (.iconst 1, 1) := by decide +kernel
theorem dX3_fails_29 : decode cX3_fails 29 = .ok (.goto 4, 3) := by decide +kernel
theorem dX3_fails_32 : decode cX3_fails 32 = .ok (.iconst 0, 1) := by decide +kernel
theorem dX3_fails_33 : decode cX3_fails 33 = .ok (.ireturn, 1) := by decide +kernel
theorem dX3_in_0 : decode cX3_in 0 = .ok (.lload_n 0, 1) := by decide +kernel
theorem dX3_in_1 : decode cX3_in 1 = .ok (.lload_n 2, 1) := by decide +kernel
theorem dX3_in_2 : decode cX3_in 2 = .ok (.lcmp, 1) := by decide +kernel
theorem dX3_in_3 : decode cX3_in 3 = .ok (.ifCond .lt 14, 3) := by decide +kernel
theorem dX3_in_6 : decode cX3_in 6 = .ok (.lload_n 0, 1) := by decide +kernel
theorem dX3_in_7 : decode cX3_in 7 = .ok (.lload 4, 2) := by decide +kernel
theorem dX3_in_9 : decode cX3_in 9 = .ok (.lcmp, 1) := by decide +kernel
theorem dX3_in_10 : decode cX3_in 10 = .ok (.ifCond .gt 7, 3) := by decide +kernel
theorem dX3_in_13 : decode cX3_in 13 = .ok (.iconst 1, 1) := by decide +kernel
theorem dX3_in_14 : decode cX3_in 14 = .ok (.goto 4, 3) := by decide +kernel
theorem dX3_in_17 : decode cX3_in 17 = .ok (.iconst 0, 1) := by decide +kernel
theorem dX3_in_18 : decode cX3_in 18 = .ok (.ireturn, 1) := by decide +kernel
set_option maxRecDepth 20000 in
theorem ggX3_isThere_X3_in : GoodIn wsX3_isThere wsX3_in := goodIn_r _ [6] (by decide +kernel) (by decide +kernel)
set_option maxRecDepth 20000 in
theorem gX3_isThere_X3_in : GoodIn wsX3_isThere (va_wsS RX3 66 yX3_in wsX3_in) := goodIn_app (goodIn_of _ (by decide +kernel)) ggX3_isThere_X3_in
theorem dX3_isThere_0 : decode cX3_isThere 0 = .ok (.iload_n 1, 1) := by decide +kernel
theorem dX3_isThere_1 : decode cX3_isThere 1 = .ok (.i2l, 1) := by decide +kernel
theorem dX3_isThere_2 : decode cX3_isThere 2 = .ok (.lconst 0, 1) := by decide +kernel
theorem dX3_isThere_3 : decode cX3_isThere 3 = .ok (.ldc2_w 64, 3) := by decide +kernel
theorem dX3_isThere_6 : decode cX3_isThere 6 = .ok (.invokestatic 66, 3) := by decide +kernel
theorem dX3_isThere_9 : decode cX3_isThere 9 = .ok (.ifCond .eq 16, 3) := by decide +kernel
theorem dX3_isThere_12 : decode cX3_isThere 12 = .ok (.aload_n 0, 1) := by decide +kernel
theorem dX3_isThere_13 : decode cX3_isThere 13 = .ok (.getfield 7, 3) := by decide +kernel
theorem dX3_isThere_16 : decode cX3_isThere 16 = .ok (.iload_n 1, 1) := by decide +kernel
theorem dX3_isThere_17 : decode cX3_isThere 17 = .ok (.baload, 1) := by decide +kernel
theorem dX3_isThere_18 : decode cX3_isThere 18 = .ok (.ifCond .eq 7, 3) := by decide +kernel
theorem dX3_isThere_21 : decode cX3_isThere 21 = .ok (.iconst 1, 1) := by decide +kernel
theorem dX3_isThere_22 : decode cX3_isThere 22 = .ok (.goto 4, 3) := by decide +kernel
theorem dX3_isThere_25 : decode cX3_isThere 25 = .ok (.iconst 0, 1) := by decide +kernel
theorem dX3_isThere_26 : decode cX3_isThere 26 = .ok (.ireturn, 1) := by decide +kernel
theorem dX3_waiting_0 : decode cX3_waiting 0 = .ok (.iconst 0, 1) := by decide +kernel
theorem dX3_waiting_1 : decode cX3_waiting 1 = .ok (.istore_n 2, 1) := by decide +kernel
theorem dX3_waiting_2 : decode cX3_waiting 2 = .ok (.iconst 0, 1) := by decide +kernel
theorem dX3_waiting_3 : decode cX3_waiting 3 = .ok (.istore_n 3, 1) := by decide +kernel
theorem dX3_waiting_4 : decode cX3_waiting 4 = .ok (.iload_n 3, 1) := by decide +kernel
theorem dX3_waiting_5 : decode cX3_waiting 5 = .ok (.aload_n 0, 1) := by decide +kernel
theorem dX3_waiting_6 : decode cX3_waiting 6 = .ok (.getfield 70, 3) := by decide +kernel
theorem dX3_waiting_9 : decode cX3_waiting 9 = .ok (.if_icmp .ge 36, 3) := by decide +kernel
theorem dX3_waiting_12 : decode cX3_waiting 12 = .ok (.iload_n 2, 1) := by decide +kernel
theorem dX3_waiting_13 : decode cX3_waiting 13 = .ok (.aload_n 0, 1) := by decide +kernel
theorem dX3_waiting_14 : decode cX3_waiting 14 = .ok (.getfield 48, 3) := by decide +kernel
theorem dX3_waiting_17 : decode cX3_waiting 17 = .ok (.iload_n 3, 1) := by decide +kernel
theorem dX3_waiting_18 : decode cX3_waiting 18 = .ok (.baload, 1) := by decide +kernel
theorem dX3_waiting_19 : decode cX3_waiting 19 = .ok (.ifCond .ne 17, 3) := by decide +kernel
theorem dX3_waiting_22 : decode cX3_waiting 22 = .ok (.aload_n 0, 1) := by decide +kernel
theorem dX3_waiting_23 : decode cX3_waiting 23 = .ok (.getfield 33, 3) := by decide +kernel
theorem dX3_waiting_26 : decode cX3_waiting 26 = .ok (.iload_n 3, 1) := by decide +kernel
theorem dX3_waiting_27 : decode cX3_waiting 27 = .ok (.iaload, 1) := by decide +kernel
theorem dX3_waiting_28 : decode cX3_waiting 28 = .ok (.iload_n 1, 1) := by decide +kernel
theorem dX3_waiting_29 : decode cX3_waiting 29 = .ok (.if_icmp .ne 7, 3) := by decide +kernel
theorem dX3_waiting_32 : decode cX3_waiting 32 = .ok (.iconst 1, 1) := by decide +kernel
theorem dX3_waiting_33 : decode cX3_waiting 33 = .ok (.goto 4, 3) := by decide +kernel
theorem dX3_waiting_36 : decode cX3_waiting 36 = .ok (.iconst 0, 1) := by decide +kernel
theorem dX3_waiting_37 : decode cX3_waiting 37 = .ok (.iadd, 1) := by decide +kernel
theorem dX3_waiting_38 : decode cX3_waiting 38 = .ok (.istore_n 2, 1) := by decide +kernel
theorem dX3_waiting_39 : decode cX3_waiting 39 = .ok (.iinc 3 1, 3) := by decide +kernel
theorem dX3_waiting_42 : decode cX3_waiting 42 = .ok (.goto (-38), 3) := by decide +kernel
theorem dX3_waiting_45 : decode cX3_waiting 45 = .ok (.iload_n 2, 1) := by decide +kernel
theorem dX3_waiting_46 : decode cX3_waiting 46 = .ok (.ireturn, 1) := by decide +kernel
set_option maxRecDepth 20000 in
theorem ggX3_client_X3_in : GoodIn wsX3_client wsX3_in := goodIn_r _ [12] (by decide +kernel) (by decide +kernel)
set_option maxRecDepth 20000 in
theorem gX3_client_X3_in : GoodIn wsX3_client (va_wsS RX3 66 yX3_in wsX3_in) := goodIn_app (goodIn_of _ (by decide +kernel)) ggX3_client_X3_in
set_option maxRecDepth 20000 in
theorem ggX3_client_X3_fails : GoodIn wsX3_client wsX3_fails := goodIn_r _ [16, 17, 18, 19, 20, 21, 22, 23, 24, 25, 26, 27, 28, 29, 30, 31, 32, 33, 34, 35, 36, 37, 38, 39, 40, 41] (by decide +kernel) (by decide +kernel)
set_option maxRecDepth 20000 in
theorem gX3_client_X3_fails : GoodIn wsX3_client (wsV RX3 77 RX3 yX3_fails wsX3_fails) := goodIn_app (goodIn_of _ (by decide +kernel)) ggX3_client_X3_fails
theorem dX3_client_0 : decode cX3_client 0 = .ok (.aload_n 0, 1) := by decide +kernel
theorem dX3_client_1 : decode cX3_client 1 = .ok (.iload_n 1, 1) := by decide +kernel
theorem dX3_client_2 : decode cX3_client 2 = .ok (.i2l, 1) := by decide +kernel
theorem dX3_client_3 : decode cX3_client 3 = .ok (.lconst 0, 1) := by decide +kernel
theorem dX3_client_4 : decode cX3_client 4 = .ok (.ldc2_w 64, 3) := by decide +kernel
theorem dX3_client_7 : decode cX3_client 7 = .ok (.invokestatic 66, 3) := by decide +kernel
theorem dX3_client_10 : decode cX3_client 10 = .ok (.ifCond .eq 27, 3) := by decide +kernel
theorem dX3_client_13 : decode cX3_client 13 = .ok (.iload_n 2, 1) := by decide +kernel
theorem dX3_client_14 : decode cX3_client 14 = .ok (.i2l, 1) := by decide +kernel
theorem dX3_client_15 : decode cX3_client 15 = .ok (.lconst 1, 1) := by decide +kernel
theorem dX3_client_16 : decode cX3_client 16 = .ok (.ldc2_w 73, 3) := by decide +kernel
theorem dX3_client_19 : decode cX3_client 19 = .ok (.invokestatic 66, 3) := by decide +kernel
theorem dX3_client_22 : decode cX3_client 22 = .ok (.ifCond .eq 15, 3) := by decide +kernel
theorem dX3_client_25 : decode cX3_client 25 = .ok (.iload_n 3, 1) := by decide +kernel
theorem dX3_client_26 : decode cX3_client 26 = .ok (.i2l, 1) := by decide +kernel
theorem dX3_client_27 : decode cX3_client 27 = .ok (.lconst 1, 1) := by decide +kernel
theorem dX3_client_28 : decode cX3_client 28 = .ok (.ldc2_w 75, 3) := by decide +kernel
theorem dX3_client_31 : decode cX3_client 31 = .ok (.invokestatic 66, 3) := by decide +kernel
theorem dX3_client_34 : decode cX3_client 34 = .ok (.ifCond .ne 7, 3) := by decide +kernel
theorem dX3_client_37 : decode cX3_client 37 = .ok (.iconst 1, 1) := by decide +kernel
theorem dX3_client_38 : decode cX3_client 38 = .ok (.goto 4, 3) := by decide +kernel
theorem dX3_client_41 : decode cX3_client 41 = .ok (.iconst 0, 1) := by decide +kernel
theorem dX3_client_42 : decode cX3_client 42 = .ok (.iconst 0, 1) := by decide +kernel
theorem dX3_client_43 : decode cX3_client 43 = .ok (.invokevirtual 77, 3) := by decide +kernel
theorem dX3_client_46 : decode cX3_client 46 = .ok (.ifCond .eq 4, 3) := by decide +kernel
theorem dX3_client_49 : decode cX3_client 49 = .ok (.return_, 1) := by decide +kernel
theorem dX3_client_50 : decode cX3_client 50 = .ok (.aload_n 0, 1) := by decide +kernel
theorem dX3_client_51 : decode cX3_client 51 = .ok (.getfield 7, 3) := by decide +kernel
theorem dX3_client_54 : decode cX3_client 54 = .ok (.iload_n 1, 1) := by decide +kernel
theorem dX3_client_55 : decode cX3_client 55 = .ok (.baload, 1) := by decide +kernel
theorem dX3_client_56 : decode cX3_client 56 = .ok (.ifCond .ne 23, 3) := by decide +kernel
theorem dX3_client_59 : decode cX3_client 59 = .ok (.aload_n 0, 1) := by decide +kernel
theorem dX3_client_60 : decode cX3_client 60 = .ok (.getfield 20, 3) := by decide +kernel
theorem dX3_client_63 : decode cX3_client 63 = .ok (.iload_n 1, 1) := by decide +kernel
theorem dX3_client_64 : decode cX3_client 64 = .ok (.aload_n 0, 1) := by decide +kernel
theorem dX3_client_65 : decode cX3_client 65 = .ok (.getfield 20, 3) := by decide +kernel
theorem dX3_client_68 : decode cX3_client 68 = .ok (.bipush 8, 2) := by decide +kernel
theorem dX3_client_70 : decode cX3_client 70 = .ok (.laload, 1) := by decide +kernel
theorem dX3_client_71 : decode cX3_client 71 = .ok (.lastore, 1) := by decide +kernel
theorem dX3_client_72 : decode cX3_client 72 = .ok (.aload_n 0, 1) := by decide +kernel
theorem dX3_client_73 : decode cX3_client 73 = .ok (.getfield 24, 3) := by decide +kernel
theorem dX3_client_76 : decode cX3_client 76 = .ok (.iload_n 1, 1) := by decide +kernel
theorem dX3_client_77 : decode cX3_client 77 = .ok (.lconst 0, 1) := by decide +kernel
theorem dX3_client_78 : decode cX3_client 78 = .ok (.lastore, 1) := by decide +kernel
theorem dX3_client_79 : decode cX3_client 79 = .ok (.aload_n 0, 1) := by decide +kernel
theorem dX3_client_80 : decode cX3_client 80 = .ok (.getfield 7, 3) := by decide +kernel
theorem dX3_client_83 : decode cX3_client 83 = .ok (.iload_n 1, 1) := by decide +kernel
theorem dX3_client_84 : decode cX3_client 84 = .ok (.iconst 1, 1) := by decide +kernel
theorem dX3_client_85 : decode cX3_client 85 = .ok (.bastore, 1) := by decide +kernel
theorem dX3_client_86 : decode cX3_client 86 = .ok (.aload_n 0, 1) := by decide +kernel
theorem dX3_client_87 : decode cX3_client 87 = .ok (.getfield 13, 3) := by decide +kernel
theorem dX3_client_90 : decode cX3_client 90 = .ok (.iload_n 1, 1) := by decide +kernel
theorem dX3_client_91 : decode cX3_client 91 = .ok (.iload_n 2, 1) := by decide +kernel
theorem dX3_client_92 : decode cX3_client 92 = .ok (.iastore, 1) := by decide +kernel
theorem dX3_client_93 : decode cX3_client 93 = .ok (.aload_n 0, 1) := by decide +kernel
theorem dX3_client_94 : decode cX3_client 94 = .ok (.getfield 17, 3) := by decide +kernel
theorem dX3_client_97 : decode cX3_client 97 = .ok (.iload_n 1, 1) := by decide +kernel
theorem dX3_client_98 : decode cX3_client 98 = .ok (.iload_n 3, 1) := by decide +kernel
theorem dX3_client_99 : decode cX3_client 99 = .ok (.iastore, 1) := by decide +kernel
theorem dX3_client_100 : decode cX3_client 100 = .ok (.return_, 1) := by decide +kernel
set_option maxRecDepth 20000 in
theorem ggX3_gone_X3_isThere : GoodIn wsX3_gone wsX3_isThere := goodIn_r _ [8, 9, 1, 10, 11, 7, 12, 30, 31, 32, 33, 34, 35, 36, 37, 38, 39, 40, 41, 42, 43, 44, 45, 46, 47, 48, 49, 50, 51, 52, 53] (by decide +kernel) (by decide +kernel)
set_option maxRecDepth 20000 in
theorem gX3_gone_X3_isThere : GoodIn wsX3_gone (wsV RX3 81 RX3 yX3_isThere wsX3_isThere) := goodIn_app (goodIn_of _ (by decide +kernel)) ggX3_gone_X3_isThere
set_option maxRecDepth 20000 in
theorem ggX3_gone_X3_waiting : GoodIn wsX3_gone wsX3_waiting := goodIn_r _ [16, 17, 18, 19, 30, 31, 32, 33, 34, 35, 36, 37, 38, 39, 40, 41, 42, 43, 44, 45, 46, 47, 48, 49, 50, 51, 52, 53] (by decide +kernel) (by decide +kernel)
set_option maxRecDepth 20000 in
theorem gX3_gone_X3_waiting : GoodIn wsX3_gone (wsV RX3 85 RX3 yX3_waiting wsX3_waiting) := goodIn_app (goodIn_of _ (by decide +kernel)) ggX3_gone_X3_waiting
set_option maxRecDepth 20000 in
theorem ggX3_gone_X3_fails : GoodIn wsX3_gone wsX3_fails := goodIn_r _ [23, 24, 30, 31, 32, 33, 34, 35, 36, 37, 38, 39, 40, 41, 42, 43, 44, 45, 46, 47, 48, 49, 50, 51, 52, 53] (by decide +kernel) (by decide +kernel)
set_option maxRecDepth 20000 in
theorem gX3_gone_X3_fails : GoodIn wsX3_gone (wsV RX3 77 RX3 yX3_fails wsX3_fails) := goodIn_app (goodIn_of _ (by decide +kernel)) ggX3_gone_X3_fails
set_option maxRecDepth 20000 in
theorem ggX3_gone_X3_end : GoodIn wsX3_gone wsX3_end := goodIn_r _ [28, 3, 29, 30, 31, 32, 33, 34, 35, 36, 37, 38, 39, 40, 41, 42, 43, 44, 45, 46, 47, 48, 49, 50, 51, 52, 53] (by decide +kernel) (by decide +kernel)
set_option maxRecDepth 20000 in
theorem gX3_gone_X3_end : GoodIn wsX3_gone (wsV RX3 89 RX3 yX3_end wsX3_end) := goodIn_app (goodIn_of _ (by decide +kernel)) ggX3_gone_X3_end
theorem dX3_gone_0 : decode cX3_gone 0 = .ok (.aload_n 0, 1) := by decide +kernel
theorem dX3_gone_1 : decode cX3_gone 1 = .ok (.aload_n 0, 1) := by decide +kernel
theorem dX3_gone_2 : decode cX3_gone 2 = .ok (.iload_n 1, 1) := by decide +kernel
theorem dX3_gone_3 : decode cX3_gone 3 = .ok (.invokevirtual 81, 3) := by decide +kernel
theorem dX3_gone_6 : decode cX3_gone 6 = .ok (.ifCond .ne 7, 3) := by decide +kernel
theorem dX3_gone_9 : decode cX3_gone 9 = .ok (.iconst 1, 1) := by decide +kernel
theorem dX3_gone_10 : decode cX3_gone 10 = .ok (.goto 4, 3) := by decide +kernel
theorem dX3_gone_13 : decode cX3_gone 13 = .ok (.iconst 0, 1) := by decide +kernel
theorem dX3_gone_14 : decode cX3_gone 14 = .ok (.aload_n 0, 1) := by decide +kernel
theorem dX3_gone_15 : decode cX3_gone 15 = .ok (.iload_n 1, 1) := by decide +kernel
theorem dX3_gone_16 : decode cX3_gone 16 = .ok (.invokevirtual 81, 3) := by decide +kernel
theorem dX3_gone_19 : decode cX3_gone 19 = .ok (.ifCond .eq 15, 3) := by decide +kernel
theorem dX3_gone_22 : decode cX3_gone 22 = .ok (.aload_n 0, 1) := by decide +kernel
theorem dX3_gone_23 : decode cX3_gone 23 = .ok (.iload_n 1, 1) := by decide +kernel
theorem dX3_gone_24 : decode cX3_gone 24 = .ok (.invokevirtual 85, 3) := by decide +kernel
theorem dX3_gone_27 : decode cX3_gone 27 = .ok (.ifCond .le 7, 3) := by decide +kernel
theorem dX3_gone_30 : decode cX3_gone 30 = .ok (.iconst 1, 1) := by decide +kernel
theorem dX3_gone_31 : decode cX3_gone 31 = .ok (.goto 4, 3) := by decide +kernel
theorem dX3_gone_34 : decode cX3_gone 34 = .ok (.iconst 0, 1) := by decide +kernel
theorem dX3_gone_35 : decode cX3_gone 35 = .ok (.invokevirtual 77, 3) := by decide +kernel
theorem dX3_gone_38 : decode cX3_gone 38 = .ok (.ifCond .eq 4, 3) := by decide +kernel
theorem dX3_gone_41 : decode cX3_gone 41 = .ok (.return_, 1) := by decide +kernel
theorem dX3_gone_42 : decode cX3_gone 42 = .ok (.aload_n 0, 1) := by decide +kernel
theorem dX3_gone_43 : decode cX3_gone 43 = .ok (.getfield 7, 3) := by decide +kernel
theorem dX3_gone_46 : decode cX3_gone 46 = .ok (.iload_n 1, 1) := by decide +kernel
theorem dX3_gone_47 : decode cX3_gone 47 = .ok (.iconst 0, 1) := by decide +kernel
theorem dX3_gone_48 : decode cX3_gone 48 = .ok (.bastore, 1) := by decide +kernel
theorem dX3_gone_49 : decode cX3_gone 49 = .ok (.aload_n 0, 1) := by decide +kernel
theorem dX3_gone_50 : decode cX3_gone 50 = .ok (.getfield 24, 3) := by decide +kernel
theorem dX3_gone_53 : decode cX3_gone 53 = .ok (.iload_n 1, 1) := by decide +kernel
theorem dX3_gone_54 : decode cX3_gone 54 = .ok (.lconst 0, 1) := by decide +kernel
theorem dX3_gone_55 : decode cX3_gone 55 = .ok (.lastore, 1) := by decide +kernel
theorem dX3_gone_56 : decode cX3_gone 56 = .ok (.aload_n 0, 1) := by decide +kernel
theorem dX3_gone_57 : decode cX3_gone 57 = .ok (.getfield 57, 3) := by decide +kernel
theorem dX3_gone_60 : decode cX3_gone 60 = .ok (.iload_n 1, 1) := by decide +kernel
theorem dX3_gone_61 : decode cX3_gone 61 = .ok (.if_icmp .ne 7, 3) := by decide +kernel
theorem dX3_gone_64 : decode cX3_gone 64 = .ok (.aload_n 0, 1) := by decide +kernel
theorem dX3_gone_65 : decode cX3_gone 65 = .ok (.invokevirtual 89, 3) := by decide +kernel
theorem dX3_gone_68 : decode cX3_gone 68 = .ok (.return_, 1) := by decide +kernel
theorem dX3_end_0 : decode cX3_end 0 = .ok (.aload_n 0, 1) := by decide +kernel
theorem dX3_end_1 : decode cX3_end 1 = .ok (.iconst (-1), 1) := by decide +kernel
theorem dX3_end_2 : decode cX3_end 2 = .ok (.putfield 57, 3) := by decide +kernel
theorem dX3_end_5 : decode cX3_end 5 = .ok (.aload_n 0, 1) := by decide +kernel
theorem dX3_end_6 : decode cX3_end 6 = .ok (.iconst 0, 1) := by decide +kernel
theorem dX3_end_7 : decode cX3_end 7 = .ok (.putfield 92, 3) := by decide +kernel
theorem dX3_end_10 : decode cX3_end 10 = .ok (.return_, 1) := by decide +kernel
set_option maxRecDepth 20000 in
theorem ggX3_submit_X3_isThere : GoodIn wsX3_submit wsX3_isThere := goodIn_r _ [16, 17, 18, 19, 20, 15, 21, 39, 40, 41, 42, 43, 44, 45, 46, 47, 48, 49, 50, 51, 52, 53, 54, 55, 56, 57, 58, 59, 60, 61, 62] (by decide +kernel) (by decide +kernel)
set_option maxRecDepth 20000 in
theorem gX3_submit_X3_isThere : GoodIn wsX3_submit (wsV RX3 81 RX3 yX3_isThere wsX3_isThere) := goodIn_app (goodIn_of _ (by decide +kernel)) ggX3_submit_X3_isThere
set_option maxRecDepth 20000 in
theorem ggX3_submit_X3_in : GoodIn wsX3_submit wsX3_in := goodIn_r _ [21] (by decide +kernel) (by decide +kernel)
set_option maxRecDepth 20000 in
theorem gX3_submit_X3_in : GoodIn wsX3_submit (va_wsS RX3 66 yX3_in wsX3_in) := goodIn_app (goodIn_of _ (by decide +kernel)) ggX3_submit_X3_in
set_option maxRecDepth 20000 in
theorem ggX3_submit_X3_fails : GoodIn wsX3_submit wsX3_fails := goodIn_r _ [25, 26, 39, 40, 41, 42, 43, 44, 45, 46, 47, 48, 49, 50, 51, 52, 53, 54, 55, 56, 57, 58, 59, 60, 61, 62] (by decide +kernel) (by decide +kernel)
set_option maxRecDepth 20000 in
theorem gX3_submit_X3_fails : GoodIn wsX3_submit (wsV RX3 77 RX3 yX3_fails wsX3_fails) := goodIn_app (goodIn_of _ (by decide +kernel)) ggX3_submit_X3_fails
set_option maxRecDepth 20000 in
theorem ggX3_submit_X3_waiting : GoodIn wsX3_submit wsX3_waiting := goodIn_r _ [30, 5, 31, 6, 39, 40, 41, 42, 43, 44, 45, 46, 47, 48, 49, 50, 51, 52, 53, 54, 55, 56, 57, 58, 59, 60, 61, 62] (by decide +kernel) (by decide +kernel)
set_option maxRecDepth 20000 in
theorem gX3_submit_X3_waiting : GoodIn wsX3_submit (wsV RX3 85 RX3 yX3_waiting wsX3_waiting) := goodIn_app (goodIn_of _ (by decide +kernel)) ggX3_submit_X3_waiting
set_option maxRecDepth 20000 in
theorem ggX3_submit_X3_begin : GoodIn wsX3_submit wsX3_begin := goodIn_r _ [35, 36, 37, 38, 39, 40, 41, 42, 43, 44, 45, 46, 47, 48, 49, 50, 51, 52, 53, 54, 55, 56, 57, 58, 59, 60, 61, 62] (by decide +kernel) (by decide +kernel)
set_option maxRecDepth 20000 in
theorem gX3_submit_X3_begin : GoodIn wsX3_submit (wsV RX3 103 RX3 yX3_begin wsX3_begin) := goodIn_app (goodIn_of _ (by decide +kernel)) ggX3_submit_X3_begin
theorem dX3_submit_0 : decode cX3_submit 0 = .ok (.aload_n 0, 1) := by decide +kernel
theorem dX3_submit_1 : decode cX3_submit 1 = .ok (.iload_n 1, 1) := by decide +kernel
theorem dX3_submit_2 : decode cX3_submit 2 = .ok (.invokevirtual 81, 3) := by decide +kernel
theorem dX3_submit_5 : decode cX3_submit 5 = .ok (.ifCond .eq 58, 3) := by decide +kernel
theorem dX3_submit_8 : decode cX3_submit 8 = .ok (.iload_n 3, 1) := by decide +kernel
theorem dX3_submit_9 : decode cX3_submit 9 = .ok (.i2l, 1) := by decide +kernel
theorem dX3_submit_10 : decode cX3_submit 10 = .ok (.lconst 0, 1) := by decide +kernel
theorem dX3_submit_11 : decode cX3_submit 11 = .ok (.ldc2_w 95, 3) := by decide +kernel
theorem dX3_submit_14 : decode cX3_submit 14 = .ok (.invokestatic 66, 3) := by decide +kernel
theorem dX3_submit_17 : decode cX3_submit 17 = .ok (.ifCond .eq 46, 3) := by decide +kernel
theorem dX3_submit_20 : decode cX3_submit 20 = .ok (.iload 4, 2) := by decide +kernel
theorem dX3_submit_22 : decode cX3_submit 22 = .ok (.i2l, 1) := by decide +kernel
theorem dX3_submit_23 : decode cX3_submit 23 = .ok (.lconst 1, 1) := by decide +kernel
theorem dX3_submit_24 : decode cX3_submit 24 = .ok (.ldc2_w 97, 3) := by decide +kernel
theorem dX3_submit_27 : decode cX3_submit 27 = .ok (.invokestatic 66, 3) := by decide +kernel
theorem dX3_submit_30 : decode cX3_submit 30 = .ok (.ifCond .eq 33, 3) := by decide +kernel
theorem dX3_submit_33 : decode cX3_submit 33 = .ok (.iload_n 3, 1) := by decide +kernel
theorem dX3_submit_34 : decode cX3_submit 34 = .ok (.i2l, 1) := by decide +kernel
theorem dX3_submit_35 : decode cX3_submit 35 = .ok (.iload 4, 2) := by decide +kernel
theorem dX3_submit_37 : decode cX3_submit 37 = .ok (.i2l, 1) := by decide +kernel
theorem dX3_submit_38 : decode cX3_submit 38 = .ok (.ladd, 1) := by decide +kernel
theorem dX3_submit_39 : decode cX3_submit 39 = .ok (.ldc2_w 99, 3) := by decide +kernel
theorem dX3_submit_42 : decode cX3_submit 42 = .ok (.lcmp, 1) := by decide +kernel
theorem dX3_submit_43 : decode cX3_submit 43 = .ok (.ifCond .gt 20, 3) := by decide +kernel
theorem dX3_submit_46 : decode cX3_submit 46 = .ok (.iload 5, 2) := by decide +kernel
theorem dX3_submit_48 : decode cX3_submit 48 = .ok (.i2l, 1) := by decide +kernel
theorem dX3_submit_49 : decode cX3_submit 49 = .ok (.lconst 0, 1) := by decide +kernel
theorem dX3_submit_50 : decode cX3_submit 50 = .ok (.ldc2_w 101, 3) := by decide +kernel
theorem dX3_submit_53 : decode cX3_submit 53 = .ok (.invokestatic 66, 3) := by decide +kernel
theorem dX3_submit_56 : decode cX3_submit 56 = .ok (.ifCond .eq 7, 3) := by decide +kernel
theorem dX3_submit_59 : decode cX3_submit 59 = .ok (.iconst 1, 1) := by decide +kernel
theorem dX3_submit_60 : decode cX3_submit 60 = .ok (.goto 4, 3) := by decide +kernel
theorem dX3_submit_63 : decode cX3_submit 63 = .ok (.iconst 0, 1) := by decide +kernel
theorem dX3_submit_64 : decode cX3_submit 64 = .ok (.istore 6, 2) := by decide +kernel
theorem dX3_submit_66 : decode cX3_submit 66 = .ok (.aload_n 0, 1) := by decide +kernel
theorem dX3_submit_67 : decode cX3_submit 67 = .ok (.iload 6, 2) := by decide +kernel
theorem dX3_submit_69 : decode cX3_submit 69 = .ok (.ifCond .ne 7, 3) := by decide +kernel
theorem dX3_submit_72 : decode cX3_submit 72 = .ok (.iconst 1, 1) := by decide +kernel
theorem dX3_submit_73 : decode cX3_submit 73 = .ok (.goto 4, 3) := by decide +kernel
theorem dX3_submit_76 : decode cX3_submit 76 = .ok (.iconst 0, 1) := by decide +kernel
theorem dX3_submit_77 : decode cX3_submit 77 = .ok (.iconst 0, 1) := by decide +kernel
theorem dX3_submit_78 : decode cX3_submit 78 = .ok (.invokevirtual 77, 3) := by decide +kernel
theorem dX3_submit_81 : decode cX3_submit 81 = .ok (.ifCond .eq 5, 3) := by decide +kernel
theorem dX3_submit_84 : decode cX3_submit 84 = .ok (.iconst 0, 1) := by decide +kernel
theorem dX3_submit_85 : decode cX3_submit 85 = .ok (.ireturn, 1) := by decide +kernel
theorem dX3_submit_86 : decode cX3_submit 86 = .ok (.aload_n 0, 1) := by decide +kernel
theorem dX3_submit_87 : decode cX3_submit 87 = .ok (.iload_n 1, 1) := by decide +kernel
theorem dX3_submit_88 : decode cX3_submit 88 = .ok (.invokevirtual 85, 3) := by decide +kernel
theorem dX3_submit_91 : decode cX3_submit 91 = .ok (.istore 7, 2) := by decide +kernel
theorem dX3_submit_93 : decode cX3_submit 93 = .ok (.iload 7, 2) := by decide +kernel
theorem dX3_submit_95 : decode cX3_submit 95 = .ok (.bipush 64, 2) := by decide +kernel
theorem dX3_submit_97 : decode cX3_submit 97 = .ok (.if_icmp .eq 13, 3) := by decide +kernel
theorem dX3_submit_100 : decode cX3_submit 100 = .ok (.aload_n 0, 1) := by decide +kernel
theorem dX3_submit_101 : decode cX3_submit 101 = .ok (.getfield 70, 3) := by decide +kernel
theorem dX3_submit_104 : decode cX3_submit 104 = .ok (.sipush 500, 3) := by decide +kernel
theorem dX3_submit_107 : decode cX3_submit 107 = .ok (.if_icmp .ne 5, 3) := by decide +kernel
theorem dX3_submit_110 : decode cX3_submit 110 = .ok (.iconst (-1), 1) := by decide +kernel
theorem dX3_submit_111 : decode cX3_submit 111 = .ok (.ireturn, 1) := by decide +kernel
theorem dX3_submit_112 : decode cX3_submit 112 = .ok (.iload 7, 2) := by decide +kernel
theorem dX3_submit_114 : decode cX3_submit 114 = .ok (.ifCond .ne 8, 3) := by decide +kernel
theorem dX3_submit_117 : decode cX3_submit 117 = .ok (.aload_n 0, 1) := by decide +kernel
theorem dX3_submit_118 : decode cX3_submit 118 = .ok (.iload_n 1, 1) := by decide +kernel
theorem dX3_submit_119 : decode cX3_submit 119 = .ok (.invokevirtual 103, 3) := by decide +kernel
theorem dX3_submit_122 : decode cX3_submit 122 = .ok (.aload_n 0, 1) := by decide +kernel
theorem dX3_submit_123 : decode cX3_submit 123 = .ok (.getfield 70, 3) := by decide +kernel
theorem dX3_submit_126 : decode cX3_submit 126 = .ok (.istore 8, 2) := by decide +kernel
theorem dX3_submit_128 : decode cX3_submit 128 = .ok (.aload_n 0, 1) := by decide +kernel
theorem dX3_submit_129 : decode cX3_submit 129 = .ok (.dup, 1) := by decide +kernel
theorem dX3_submit_130 : decode cX3_submit 130 = .ok (.getfield 70, 3) := by decide +kernel
theorem dX3_submit_133 : decode cX3_submit 133 = .ok (.iconst 1, 1) := by decide +kernel
theorem dX3_submit_134 : decode cX3_submit 134 = .ok (.iadd, 1) := by decide +kernel
theorem dX3_submit_135 : decode cX3_submit 135 = .ok (.putfield 70, 3) := by decide +kernel
theorem dX3_submit_138 : decode cX3_submit 138 = .ok (.aload_n 0, 1) := by decide +kernel
theorem dX3_submit_139 : decode cX3_submit 139 = .ok (.getfield 33, 3) := by decide +kernel
theorem dX3_submit_142 : decode cX3_submit 142 = .ok (.iload 8, 2) := by decide +kernel
theorem dX3_submit_144 : decode cX3_submit 144 = .ok (.iload_n 1, 1) := by decide +kernel
theorem dX3_submit_145 : decode cX3_submit 145 = .ok (.iastore, 1) := by decide +kernel
theorem dX3_submit_146 : decode cX3_submit 146 = .ok (.aload_n 0, 1) := by decide +kernel
theorem dX3_submit_147 : decode cX3_submit 147 = .ok (.getfield 36, 3) := by decide +kernel
theorem dX3_submit_150 : decode cX3_submit 150 = .ok (.iload 8, 2) := by decide +kernel
theorem dX3_submit_152 : decode cX3_submit 152 = .ok (.iload_n 3, 1) := by decide +kernel
theorem dX3_submit_153 : decode cX3_submit 153 = .ok (.iastore, 1) := by decide +kernel
theorem dX3_submit_154 : decode cX3_submit 154 = .ok (.aload_n 0, 1) := by decide +kernel
theorem dX3_submit_155 : decode cX3_submit 155 = .ok (.getfield 39, 3) := by decide +kernel
theorem dX3_submit_158 : decode cX3_submit 158 = .ok (.iload 8, 2) := by decide +kernel
theorem dX3_submit_160 : decode cX3_submit 160 = .ok (.iload 4, 2) := by decide +kernel
theorem dX3_submit_162 : decode cX3_submit 162 = .ok (.iastore, 1) := by decide +kernel
theorem dX3_submit_163 : decode cX3_submit 163 = .ok (.aload_n 0, 1) := by decide +kernel
theorem dX3_submit_164 : decode cX3_submit 164 = .ok (.getfield 45, 3) := by decide +kernel
theorem dX3_submit_167 : decode cX3_submit 167 = .ok (.iload 8, 2) := by decide +kernel
theorem dX3_submit_169 : decode cX3_submit 169 = .ok (.iload_n 2, 1) := by decide +kernel
theorem dX3_submit_170 : decode cX3_submit 170 = .ok (.bastore, 1) := by decide +kernel
theorem dX3_submit_171 : decode cX3_submit 171 = .ok (.aload_n 0, 1) := by decide +kernel
theorem dX3_submit_172 : decode cX3_submit 172 = .ok (.getfield 54, 3) := by decide +kernel
theorem dX3_submit_175 : decode cX3_submit 175 = .ok (.iload 8, 2) := by decide +kernel
theorem dX3_submit_177 : decode cX3_submit 177 = .ok (.aload_n 0, 1) := by decide +kernel
theorem dX3_submit_178 : decode cX3_submit 178 = .ok (.getfield 107, 3) := by decide +kernel
theorem dX3_submit_181 : decode cX3_submit 181 = .ok (.iload 5, 2) := by decide +kernel
theorem dX3_submit_183 : decode cX3_submit 183 = .ok (.i2l, 1) := by decide +kernel
theorem dX3_submit_184 : decode cX3_submit 184 = .ok (.ladd, 1) := by decide +kernel
theorem dX3_submit_185 : decode cX3_submit 185 = .ok (.lastore, 1) := by decide +kernel
theorem dX3_submit_186 : decode cX3_submit 186 = .ok (.iload 8, 2) := by decide +kernel
theorem dX3_submit_188 : decode cX3_submit 188 = .ok (.ireturn, 1) := by decide +kernel
theorem dX3_begin_0 : decode cX3_begin 0 = .ok (.aload_n 0, 1) := by decide +kernel
theorem dX3_begin_1 : decode cX3_begin 1 = .ok (.getfield 20, 3) := by decide +kernel
theorem dX3_begin_4 : decode cX3_begin 4 = .ok (.iload_n 1, 1) := by decide +kernel
theorem dX3_begin_5 : decode cX3_begin 5 = .ok (.aload_n 0, 1) := by decide +kernel
theorem dX3_begin_6 : decode cX3_begin 6 = .ok (.getfield 20, 3) := by decide +kernel
theorem dX3_begin_9 : decode cX3_begin 9 = .ok (.iload_n 1, 1) := by decide +kernel
theorem dX3_begin_10 : decode cX3_begin 10 = .ok (.laload, 1) := by decide +kernel
theorem dX3_begin_11 : decode cX3_begin 11 = .ok (.aload_n 0, 1) := by decide +kernel
theorem dX3_begin_12 : decode cX3_begin 12 = .ok (.getfield 20, 3) := by decide +kernel
theorem dX3_begin_15 : decode cX3_begin 15 = .ok (.bipush 8, 2) := by decide +kernel
theorem dX3_begin_17 : decode cX3_begin 17 = .ok (.laload, 1) := by decide +kernel
theorem dX3_begin_18 : decode cX3_begin 18 = .ok (.lcmp, 1) := by decide +kernel
theorem dX3_begin_19 : decode cX3_begin 19 = .ok (.ifCond .le 12, 3) := by decide +kernel
theorem dX3_begin_22 : decode cX3_begin 22 = .ok (.aload_n 0, 1) := by decide +kernel
theorem dX3_begin_23 : decode cX3_begin 23 = .ok (.getfield 20, 3) := by decide +kernel
theorem dX3_begin_26 : decode cX3_begin 26 = .ok (.iload_n 1, 1) := by decide +kernel
theorem dX3_begin_27 : decode cX3_begin 27 = .ok (.laload, 1) := by decide +kernel
theorem dX3_begin_28 : decode cX3_begin 28 = .ok (.goto 10, 3) := by decide +kernel
theorem dX3_begin_31 : decode cX3_begin 31 = .ok (.aload_n 0, 1) := by decide +kernel
theorem dX3_begin_32 : decode cX3_begin 32 = .ok (.getfield 20, 3) := by decide +kernel
theorem dX3_begin_35 : decode cX3_begin 35 = .ok (.bipush 8, 2) := by decide +kernel
theorem dX3_begin_37 : decode cX3_begin 37 = .ok (.laload, 1) := by decide +kernel
theorem dX3_begin_38 : decode cX3_begin 38 = .ok (.lastore, 1) := by decide +kernel
theorem dX3_begin_39 : decode cX3_begin 39 = .ok (.iconst 0, 1) := by decide +kernel
theorem dX3_begin_40 : decode cX3_begin 40 = .ok (.istore_n 2, 1) := by decide +kernel
