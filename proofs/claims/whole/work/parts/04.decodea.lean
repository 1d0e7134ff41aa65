theorem dX0_init_0 : decode cX0_init 0 = .ok (.aload_n 0, 1) := by decide +kernel
theorem dX0_init_1 : decode cX0_init 1 = .ok (.invokespecial 3, 3) := by decide +kernel
theorem dX0_init_4 : decode cX0_init 4 = .ok (.aload_n 0, 1) := by decide +kernel
theorem dX0_init_5 : decode cX0_init 5 = .ok (.bipush 8, 2) := by decide +kernel
theorem dX0_init_7 : decode cX0_init 7 = .ok (.newarray .boolean, 2) := by decide +kernel
theorem dX0_init_9 : decode cX0_init 9 = .ok (.putfield 9, 3) := by decide +kernel
theorem dX0_init_12 : decode cX0_init 12 = .ok (.aload_n 0, 1) := by decide +kernel
theorem dX0_init_13 : decode cX0_init 13 = .ok (.bipush 8, 2) := by decide +kernel
theorem dX0_init_15 : decode cX0_init 15 = .ok (.newarray .int, 2) := by decide +kernel
theorem dX0_init_17 : decode cX0_init 17 = .ok (.putfield 15, 3) := by decide +kernel
theorem dX0_init_20 : decode cX0_init 20 = .ok (.aload_n 0, 1) := by decide +kernel
theorem dX0_init_21 : decode cX0_init 21 = .ok (.bipush 8, 2) := by decide +kernel
theorem dX0_init_23 : decode cX0_init 23 = .ok (.newarray .int, 2) := by decide +kernel
theorem dX0_init_25 : decode cX0_init 25 = .ok (.putfield 19, 3) := by decide +kernel
theorem dX0_init_28 : decode cX0_init 28 = .ok (.aload_n 0, 1) := by decide +kernel
theorem dX0_init_29 : decode cX0_init 29 = .ok (.bipush 8, 2) := by decide +kernel
theorem dX0_init_31 : decode cX0_init 31 = .ok (.newarray .long, 2) := by decide +kernel
theorem dX0_init_33 : decode cX0_init 33 = .ok (.putfield 22, 3) := by decide +kernel
theorem dX0_init_36 : decode cX0_init 36 = .ok (.aload_n 0, 1) := by decide +kernel
theorem dX0_init_37 : decode cX0_init 37 = .ok (.bipush 8, 2) := by decide +kernel
theorem dX0_init_39 : decode cX0_init 39 = .ok (.newarray .int, 2) := by decide +kernel
theorem dX0_init_41 : decode cX0_init 41 = .ok (.putfield 26, 3) := by decide +kernel
theorem dX0_init_44 : decode cX0_init 44 = .ok (.aload_n 0, 1) := by decide +kernel
theorem dX0_init_45 : decode cX0_init 45 = .ok (.bipush 8, 2) := by decide +kernel
theorem dX0_init_47 : decode cX0_init 47 = .ok (.newarray .int, 2) := by decide +kernel
theorem dX0_init_49 : decode cX0_init 49 = .ok (.putfield 29, 3) := by decide +kernel
theorem dX0_init_52 : decode cX0_init 52 = .ok (.aload_n 0, 1) := by decide +kernel
theorem dX0_init_53 : decode cX0_init 53 = .ok (.bipush 8, 2) := by decide +kernel
theorem dX0_init_55 : decode cX0_init 55 = .ok (.bipush 8, 2) := by decide +kernel
theorem dX0_init_57 : decode cX0_init 57 = .ok (.multianewarray 32 2, 4) := by decide +kernel
theorem dX0_init_61 : decode cX0_init 61 = .ok (.putfield 34, 3) := by decide +kernel
theorem dX0_init_64 : decode cX0_init 64 = .ok (.return_, 1) := by decide +kernel
theorem dX0_isThere_0 : decode cX0_isThere 0 = .ok (.aload_n 0, 1) := by decide +kernel
theorem dX0_isThere_1 : decode cX0_isThere 1 = .ok (.getfield 9, 3) := by decide +kernel
theorem dX0_isThere_4 : decode cX0_isThere 4 = .ok (.iload_n 1, 1) := by decide +kernel
theorem dX0_isThere_5 : decode cX0_isThere 5 = .ok (.baload, 1) := by decide +kernel
theorem dX0_isThere_6 : decode cX0_isThere 6 = .ok (.ireturn, 1) := by decide +kernel
theorem dX0_budgetOf_0 : decode cX0_budgetOf 0 = .ok (.aload_n 0, 1) := by decide +kernel
theorem dX0_budgetOf_1 : decode cX0_budgetOf 1 = .ok (.getfield 19, 3) := by decide +kernel
theorem dX0_budgetOf_4 : decode cX0_budgetOf 4 = .ok (.iload_n 1, 1) := by decide +kernel
theorem dX0_budgetOf_5 : decode cX0_budgetOf 5 = .ok (.iaload, 1) := by decide +kernel
theorem dX0_budgetOf_6 : decode cX0_budgetOf 6 = .ok (.ireturn, 1) := by decide +kernel
theorem dX0_tagOf_0 : decode cX0_tagOf 0 = .ok (.aload_n 0, 1) := by decide +kernel
theorem dX0_tagOf_1 : decode cX0_tagOf 1 = .ok (.getfield 22, 3) := by decide +kernel
theorem dX0_tagOf_4 : decode cX0_tagOf 4 = .ok (.iload_n 1, 1) := by decide +kernel
theorem dX0_tagOf_5 : decode cX0_tagOf 5 = .ok (.laload, 1) := by decide +kernel
theorem dX0_tagOf_6 : decode cX0_tagOf 6 = .ok (.lreturn, 1) := by decide +kernel
theorem dX0_waitingOf_0 : decode cX0_waitingOf 0 = .ok (.aload_n 0, 1) := by decide +kernel
theorem dX0_waitingOf_1 : decode cX0_waitingOf 1 = .ok (.getfield 26, 3) := by decide +kernel
theorem dX0_waitingOf_4 : decode cX0_waitingOf 4 = .ok (.iload_n 1, 1) := by decide +kernel
theorem dX0_waitingOf_5 : decode cX0_waitingOf 5 = .ok (.iaload, 1) := by decide +kernel
theorem dX0_waitingOf_6 : decode cX0_waitingOf 6 = .ok (.ireturn, 1) := by decide +kernel
theorem dX0_sectorsOf_0 : decode cX0_sectorsOf 0 = .ok (.aload_n 0, 1) := by decide +kernel
theorem dX0_sectorsOf_1 : decode cX0_sectorsOf 1 = .ok (.getfield 29, 3) := by decide +kernel
theorem dX0_sectorsOf_4 : decode cX0_sectorsOf 4 = .ok (.iload_n 1, 1) := by decide +kernel
theorem dX0_sectorsOf_5 : decode cX0_sectorsOf 5 = .ok (.iaload, 1) := by decide +kernel
theorem dX0_sectorsOf_6 : decode cX0_sectorsOf 6 = .ok (.ireturn, 1) := by decide +kernel
theorem dX0_enter_0 : decode cX0_enter 0 = .ok (.aload_n 0, 1) := by decide +kernel
theorem dX0_enter_1 : decode cX0_enter 1 = .ok (.getfield 9, 3) := by decide +kernel
theorem dX0_enter_4 : decode cX0_enter 4 = .ok (.iload_n 1, 1) := by decide +kernel
theorem dX0_enter_5 : decode cX0_enter 5 = .ok (.iconst 1, 1) := by decide +kernel
theorem dX0_enter_6 : decode cX0_enter 6 = .ok (.bastore, 1) := by decide +kernel
theorem dX0_enter_7 : decode cX0_enter 7 = .ok (.aload_n 0, 1) := by decide +kernel
theorem dX0_enter_8 : decode cX0_enter 8 = .ok (.getfield 22, 3) := by decide +kernel
theorem dX0_enter_11 : decode cX0_enter 11 = .ok (.iload_n 1, 1) := by decide +kernel
theorem dX0_enter_12 : decode cX0_enter 12 = .ok (.lload_n 2, 1) := by decide +kernel
theorem dX0_enter_13 : decode cX0_enter 13 = .ok (.lastore, 1) := by decide +kernel
theorem dX0_enter_14 : decode cX0_enter 14 = .ok (.return_, 1) := by decide +kernel
theorem dX0_setShare_0 : decode cX0_setShare 0 = .ok (.aload_n 0, 1) := by decide +kernel
theorem dX0_setShare_1 : decode cX0_setShare 1 = .ok (.getfield 15, 3) := by decide +kernel
theorem dX0_setShare_4 : decode cX0_setShare 4 = .ok (.iload_n 1, 1) := by decide +kernel
theorem dX0_setShare_5 : decode cX0_setShare 5 = .ok (.iload_n 2, 1) := by decide +kernel
theorem dX0_setShare_6 : decode cX0_setShare 6 = .ok (.iastore, 1) := by decide +kernel
theorem dX0_setShare_7 : decode cX0_setShare 7 = .ok (.aload_n 0, 1) := by decide +kernel
theorem dX0_setShare_8 : decode cX0_setShare 8 = .ok (.getfield 19, 3) := by decide +kernel
theorem dX0_setShare_11 : decode cX0_setShare 11 = .ok (.iload_n 1, 1) := by decide +kernel
theorem dX0_setShare_12 : decode cX0_setShare 12 = .ok (.iload_n 3, 1) := by decide +kernel
theorem dX0_setShare_13 : decode cX0_setShare 13 = .ok (.iastore, 1) := by decide +kernel
theorem dX0_setShare_14 : decode cX0_setShare 14 = .ok (.return_, 1) := by decide +kernel
theorem dX0_leave_0 : decode cX0_leave 0 = .ok (.aload_n 0, 1) := by decide +kernel
theorem dX0_leave_1 : decode cX0_leave 1 = .ok (.getfield 9, 3) := by decide +kernel
theorem dX0_leave_4 : decode cX0_leave 4 = .ok (.iload_n 1, 1) := by decide +kernel
theorem dX0_leave_5 : decode cX0_leave 5 = .ok (.iconst 0, 1) := by decide +kernel
theorem dX0_leave_6 : decode cX0_leave 6 = .ok (.bastore, 1) := by decide +kernel
theorem dX0_leave_7 : decode cX0_leave 7 = .ok (.aload_n 0, 1) := by decide +kernel
theorem dX0_leave_8 : decode cX0_leave 8 = .ok (.getfield 29, 3) := by decide +kernel
theorem dX0_leave_11 : decode cX0_leave 11 = .ok (.iload_n 1, 1) := by decide +kernel
theorem dX0_leave_12 : decode cX0_leave 12 = .ok (.iconst 0, 1) := by decide +kernel
theorem dX0_leave_13 : decode cX0_leave 13 = .ok (.iastore, 1) := by decide +kernel
theorem dX0_leave_14 : decode cX0_leave 14 = .ok (.return_, 1) := by decide +kernel
theorem dX0_howMany_0 : decode cX0_howMany 0 = .ok (.iconst 0, 1) := by decide +kernel
theorem dX0_howMany_1 : decode cX0_howMany 1 = .ok (.istore_n 1, 1) := by decide +kernel
theorem dX0_howMany_2 : decode cX0_howMany 2 = .ok (.iconst 0, 1) := by decide +kernel
theorem dX0_howMany_3 : decode cX0_howMany 3 = .ok (.istore_n 2, 1) := by decide +kernel
theorem dX0_howMany_4 : decode cX0_howMany 4 = .ok (.iload_n 2, 1) := by decide +kernel
theorem dX0_howMany_5 : decode cX0_howMany 5 = .ok (.bipush 8, 2) := by decide +kernel
theorem dX0_howMany_7 : decode cX0_howMany 7 = .ok (.if_icmp .ge 21, 3) := by decide +kernel
theorem dX0_howMany_10 : decode cX0_howMany 10 = .ok (.aload_n 0, 1) := by decide +kernel
theorem dX0_howMany_11 : decode cX0_howMany 11 = .ok (.getfield 9, 3) := by decide +kernel
theorem dX0_howMany_14 : decode cX0_howMany 14 = .ok (.iload_n 2, 1) := by decide +kernel
theorem dX0_howMany_15 : decode cX0_howMany 15 = .ok (.baload, 1) := by decide +kernel
theorem dX0_howMany_16 : decode cX0_howMany 16 = .ok (.ifCond .eq 6, 3) := by decide +kernel
theorem dX0_howMany_19 : decode cX0_howMany 19 = .ok (.iinc 1 1, 3) := by decide +kernel
theorem dX0_howMany_22 : decode cX0_howMany 22 = .ok (.iinc 2 1, 3) := by decide +kernel
theorem dX0_howMany_25 : decode cX0_howMany 25 = .ok (.goto (-21), 3) := by decide +kernel
theorem dX0_howMany_28 : decode cX0_howMany 28 = .ok (.iload_n 1, 1) := by decide +kernel
theorem dX0_howMany_29 : decode cX0_howMany 29 = .ok (.ireturn, 1) := by decide +kernel
set_option maxRecDepth 20000 in
theorem ggX0_noteRequest_X0_forgetLead : GoodIn wsX0_noteRequest wsX0_forgetLead := goodIn_r _ [11, 12, 13, 14, 15, 16, 17, 18, 19] (by decide +kernel) (by decide +kernel)
set_option maxRecDepth 20000 in
theorem gX0_noteRequest_X0_forgetLead : GoodIn wsX0_noteRequest (wsV RX0 43 RX0 yX0_forgetLead wsX0_forgetLead) := goodIn_app (goodIn_of _ (by decide +kernel)) ggX0_noteRequest_X0_forgetLead
theorem dX0_noteRequest_0 : decode cX0_noteRequest 0 = .ok (.aload_n 0, 1) := by decide +kernel
theorem dX0_noteRequest_1 : decode cX0_noteRequest 1 = .ok (.getfield 26, 3) := by decide +kernel
theorem dX0_noteRequest_4 : decode cX0_noteRequest 4 = .ok (.iload_n 1, 1) := by decide +kernel
theorem dX0_noteRequest_5 : decode cX0_noteRequest 5 = .ok (.iaload, 1) := by decide +kernel
theorem dX0_noteRequest_6 : decode cX0_noteRequest 6 = .ok (.ifCond .ne 24, 3) := by decide +kernel
theorem dX0_noteRequest_9 : decode cX0_noteRequest 9 = .ok (.aload_n 0, 1) := by decide +kernel
theorem dX0_noteRequest_10 : decode cX0_noteRequest 10 = .ok (.getfield 22, 3) := by decide +kernel
theorem dX0_noteRequest_13 : decode cX0_noteRequest 13 = .ok (.iload_n 1, 1) := by decide +kernel
theorem dX0_noteRequest_14 : decode cX0_noteRequest 14 = .ok (.aload_n 0, 1) := by decide +kernel
theorem dX0_noteRequest_15 : decode cX0_noteRequest 15 = .ok (.getfield 22, 3) := by decide +kernel
theorem dX0_noteRequest_18 : decode cX0_noteRequest 18 = .ok (.iload_n 1, 1) := by decide +kernel
theorem dX0_noteRequest_19 : decode cX0_noteRequest 19 = .ok (.laload, 1) := by decide +kernel
theorem dX0_noteRequest_20 : decode cX0_noteRequest 20 = .ok (.lload_n 2, 1) := by decide +kernel
theorem dX0_noteRequest_21 : decode cX0_noteRequest 21 = .ok (.invokestatic 37, 3) := by decide +kernel
theorem dX0_noteRequest_24 : decode cX0_noteRequest 24 = .ok (.lastore, 1) := by decide +kernel
theorem dX0_noteRequest_25 : decode cX0_noteRequest 25 = .ok (.aload_n 0, 1) := by decide +kernel
theorem dX0_noteRequest_26 : decode cX0_noteRequest 26 = .ok (.iload_n 1, 1) := by decide +kernel
theorem dX0_noteRequest_27 : decode cX0_noteRequest 27 = .ok (.invokevirtual 43, 3) := by decide +kernel
theorem dX0_noteRequest_30 : decode cX0_noteRequest 30 = .ok (.aload_n 0, 1) := by decide +kernel
theorem dX0_noteRequest_31 : decode cX0_noteRequest 31 = .ok (.getfield 26, 3) := by decide +kernel
theorem dX0_noteRequest_34 : decode cX0_noteRequest 34 = .ok (.iload_n 1, 1) := by decide +kernel
theorem dX0_noteRequest_35 : decode cX0_noteRequest 35 = .ok (.dup2, 1) := by decide +kernel
theorem dX0_noteRequest_36 : decode cX0_noteRequest 36 = .ok (.iaload, 1) := by decide +kernel
theorem dX0_noteRequest_37 : decode cX0_noteRequest 37 = .ok (.iconst 1, 1) := by decide +kernel
theorem dX0_noteRequest_38 : decode cX0_noteRequest 38 = .ok (.iadd, 1) := by decide +kernel
theorem dX0_noteRequest_39 : decode cX0_noteRequest 39 = .ok (.iastore, 1) := by decide +kernel
theorem dX0_noteRequest_40 : decode cX0_noteRequest 40 = .ok (.return_, 1) := by decide +kernel
theorem dX0_forgetLead_0 : decode cX0_forgetLead 0 = .ok (.iconst 0, 1) := by decide +kernel
theorem dX0_forgetLead_1 : decode cX0_forgetLead 1 = .ok (.istore_n 2, 1) := by decide +kernel
theorem dX0_forgetLead_2 : decode cX0_forgetLead 2 = .ok (.iload_n 2, 1) := by decide +kernel
theorem dX0_forgetLead_3 : decode cX0_forgetLead 3 = .ok (.bipush 8, 2) := by decide +kernel
theorem dX0_forgetLead_5 : decode cX0_forgetLead 5 = .ok (.if_icmp .ge 27, 3) := by decide +kernel
theorem dX0_forgetLead_8 : decode cX0_forgetLead 8 = .ok (.aload_n 0, 1) := by decide +kernel
theorem dX0_forgetLead_9 : decode cX0_forgetLead 9 = .ok (.getfield 34, 3) := by decide +kernel
theorem dX0_forgetLead_12 : decode cX0_forgetLead 12 = .ok (.iload_n 1, 1) := by decide +kernel
theorem dX0_forgetLead_13 : decode cX0_forgetLead 13 = .ok (.aaload, 1) := by decide +kernel
theorem dX0_forgetLead_14 : decode cX0_forgetLead 14 = .ok (.iload_n 2, 1) := by decide +kernel
theorem dX0_forgetLead_15 : decode cX0_forgetLead 15 = .ok (.lconst 0, 1) := by decide +kernel
theorem dX0_forgetLead_16 : decode cX0_forgetLead 16 = .ok (.lastore, 1) := by decide +kernel
theorem dX0_forgetLead_17 : decode cX0_forgetLead 17 = .ok (.aload_n 0, 1) := by decide +kernel
theorem dX0_forgetLead_18 : decode cX0_forgetLead 18 = .ok (.getfield 34, 3) := by decide +kernel
theorem dX0_forgetLead_21 : decode cX0_forgetLead 21 = .ok (.iload_n 2, 1) := by decide +kernel
theorem dX0_forgetLead_22 : decode cX0_forgetLead 22 = .ok (.aaload, 1) := by decide +kernel
theorem dX0_forgetLead_23 : decode cX0_forgetLead 23 = .ok (.iload_n 1, 1) := by decide +kernel
theorem dX0_forgetLead_24 : decode cX0_forgetLead 24 = .ok (.lconst 0, 1) := by decide +kernel
theorem dX0_forgetLead_25 : decode cX0_forgetLead 25 = .ok (.lastore, 1) := by decide +kernel
theorem dX0_forgetLead_26 : decode cX0_forgetLead 26 = .ok (.iinc 2 1, 3) := by decide +kernel
theorem dX0_forgetLead_29 : decode cX0_forgetLead 29 = .ok (.goto (-27), 3) := by decide +kernel
theorem dX0_forgetLead_32 : decode cX0_forgetLead 32 = .ok (.return_, 1) := by decide +kernel
theorem dX0_noteService_0 : decode cX0_noteService 0 = .ok (.aload_n 0, 1) := by decide +kernel
theorem dX0_noteService_1 : decode cX0_noteService 1 = .ok (.getfield 15, 3) := by decide +kernel
theorem dX0_noteService_4 : decode cX0_noteService 4 = .ok (.iload_n 1, 1) := by decide +kernel
theorem dX0_noteService_5 : decode cX0_noteService 5 = .ok (.iaload, 1) := by decide +kernel
theorem dX0_noteService_6 : decode cX0_noteService 6 = .ok (.i2l, 1) := by decide +kernel
theorem dX0_noteService_7 : decode cX0_noteService 7 = .ok (.iload_n 2, 1) := by decide +kernel
theorem dX0_noteService_8 : decode cX0_noteService 8 = .ok (.i2l, 1) := by decide +kernel
theorem dX0_noteService_9 : decode cX0_noteService 9 = .ok (.lmul, 1) := by decide +kernel
theorem dX0_noteService_10 : decode cX0_noteService 10 = .ok (.lstore_n 3, 1) := by decide +kernel
theorem dX0_noteService_11 : decode cX0_noteService 11 = .ok (.aload_n 0, 1) := by decide +kernel
theorem dX0_noteService_12 : decode cX0_noteService 12 = .ok (.getfield 22, 3) := by decide +kernel
theorem dX0_noteService_15 : decode cX0_noteService 15 = .ok (.iload_n 1, 1) := by decide +kernel
theorem dX0_noteService_16 : decode cX0_noteService 16 = .ok (.dup2, 1) := by decide +kernel
theorem dX0_noteService_17 : decode cX0_noteService 17 = .ok (.laload, 1) := by decide +kernel
theorem dX0_noteService_18 : decode cX0_noteService 18 = .ok (.lload_n 3, 1) := by decide +kernel
theorem dX0_noteService_19 : decode cX0_noteService 19 = .ok (.ladd, 1) := by decide +kernel
theorem dX0_noteService_20 : decode cX0_noteService 20 = .ok (.lastore, 1) := by decide +kernel
theorem dX0_noteService_21 : decode cX0_noteService 21 = .ok (.aload_n 0, 1) := by decide +kernel
theorem dX0_noteService_22 : decode cX0_noteService 22 = .ok (.getfield 29, 3) := by decide +kernel
theorem dX0_noteService_25 : decode cX0_noteService 25 = .ok (.iload_n 1, 1) := by decide +kernel
theorem dX0_noteService_26 : decode cX0_noteService 26 = .ok (.dup2, 1) := by decide +kernel
theorem dX0_noteService_27 : decode cX0_noteService 27 = .ok (.iaload, 1) := by decide +kernel
theorem dX0_noteService_28 : decode cX0_noteService 28 = .ok (.iload_n 2, 1) := by decide +kernel
theorem dX0_noteService_29 : decode cX0_noteService 29 = .ok (.iadd, 1) := by decide +kernel
theorem dX0_noteService_30 : decode cX0_noteService 30 = .ok (.iastore, 1) := by decide +kernel
theorem dX0_noteService_31 : decode cX0_noteService 31 = .ok (.aload_n 0, 1) := by decide +kernel
theorem dX0_noteService_32 : decode cX0_noteService 32 = .ok (.getfield 26, 3) := by decide +kernel
theorem dX0_noteService_35 : decode cX0_noteService 35 = .ok (.iload_n 1, 1) := by decide +kernel
theorem dX0_noteService_36 : decode cX0_noteService 36 = .ok (.dup2, 1) := by decide +kernel
theorem dX0_noteService_37 : decode cX0_noteService 37 = .ok (.iaload, 1) := by decide +kernel
theorem dX0_noteService_38 : decode cX0_noteService 38 = .ok (.iconst 1, 1) := by decide +kernel
theorem dX0_noteService_39 : decode cX0_noteService 39 = .ok (.isub, 1) := by decide +kernel
theorem dX0_noteService_40 : decode cX0_noteService 40 = .ok (.iastore, 1) := by decide +kernel
theorem dX0_noteService_41 : decode cX0_noteService 41 = .ok (.iconst 0, 1) := by decide +kernel
theorem dX0_noteService_42 : decode cX0_noteService 42 = .ok (.istore 5, 2) := by decide +kernel
theorem dX0_noteService_44 : decode cX0_noteService 44 = .ok (.iload 5, 2) := by decide +kernel
theorem dX0_noteService_46 : decode cX0_noteService 46 = .ok (.bipush 8, 2) := by decide +kernel
theorem dX0_noteService_48 : decode cX0_noteService 48 = .ok (.if_icmp .ge 35, 3) := by decide +kernel
theorem dX0_noteService_51 : decode cX0_noteService 51 = .ok (.aload_n 0, 1) := by decide +kernel
theorem dX0_noteService_52 : decode cX0_noteService 52 = .ok (.getfield 34, 3) := by decide +kernel
theorem dX0_noteService_55 : decode cX0_noteService 55 = .ok (.iload_n 1, 1) := by decide +kernel
theorem dX0_noteService_56 : decode cX0_noteService 56 = .ok (.aaload, 1) := by decide +kernel
theorem dX0_noteService_57 : decode cX0_noteService 57 = .ok (.iload 5, 2) := by decide +kernel
theorem dX0_noteService_59 : decode cX0_noteService 59 = .ok (.dup2, 1) := by decide +kernel
theorem dX0_noteService_60 : decode cX0_noteService 60 = .ok (.laload, 1) := by decide +kernel
theorem dX0_noteService_61 : decode cX0_noteService 61 = .ok (.lload_n 3, 1) := by decide +kernel
theorem dX0_noteService_62 : decode cX0_noteService 62 = .ok (.ladd, 1) := by decide +kernel
theorem dX0_noteService_63 : decode cX0_noteService 63 = .ok (.lastore, 1) := by decide +kernel
theorem dX0_noteService_64 : decode cX0_noteService 64 = .ok (.aload_n 0, 1) := by decide +kernel
theorem dX0_noteService_65 : decode cX0_noteService 65 = .ok (.getfield 34, 3) := by decide +kernel
theorem dX0_noteService_68 : decode cX0_noteService 68 = .ok (.iload 5, 2) := by decide +kernel
theorem dX0_noteService_70 : decode cX0_noteService 70 = .ok (.aaload, 1) := by decide +kernel
theorem dX0_noteService_71 : decode cX0_noteService 71 = .ok (.iload_n 1, 1) := by decide +kernel
theorem dX0_noteService_72 : decode cX0_noteService 72 = .ok (.dup2, 1) := by decide +kernel
theorem dX0_noteService_73 : decode cX0_noteService 73 = .ok (.laload, 1) := by decide +kernel
theorem dX0_noteService_74 : decode cX0_noteService 74 = .ok (.lload_n 3, 1) := by decide +kernel
theorem dX0_noteService_75 : decode cX0_noteService 75 = .ok (.lsub, 1) := by decide +kernel
theorem dX0_noteService_76 : decode cX0_noteService 76 = .ok (.lastore, 1) := by decide +kernel
theorem dX0_noteService_77 : decode cX0_noteService 77 = .ok (.iinc 5 1, 3) := by decide +kernel
theorem dX0_noteService_80 : decode cX0_noteService 80 = .ok (.goto (-36), 3) := by decide +kernel
theorem dX0_noteService_83 : decode cX0_noteService 83 = .ok (.return_, 1) := by decide +kernel
theorem dX0_leadOf_0 : decode cX0_leadOf 0 = .ok (.aload_n 0, 1) := by decide +kernel
theorem dX0_leadOf_1 : decode cX0_leadOf 1 = .ok (.getfield 26, 3) := by decide +kernel
theorem dX0_leadOf_4 : decode cX0_leadOf 4 = .ok (.iload_n 1, 1) := by decide +kernel
theorem dX0_leadOf_5 : decode cX0_leadOf 5 = .ok (.iaload, 1) := by decide +kernel
theorem dX0_leadOf_6 : decode cX0_leadOf 6 = .ok (.ifCond .le 23, 3) := by decide +kernel
theorem dX0_leadOf_9 : decode cX0_leadOf 9 = .ok (.aload_n 0, 1) := by decide +kernel
theorem dX0_leadOf_10 : decode cX0_leadOf 10 = .ok (.getfield 26, 3) := by decide +kernel
theorem dX0_leadOf_13 : decode cX0_leadOf 13 = .ok (.iload_n 2, 1) := by decide +kernel
theorem dX0_leadOf_14 : decode cX0_leadOf 14 = .ok (.iaload, 1) := by decide +kernel
theorem dX0_leadOf_15 : decode cX0_leadOf 15 = .ok (.ifCond .le 14, 3) := by decide +kernel
theorem dX0_leadOf_18 : decode cX0_leadOf 18 = .ok (.aload_n 0, 1) := by decide +kernel
theorem dX0_leadOf_19 : decode cX0_leadOf 19 = .ok (.getfield 34, 3) := by decide +kernel
theorem dX0_leadOf_22 : decode cX0_leadOf 22 = .ok (.iload_n 1, 1) := by decide +kernel
theorem dX0_leadOf_23 : decode cX0_leadOf 23 = .ok (.aaload, 1) := by decide +kernel
theorem dX0_leadOf_24 : decode cX0_leadOf 24 = .ok (.iload_n 2, 1) := by decide +kernel
theorem dX0_leadOf_25 : decode cX0_leadOf 25 = .ok (.laload, 1) := by decide +kernel
theorem dX0_leadOf_26 : decode cX0_leadOf 26 = .ok (.goto 4, 3) := by decide +kernel
theorem dX0_leadOf_29 : decode cX0_leadOf 29 = .ok (.lconst 0, 1) := by decide +kernel
theorem dX0_leadOf_30 : decode cX0_leadOf 30 = .ok (.lreturn, 1) := by decide +kernel
theorem dX0_nextInTurn_0 : decode cX0_nextInTurn 0 = .ok (.iconst (-1), 1) := by decide +kernel
theorem dX0_nextInTurn_1 : decode cX0_nextInTurn 1 = .ok (.istore_n 1, 1) := by decide +kernel
theorem dX0_nextInTurn_2 : decode cX0_nextInTurn 2 = .ok (.iconst 0, 1) := by decide +kernel
theorem dX0_nextInTurn_3 : decode cX0_nextInTurn 3 = .ok (.istore_n 2, 1) := by decide +kernel
theorem dX0_nextInTurn_4 : decode cX0_nextInTurn 4 = .ok (.iload_n 2, 1) := by decide +kernel
theorem dX0_nextInTurn_5 : decode cX0_nextInTurn 5 = .ok (.bipush 8, 2) := by decide +kernel
theorem dX0_nextInTurn_7 : decode cX0_nextInTurn 7 = .ok (.if_icmp .ge 41, 3) := by decide +kernel
theorem dX0_nextInTurn_10 : decode cX0_nextInTurn 10 = .ok (.aload_n 0, 1) := by decide +kernel
theorem dX0_nextInTurn_11 : decode cX0_nextInTurn 11 = .ok (.getfield 26, 3) := by decide +kernel
theorem dX0_nextInTurn_14 : decode cX0_nextInTurn 14 = .ok (.iload_n 2, 1) := by decide +kernel
theorem dX0_nextInTurn_15 : decode cX0_nextInTurn 15 = .ok (.iaload, 1) := by decide +kernel
theorem dX0_nextInTurn_16 : decode cX0_nextInTurn 16 = .ok (.ifCond .le 26, 3) := by decide +kernel
theorem dX0_nextInTurn_19 : decode cX0_nextInTurn 19 = .ok (.iload_n 1, 1) := by decide +kernel
theorem dX0_nextInTurn_20 : decode cX0_nextInTurn 20 = .ok (.iconst (-1), 1) := by decide +kernel
theorem dX0_nextInTurn_21 : decode cX0_nextInTurn 21 = .ok (.if_icmp .eq 19, 3) := by decide +kernel
theorem dX0_nextInTurn_24 : decode cX0_nextInTurn 24 = .ok (.aload_n 0, 1) := by decide +kernel
theorem dX0_nextInTurn_25 : decode cX0_nextInTurn 25 = .ok (.getfield 22, 3) := by decide +kernel
theorem dX0_nextInTurn_28 : decode cX0_nextInTurn 28 = .ok (.iload_n 2, 1) := by decide +kernel
theorem dX0_nextInTurn_29 : decode cX0_nextInTurn 29 = .ok (.laload, 1) := by decide +kernel
theorem dX0_nextInTurn_30 : decode cX0_nextInTurn 30 = .ok (.aload_n 0, 1) := by decide +kernel
theorem dX0_nextInTurn_31 : decode cX0_nextInTurn 31 = .ok (.getfield 22, 3) := by decide +kernel
theorem dX0_nextInTurn_34 : decode cX0_nextInTurn 34 = .ok (.iload_n 1, 1) := by decide +kernel
theorem dX0_nextInTurn_35 : decode cX0_nextInTurn 35 = .ok (.laload, 1) := by decide +kernel
theorem dX0_nextInTurn_36 : decode cX0_nextInTurn 36 = .ok (.lcmp, 1) := by decide +kernel
theorem dX0_nextInTurn_37 : decode cX0_nextInTurn 37 = .ok (.ifCond .ge 5, 3) := by decide +kernel
theorem dX0_nextInTurn_40 : decode cX0_nextInTurn 40 = .ok (.iload_n 2, 1) := by decide +kernel
theorem dX0_nextInTurn_41 : decode cX0_nextInTurn 41 = .ok (.istore_n 1, 1) := by decide +kernel
theorem dX0_nextInTurn_42 : decode cX0_nextInTurn 42 = .ok (.iinc 2 1, 3) := by decide +kernel
theorem dX0_nextInTurn_45 : decode cX0_nextInTurn 45 = .ok (.goto (-41), 3) := by decide +kernel
theorem dX0_nextInTurn_48 : decode cX0_nextInTurn 48 = .ok (.iload_n 1, 1) := by decide +kernel
theorem dX0_nextInTurn_49 : decode cX0_nextInTurn 49 = .ok (.ireturn, 1) := by decide +kernel
theorem dX0_greatestTag_0 : decode cX0_greatestTag 0 = .ok (.lload_n 1, 1) := by decide +kernel
theorem dX0_greatestTag_1 : decode cX0_greatestTag 1 = .ok (.lstore_n 3, 1) := by decide +kernel
theorem dX0_greatestTag_2 : decode cX0_greatestTag 2 = .ok (.iconst 0, 1) := by decide +kernel
theorem dX0_greatestTag_3 : decode cX0_greatestTag 3 = .ok (.istore 5, 2) := by decide +kernel
theorem dX0_greatestTag_5 : decode cX0_greatestTag 5 = .ok (.iload 5, 2) := by decide +kernel
theorem dX0_greatestTag_7 : decode cX0_greatestTag 7 = .ok (.bipush 8, 2) := by decide +kernel
theorem dX0_greatestTag_9 : decode cX0_greatestTag 9 = .ok (.if_icmp .ge 31, 3) := by decide +kernel
theorem dX0_greatestTag_12 : decode cX0_greatestTag 12 = .ok (.aload_n 0, 1) := by decide +kernel
theorem dX0_greatestTag_13 : decode cX0_greatestTag 13 = .ok (.getfield 9, 3) := by decide +kernel
theorem dX0_greatestTag_16 : decode cX0_greatestTag 16 = .ok (.iload 5, 2) := by decide +kernel
theorem dX0_greatestTag_18 : decode cX0_greatestTag 18 = .ok (.baload, 1) := by decide +kernel
theorem dX0_greatestTag_19 : decode cX0_greatestTag 19 = .ok (.ifCond .eq 15, 3) := by decide +kernel
theorem dX0_greatestTag_22 : decode cX0_greatestTag 22 = .ok (.lload_n 3, 1) := by decide +kernel
theorem dX0_greatestTag_23 : decode cX0_greatestTag 23 = .ok (.aload_n 0, 1) := by decide +kernel
theorem dX0_greatestTag_24 : decode cX0_greatestTag 24 = .ok (.getfield 22, 3) := by decide +kernel
theorem dX0_greatestTag_27 : decode cX0_greatestTag 27 = .ok (.iload 5, 2) := by decide +kernel
theorem dX0_greatestTag_29 : decode cX0_greatestTag 29 = .ok (.laload, 1) := by decide +kernel
theorem dX0_greatestTag_30 : decode cX0_greatestTag 30 = .ok (.invokestatic 37, 3) := by decide +kernel
theorem dX0_greatestTag_33 : decode cX0_greatestTag 33 = .ok (.lstore_n 3, 1) := by decide +kernel
theorem dX0_greatestTag_34 : decode cX0_greatestTag 34 = .ok (.iinc 5 1, 3) := by decide +kernel
theorem dX0_greatestTag_37 : decode cX0_greatestTag 37 = .ok (.goto (-32), 3) := by decide +kernel
theorem dX0_greatestTag_40 : decode cX0_greatestTag 40 = .ok (.lload_n 3, 1) := by decide +kernel
theorem dX0_greatestTag_41 : decode cX0_greatestTag 41 = .ok (.lreturn, 1) := by decide +kernel
theorem dX1_init_0 : decode cX1_init 0 = .ok (.aload_n 0, 1) := by decide +kernel
theorem dX1_init_1 : decode cX1_init 1 = .ok (.invokespecial 3, 3) := by decide +kernel
theorem dX1_init_4 : decode cX1_init 4 = .ok (.aload_n 0, 1) := by decide +kernel
theorem dX1_init_5 : decode cX1_init 5 = .ok (.sipush 500, 3) := by decide +kernel
theorem dX1_init_8 : decode cX1_init 8 = .ok (.newarray .int, 2) := by decide +kernel
theorem dX1_init_10 : decode cX1_init 10 = .ok (.putfield 9, 3) := by decide +kernel
theorem dX1_init_13 : decode cX1_init 13 = .ok (.aload_n 0, 1) := by decide +kernel
theorem dX1_init_14 : decode cX1_init 14 = .ok (.sipush 500, 3) := by decide +kernel
theorem dX1_init_17 : decode cX1_init 17 = .ok (.newarray .boolean, 2) := by decide +kernel
theorem dX1_init_19 : decode cX1_init 19 = .ok (.putfield 15, 3) := by decide +kernel
theorem dX1_init_22 : decode cX1_init 22 = .ok (.aload_n 0, 1) := by decide +kernel
theorem dX1_init_23 : decode cX1_init 23 = .ok (.sipush 500, 3) := by decide +kernel
theorem dX1_init_26 : decode cX1_init 26 = .ok (.newarray .int, 2) := by decide +kernel
theorem dX1_init_28 : decode cX1_init 28 = .ok (.putfield 19, 3) := by decide +kernel
theorem dX1_init_31 : decode cX1_init 31 = .ok (.aload_n 0, 1) := by decide +kernel
theorem dX1_init_32 : decode cX1_init 32 = .ok (.sipush 500, 3) := by decide +kernel
theorem dX1_init_35 : decode cX1_init 35 = .ok (.newarray .int, 2) := by decide +kernel
theorem dX1_init_37 : decode cX1_init 37 = .ok (.putfield 22, 3) := by decide +kernel
theorem dX1_init_40 : decode cX1_init 40 = .ok (.aload_n 0, 1) := by decide +kernel
theorem dX1_init_41 : decode cX1_init 41 = .ok (.sipush 500, 3) := by decide +kernel
theorem dX1_init_44 : decode cX1_init 44 = .ok (.newarray .long, 2) := by decide +kernel
theorem dX1_init_46 : decode cX1_init 46 = .ok (.putfield 25, 3) := by decide +kernel
theorem dX1_init_49 : decode cX1_init 49 = .ok (.aload_n 0, 1) := by decide +kernel
theorem dX1_init_50 : decode cX1_init 50 = .ok (.sipush 500, 3) := by decide +kernel
theorem dX1_init_53 : decode cX1_init 53 = .ok (.newarray .boolean, 2) := by decide +kernel
theorem dX1_init_55 : decode cX1_init 55 = .ok (.putfield 29, 3) := by decide +kernel
theorem dX1_init_58 : decode cX1_init 58 = .ok (.aload_n 0, 1) := by decide +kernel
theorem dX1_init_59 : decode cX1_init 59 = .ok (.sipush 500, 3) := by decide +kernel
theorem dX1_init_62 : decode cX1_init 62 = .ok (.newarray .int, 2) := by decide +kernel
theorem dX1_init_64 : decode cX1_init 64 = .ok (.putfield 32, 3) := by decide +kernel
theorem dX1_init_67 : decode cX1_init 67 = .ok (.aload_n 0, 1) := by decide +kernel
theorem dX1_init_68 : decode cX1_init 68 = .ok (.sipush 500, 3) := by decide +kernel
theorem dX1_init_71 : decode cX1_init 71 = .ok (.newarray .int, 2) := by decide +kernel
theorem dX1_init_73 : decode cX1_init 73 = .ok (.putfield 35, 3) := by decide +kernel
theorem dX1_init_76 : decode cX1_init 76 = .ok (.aload_n 0, 1) := by decide +kernel
theorem dX1_init_77 : decode cX1_init 77 = .ok (.sipush 500, 3) := by decide +kernel
theorem dX1_init_80 : decode cX1_init 80 = .ok (.newarray .int, 2) := by decide +kernel
theorem dX1_init_82 : decode cX1_init 82 = .ok (.putfield 38, 3) := by decide +kernel
theorem dX1_init_85 : decode cX1_init 85 = .ok (.return_, 1) := by decide +kernel
theorem dX1_isFull_0 : decode cX1_isFull 0 = .ok (.aload_n 0, 1) := by decide +kernel
theorem dX1_isFull_1 : decode cX1_isFull 1 = .ok (.getfield 41, 3) := by decide +kernel
theorem dX1_isFull_4 : decode cX1_isFull 4 = .ok (.sipush 500, 3) := by decide +kernel
theorem dX1_isFull_7 : decode cX1_isFull 7 = .ok (.if_icmp .lt 7, 3) := by decide +kernel
theorem dX1_isFull_10 : decode cX1_isFull 10 = .ok (.iconst 1, 1) := by decide +kernel
theorem dX1_isFull_11 : decode cX1_isFull 11 = .ok (.goto 4, 3) := by decide +kernel
theorem dX1_isFull_14 : decode cX1_isFull 14 = .ok (.iconst 0, 1) := by decide +kernel
theorem dX1_isFull_15 : decode cX1_isFull 15 = .ok (.ireturn, 1) := by decide +kernel
theorem dX1_isTicket_0 : decode cX1_isTicket 0 = .ok (.iload_n 1, 1) := by decide +kernel
theorem dX1_isTicket_1 : decode cX1_isTicket 1 = .ok (.ifCond .lt 15, 3) := by decide +kernel
theorem dX1_isTicket_4 : decode cX1_isTicket 4 = .ok (.iload_n 1, 1) := by decide +kernel
theorem dX1_isTicket_5 : decode cX1_isTicket 5 = .ok (.aload_n 0, 1) := by decide +kernel
theorem dX1_isTicket_6 : decode cX1_isTicket 6 = .ok (.getfield 41, 3) := by decide +kernel
theorem dX1_isTicket_9 : decode cX1_isTicket 9 = .ok (.if_icmp .ge 7, 3) := by decide +kernel
theorem dX1_isTicket_12 : decode cX1_isTicket 12 = .ok (.iconst 1, 1) := by decide +kernel
theorem dX1_isTicket_13 : decode cX1_isTicket 13 = .ok (.goto 4, 3) := by decide +kernel
theorem dX1_isTicket_16 : decode cX1_isTicket 16 = .ok (.iconst 0, 1) := by decide +kernel
theorem dX1_isTicket_17 : decode cX1_isTicket 17 = .ok (.ireturn, 1) := by decide +kernel
theorem dX1_ownerOf_0 : decode cX1_ownerOf 0 = .ok (.aload_n 0, 1) := by decide +kernel
theorem dX1_ownerOf_1 : decode cX1_ownerOf 1 = .ok (.getfield 9, 3) := by decide +kernel
theorem dX1_ownerOf_4 : decode cX1_ownerOf 4 = .ok (.iload_n 1, 1) := by decide +kernel
theorem dX1_ownerOf_5 : decode cX1_ownerOf 5 = .ok (.iaload, 1) := by decide +kernel
theorem dX1_ownerOf_6 : decode cX1_ownerOf 6 = .ok (.ireturn, 1) := by decide +kernel
theorem dX1_firstOf_0 : decode cX1_firstOf 0 = .ok (.aload_n 0, 1) := by decide +kernel
theorem dX1_firstOf_1 : decode cX1_firstOf 1 = .ok (.getfield 19, 3) := by decide +kernel
theorem dX1_firstOf_4 : decode cX1_firstOf 4 = .ok (.iload_n 1, 1) := by decide +kernel
theorem dX1_firstOf_5 : decode cX1_firstOf 5 = .ok (.iaload, 1) := by decide +kernel
theorem dX1_firstOf_6 : decode cX1_firstOf 6 = .ok (.ireturn, 1) := by decide +kernel
theorem dX1_sizeOf_0 : decode cX1_sizeOf 0 = .ok (.aload_n 0, 1) := by decide +kernel
theorem dX1_sizeOf_1 : decode cX1_sizeOf 1 = .ok (.getfield 22, 3) := by decide +kernel
theorem dX1_sizeOf_4 : decode cX1_sizeOf 4 = .ok (.iload_n 1, 1) := by decide +kernel
theorem dX1_sizeOf_5 : decode cX1_sizeOf 5 = .ok (.iaload, 1) := by decide +kernel
theorem dX1_sizeOf_6 : decode cX1_sizeOf 6 = .ok (.ireturn, 1) := by decide +kernel
theorem dX1_waiting_0 : decode cX1_waiting 0 = .ok (.aload_n 0, 1) := by decide +kernel
theorem dX1_waiting_1 : decode cX1_waiting 1 = .ok (.getfield 41, 3) := by decide +kernel
theorem dX1_waiting_4 : decode cX1_waiting 4 = .ok (.aload_n 0, 1) := by decide +kernel
theorem dX1_waiting_5 : decode cX1_waiting 5 = .ok (.getfield 45, 3) := by decide +kernel
theorem dX1_waiting_8 : decode cX1_waiting 8 = .ok (.isub, 1) := by decide +kernel
theorem dX1_waiting_9 : decode cX1_waiting 9 = .ok (.ireturn, 1) := by decide +kernel
theorem dX1_served_0 : decode cX1_served 0 = .ok (.aload_n 0, 1) := by decide +kernel
theorem dX1_served_1 : decode cX1_served 1 = .ok (.getfield 45, 3) := by decide +kernel
theorem dX1_served_4 : decode cX1_served 4 = .ok (.ireturn, 1) := by decide +kernel
theorem dX1_urgent_0 : decode cX1_urgent 0 = .ok (.aload_n 0, 1) := by decide +kernel
theorem dX1_urgent_1 : decode cX1_urgent 1 = .ok (.getfield 48, 3) := by decide +kernel
theorem dX1_urgent_4 : decode cX1_urgent 4 = .ok (.ireturn, 1) := by decide +kernel
theorem dX1_servedAt_0 : decode cX1_servedAt 0 = .ok (.iload_n 1, 1) := by decide +kernel
theorem dX1_servedAt_1 : decode cX1_servedAt 1 = .ok (.ifCond .lt 20, 3) := by decide +kernel
theorem dX1_servedAt_4 : decode cX1_servedAt 4 = .ok (.iload_n 1, 1) := by decide +kernel
theorem dX1_servedAt_5 : decode cX1_servedAt 5 = .ok (.aload_n 0, 1) := by decide +kernel
theorem dX1_servedAt_6 : decode cX1_servedAt 6 = .ok (.getfield 45, 3) := by decide +kernel
theorem dX1_servedAt_9 : decode cX1_servedAt 9 = .ok (.if_icmp .ge 12, 3) := by decide +kernel
theorem dX1_servedAt_12 : decode cX1_servedAt 12 = .ok (.aload_n 0, 1) := by decide +kernel
theorem dX1_servedAt_13 : decode cX1_servedAt 13 = .ok (.getfield 38, 3) := by decide +kernel
theorem dX1_servedAt_16 : decode cX1_servedAt 16 = .ok (.iload_n 1, 1) := by decide +kernel
theorem dX1_servedAt_17 : decode cX1_servedAt 17 = .ok (.iaload, 1) := by decide +kernel
theorem dX1_servedAt_18 : decode cX1_servedAt 18 = .ok (.goto 4, 3) := by decide +kernel
theorem dX1_servedAt_21 : decode cX1_servedAt 21 = .ok (.iconst (-1), 1) := by decide +kernel
theorem dX1_servedAt_22 : decode cX1_servedAt 22 = .ok (.ireturn, 1) := by decide +kernel
theorem dX1_stateOf_0 : decode cX1_stateOf 0 = .ok (.aload_n 0, 1) := by decide +kernel
theorem dX1_stateOf_1 : decode cX1_stateOf 1 = .ok (.getfield 29, 3) := by decide +kernel
theorem dX1_stateOf_4 : decode cX1_stateOf 4 = .ok (.iload_n 1, 1) := by decide +kernel
theorem dX1_stateOf_5 : decode cX1_stateOf 5 = .ok (.baload, 1) := by decide +kernel
theorem dX1_stateOf_6 : decode cX1_stateOf 6 = .ok (.ifCond .ne 10, 3) := by decide +kernel
theorem dX1_stateOf_9 : decode cX1_stateOf 9 = .ok (.aload_n 0, 1) := by decide +kernel
theorem dX1_stateOf_10 : decode cX1_stateOf 10 = .ok (.getfield 35, 3) := by decide +kernel
theorem dX1_stateOf_13 : decode cX1_stateOf 13 = .ok (.iload_n 1, 1) := by decide +kernel
theorem dX1_stateOf_14 : decode cX1_stateOf 14 = .ok (.iaload, 1) := by decide +kernel
theorem dX1_stateOf_15 : decode cX1_stateOf 15 = .ok (.ireturn, 1) := by decide +kernel
theorem dX1_stateOf_16 : decode cX1_stateOf 16 = .ok (.aload_n 0, 1) := by decide +kernel
theorem dX1_stateOf_17 : decode cX1_stateOf 17 = .ok (.getfield 32, 3) := by decide +kernel
theorem dX1_stateOf_20 : decode cX1_stateOf 20 = .ok (.iload_n 1, 1) := by decide +kernel
theorem dX1_stateOf_21 : decode cX1_stateOf 21 = .ok (.iaload, 1) := by decide +kernel
theorem dX1_stateOf_22 : decode cX1_stateOf 22 = .ok (.ifCond .le 7, 3) := by decide +kernel
theorem dX1_stateOf_25 : decode cX1_stateOf 25 = .ok (.iconst 0, 1) := by decide +kernel
theorem dX1_stateOf_26 : decode cX1_stateOf 26 = .ok (.goto 4, 3) := by decide +kernel
theorem dX1_stateOf_29 : decode cX1_stateOf 29 = .ok (.iconst 1, 1) := by decide +kernel
theorem dX1_stateOf_30 : decode cX1_stateOf 30 = .ok (.ireturn, 1) := by decide +kernel
set_option maxRecDepth 20000 in
theorem ggX1_add_X1_mustKeepOrder : GoodIn wsX1_add wsX1_mustKeepOrder := goodIn_r _ [13, 2, 3, 4, 5, 14, 15, 16, 17, 18, 19, 20, 21, 22, 23, 24, 25] (by decide +kernel) (by decide +kernel)
set_option maxRecDepth 20000 in
theorem gX1_add_X1_mustKeepOrder : GoodIn wsX1_add (wsV RX1 51 RX1 yX1_mustKeepOrder wsX1_mustKeepOrder) := goodIn_app (goodIn_of _ (by decide +kernel)) ggX1_add_X1_mustKeepOrder
theorem dX1_add_0 : decode cX1_add 0 = .ok (.aload_n 0, 1) := by decide +kernel
theorem dX1_add_1 : decode cX1_add 1 = .ok (.getfield 41, 3) := by decide +kernel
theorem dX1_add_4 : decode cX1_add 4 = .ok (.istore 7, 2) := by decide +kernel
theorem dX1_add_6 : decode cX1_add 6 = .ok (.aload_n 0, 1) := by decide +kernel
theorem dX1_add_7 : decode cX1_add 7 = .ok (.getfield 9, 3) := by decide +kernel
theorem dX1_add_10 : decode cX1_add 10 = .ok (.iload 7, 2) := by decide +kernel
theorem dX1_add_12 : decode cX1_add 12 = .ok (.iload_n 1, 1) := by decide +kernel
theorem dX1_add_13 : decode cX1_add 13 = .ok (.iastore, 1) := by decide +kernel
theorem dX1_add_14 : decode cX1_add 14 = .ok (.aload_n 0, 1) := by decide +kernel
theorem dX1_add_15 : decode cX1_add 15 = .ok (.getfield 15, 3) := by decide +kernel
theorem dX1_add_18 : decode cX1_add 18 = .ok (.iload 7, 2) := by decide +kernel
theorem dX1_add_20 : decode cX1_add 20 = .ok (.iload_n 2, 1) := by decide +kernel
theorem dX1_add_21 : decode cX1_add 21 = .ok (.bastore, 1) := by decide +kernel
theorem dX1_add_22 : decode cX1_add 22 = .ok (.aload_n 0, 1) := by decide +kernel
theorem dX1_add_23 : decode cX1_add 23 = .ok (.getfield 19, 3) := by decide +kernel
theorem dX1_add_26 : decode cX1_add 26 = .ok (.iload 7, 2) := by decide +kernel
theorem dX1_add_28 : decode cX1_add 28 = .ok (.iload_n 3, 1) := by decide +kernel
theorem dX1_add_29 : decode cX1_add 29 = .ok (.iastore, 1) := by decide +kernel
theorem dX1_add_30 : decode cX1_add 30 = .ok (.aload_n 0, 1) := by decide +kernel
theorem dX1_add_31 : decode cX1_add 31 = .ok (.getfield 22, 3) := by decide +kernel
theorem dX1_add_34 : decode cX1_add 34 = .ok (.iload 7, 2) := by decide +kernel
theorem dX1_add_36 : decode cX1_add 36 = .ok (.iload 4, 2) := by decide +kernel
theorem dX1_add_38 : decode cX1_add 38 = .ok (.iastore, 1) := by decide +kernel
theorem dX1_add_39 : decode cX1_add 39 = .ok (.aload_n 0, 1) := by decide +kernel
theorem dX1_add_40 : decode cX1_add 40 = .ok (.getfield 25, 3) := by decide +kernel
theorem dX1_add_43 : decode cX1_add 43 = .ok (.iload 7, 2) := by decide +kernel
theorem dX1_add_45 : decode cX1_add 45 = .ok (.lload 5, 2) := by decide +kernel
theorem dX1_add_47 : decode cX1_add 47 = .ok (.lastore, 1) := by decide +kernel
theorem dX1_add_48 : decode cX1_add 48 = .ok (.aload_n 0, 1) := by decide +kernel
theorem dX1_add_49 : decode cX1_add 49 = .ok (.getfield 29, 3) := by decide +kernel
theorem dX1_add_52 : decode cX1_add 52 = .ok (.iload 7, 2) := by decide +kernel
theorem dX1_add_54 : decode cX1_add 54 = .ok (.iconst 1, 1) := by decide +kernel
theorem dX1_add_55 : decode cX1_add 55 = .ok (.bastore, 1) := by decide +kernel
theorem dX1_add_56 : decode cX1_add 56 = .ok (.iconst 0, 1) := by decide +kernel
theorem dX1_add_57 : decode cX1_add 57 = .ok (.istore 8, 2) := by decide +kernel
theorem dX1_add_59 : decode cX1_add 59 = .ok (.iload 8, 2) := by decide +kernel
theorem dX1_add_61 : decode cX1_add 61 = .ok (.iload 7, 2) := by decide +kernel
theorem dX1_add_63 : decode cX1_add 63 = .ok (.if_icmp .ge 41, 3) := by decide +kernel
theorem dX1_add_66 : decode cX1_add 66 = .ok (.aload_n 0, 1) := by decide +kernel
theorem dX1_add_67 : decode cX1_add 67 = .ok (.getfield 29, 3) := by decide +kernel
theorem dX1_add_70 : decode cX1_add 70 = .ok (.iload 8, 2) := by decide +kernel
theorem dX1_add_72 : decode cX1_add 72 = .ok (.baload, 1) := by decide +kernel
theorem dX1_add_73 : decode cX1_add 73 = .ok (.ifCond .eq 25, 3) := by decide +kernel
theorem dX1_add_76 : decode cX1_add 76 = .ok (.aload_n 0, 1) := by decide +kernel
theorem dX1_add_77 : decode cX1_add 77 = .ok (.iload 8, 2) := by decide +kernel
theorem dX1_add_79 : decode cX1_add 79 = .ok (.iload 7, 2) := by decide +kernel
theorem dX1_add_81 : decode cX1_add 81 = .ok (.invokevirtual 51, 3) := by decide +kernel
theorem dX1_add_84 : decode cX1_add 84 = .ok (.ifCond .eq 14, 3) := by decide +kernel
theorem dX1_add_87 : decode cX1_add 87 = .ok (.aload_n 0, 1) := by decide +kernel
theorem dX1_add_88 : decode cX1_add 88 = .ok (.getfield 32, 3) := by decide +kernel
theorem dX1_add_91 : decode cX1_add 91 = .ok (.iload 7, 2) := by decide +kernel
theorem dX1_add_93 : decode cX1_add 93 = .ok (.dup2, 1) := by decide +kernel
theorem dX1_add_94 : decode cX1_add 94 = .ok (.iaload, 1) := by decide +kernel
theorem dX1_add_95 : decode cX1_add 95 = .ok (.iconst 1, 1) := by decide +kernel
theorem dX1_add_96 : decode cX1_add 96 = .ok (.iadd, 1) := by decide +kernel
theorem dX1_add_97 : decode cX1_add 97 = .ok (.iastore, 1) := by decide +kernel
theorem dX1_add_98 : decode cX1_add 98 = .ok (.iinc 8 1, 3) := by decide +kernel
theorem dX1_add_101 : decode cX1_add 101 = .ok (.goto (-42), 3) := by decide +kernel
theorem dX1_add_104 : decode cX1_add 104 = .ok (.aload_n 0, 1) := by decide +kernel
theorem dX1_add_105 : decode cX1_add 105 = .ok (.dup, 1) := by decide +kernel
theorem dX1_add_106 : decode cX1_add 106 = .ok (.getfield 41, 3) := by decide +kernel
theorem dX1_add_109 : decode cX1_add 109 = .ok (.iconst 1, 1) := by decide +kernel
theorem dX1_add_110 : decode cX1_add 110 = .ok (.iadd, 1) := by decide +kernel
theorem dX1_add_111 : decode cX1_add 111 = .ok (.putfield 41, 3) := by decide +kernel
theorem dX1_add_114 : decode cX1_add 114 = .ok (.iload 7, 2) := by decide +kernel
theorem dX1_add_116 : decode cX1_add 116 = .ok (.ireturn, 1) := by decide +kernel
set_option maxRecDepth 20000 in
theorem ggX1_markServed_X1_mustKeepOrder : GoodIn wsX1_markServed wsX1_mustKeepOrder := goodIn_r _ [12, 13, 14, 15, 16, 17, 18, 19, 20, 21, 22, 23, 24, 25, 26, 27, 28] (by decide +kernel) (by decide +kernel)
set_option maxRecDepth 20000 in
theorem gX1_markServed_X1_mustKeepOrder : GoodIn wsX1_markServed (wsV RX1 51 RX1 yX1_mustKeepOrder wsX1_mustKeepOrder) := goodIn_app (goodIn_of _ (by decide +kernel)) ggX1_markServed_X1_mustKeepOrder
theorem dX1_markServed_0 : decode cX1_markServed 0 = .ok (.aload_n 0, 1) := by decide +kernel
theorem dX1_markServed_1 : decode cX1_markServed 1 = .ok (.getfield 29, 3) := by decide +kernel
theorem dX1_markServed_4 : decode cX1_markServed 4 = .ok (.iload_n 1, 1) := by decide +kernel
theorem dX1_markServed_5 : decode cX1_markServed 5 = .ok (.iconst 0, 1) := by decide +kernel
theorem dX1_markServed_6 : decode cX1_markServed 6 = .ok (.bastore, 1) := by decide +kernel
theorem dX1_markServed_7 : decode cX1_markServed 7 = .ok (.aload_n 0, 1) := by decide +kernel
theorem dX1_markServed_8 : decode cX1_markServed 8 = .ok (.getfield 35, 3) := by decide +kernel
theorem dX1_markServed_11 : decode cX1_markServed 11 = .ok (.iload_n 1, 1) := by decide +kernel
theorem dX1_markServed_12 : decode cX1_markServed 12 = .ok (.iload_n 2, 1) := by decide +kernel
theorem dX1_markServed_13 : decode cX1_markServed 13 = .ok (.iastore, 1) := by decide +kernel
theorem dX1_markServed_14 : decode cX1_markServed 14 = .ok (.aload_n 0, 1) := by decide +kernel
theorem dX1_markServed_15 : decode cX1_markServed 15 = .ok (.getfield 38, 3) := by decide +kernel
theorem dX1_markServed_18 : decode cX1_markServed 18 = .ok (.aload_n 0, 1) := by decide +kernel
theorem dX1_markServed_19 : decode cX1_markServed 19 = .ok (.getfield 45, 3) := by decide +kernel
theorem dX1_markServed_22 : decode cX1_markServed 22 = .ok (.iload_n 1, 1) := by decide +kernel
theorem dX1_markServed_23 : decode cX1_markServed 23 = .ok (.iastore, 1) := by decide +kernel
theorem dX1_markServed_24 : decode cX1_markServed 24 = .ok (.aload_n 0, 1) := by decide +kernel
theorem dX1_markServed_25 : decode cX1_markServed 25 = .ok (.dup, 1) := by decide +kernel
theorem dX1_markServed_26 : decode cX1_markServed 26 = .ok (.getfield 45, 3) := by decide +kernel
theorem dX1_markServed_29 : decode cX1_markServed 29 = .ok (.iconst 1, 1) := by decide +kernel
theorem dX1_markServed_30 : decode cX1_markServed 30 = .ok (.iadd, 1) := by decide +kernel
theorem dX1_markServed_31 : decode cX1_markServed 31 = .ok (.putfield 45, 3) := by decide +kernel
theorem dX1_markServed_34 : decode cX1_markServed 34 = .ok (.iload_n 2, 1) := by decide +kernel
theorem dX1_markServed_35 : decode cX1_markServed 35 = .ok (.iconst 3, 1) := by decide +kernel
theorem dX1_markServed_36 : decode cX1_markServed 36 = .ok (.if_icmp .ne 13, 3) := by decide +kernel
theorem dX1_markServed_39 : decode cX1_markServed 39 = .ok (.aload_n 0, 1) := by decide +kernel
theorem dX1_markServed_40 : decode cX1_markServed 40 = .ok (.dup, 1) := by decide +kernel
theorem dX1_markServed_41 : decode cX1_markServed 41 = .ok (.getfield 48, 3) := by decide +kernel
theorem dX1_markServed_44 : decode cX1_markServed 44 = .ok (.iconst 1, 1) := by decide +kernel
theorem dX1_markServed_45 : decode cX1_markServed 45 = .ok (.iadd, 1) := by decide +kernel
theorem dX1_markServed_46 : decode cX1_markServed 46 = .ok (.putfield 48, 3) := by decide +kernel
theorem dX1_markServed_49 : decode cX1_markServed 49 = .ok (.iload_n 1, 1) := by decide +kernel
theorem dX1_markServed_50 : decode cX1_markServed 50 = .ok (.iconst 1, 1) := by decide +kernel
theorem dX1_markServed_51 : decode cX1_markServed 51 = .ok (.iadd, 1) := by decide +kernel
theorem dX1_markServed_52 : decode cX1_markServed 52 = .ok (.istore_n 3, 1) := by decide +kernel
theorem dX1_markServed_53 : decode cX1_markServed 53 = .ok (.iload_n 3, 1) := by decide +kernel
theorem dX1_markServed_54 : decode cX1_markServed 54 = .ok (.aload_n 0, 1) := by decide +kernel
theorem dX1_markServed_55 : decode cX1_markServed 55 = .ok (.getfield 41, 3) := by decide +kernel
theorem dX1_markServed_58 : decode cX1_markServed 58 = .ok (.if_icmp .ge 28, 3) := by decide +kernel
theorem dX1_markServed_61 : decode cX1_markServed 61 = .ok (.aload_n 0, 1) := by decide +kernel
theorem dX1_markServed_62 : decode cX1_markServed 62 = .ok (.iload_n 1, 1) := by decide +kernel
theorem dX1_markServed_63 : decode cX1_markServed 63 = .ok (.iload_n 3, 1) := by decide +kernel
theorem dX1_markServed_64 : decode cX1_markServed 64 = .ok (.invokevirtual 51, 3) := by decide +kernel
theorem dX1_markServed_67 : decode cX1_markServed 67 = .ok (.ifCond .eq 13, 3) := by decide +kernel
theorem dX1_markServed_70 : decode cX1_markServed 70 = .ok (.aload_n 0, 1) := by decide +kernel
theorem dX1_markServed_71 : decode cX1_markServed 71 = .ok (.getfield 32, 3) := by decide +kernel
theorem dX1_markServed_74 : decode cX1_markServed 74 = .ok (.iload_n 3, 1) := by decide +kernel
theorem dX1_markServed_75 : decode cX1_markServed 75 = .ok (.dup2, 1) := by decide +kernel
theorem dX1_markServed_76 : decode cX1_markServed 76 = .ok (.iaload, 1) := by decide +kernel
theorem dX1_markServed_77 : decode cX1_markServed 77 = .ok (.iconst 1, 1) := by decide +kernel
theorem dX1_markServed_78 : decode cX1_markServed 78 = .ok (.isub, 1) := by decide +kernel
theorem dX1_markServed_79 : decode cX1_markServed 79 = .ok (.iastore, 1) := by decide +kernel
theorem dX1_markServed_80 : decode cX1_markServed 80 = .ok (.iinc 3 1, 3) := by decide +kernel
theorem dX1_markServed_83 : decode cX1_markServed 83 = .ok (.goto (-30), 3) := by decide +kernel
theorem dX1_markServed_86 : decode cX1_markServed 86 = .ok (.return_, 1) := by decide +kernel
theorem dX1_mustKeepOrder_0 : decode cX1_mustKeepOrder 0 = .ok (.aload_n 0, 1) := by decide +kernel
theorem dX1_mustKeepOrder_1 : decode cX1_mustKeepOrder 1 = .ok (.getfield 9, 3) := by decide +kernel
theorem dX1_mustKeepOrder_4 : decode cX1_mustKeepOrder 4 = .ok (.iload_n 1, 1) := by decide +kernel
theorem dX1_mustKeepOrder_5 : decode cX1_mustKeepOrder 5 = .ok (.iaload, 1) := by decide +kernel
theorem dX1_mustKeepOrder_6 : decode cX1_mustKeepOrder 6 = .ok (.aload_n 0, 1) := by decide +kernel
theorem dX1_mustKeepOrder_7 : decode cX1_mustKeepOrder 7 = .ok (.getfield 9, 3) := by decide +kernel
theorem dX1_mustKeepOrder_10 : decode cX1_mustKeepOrder 10 = .ok (.iload_n 2, 1) := by decide +kernel
theorem dX1_mustKeepOrder_11 : decode cX1_mustKeepOrder 11 = .ok (.iaload, 1) := by decide +kernel
theorem dX1_mustKeepOrder_12 : decode cX1_mustKeepOrder 12 = .ok (.if_icmp .ne 69, 3) := by decide +kernel
theorem dX1_mustKeepOrder_15 : decode cX1_mustKeepOrder 15 = .ok (.aload_n 0, 1) := by decide +kernel
theorem dX1_mustKeepOrder_16 : decode cX1_mustKeepOrder 16 = .ok (.getfield 15, 3) := by decide +kernel
theorem dX1_mustKeepOrder_19 : decode cX1_mustKeepOrder 19 = .ok (.iload_n 1, 1) := by decide +kernel
theorem dX1_mustKeepOrder_20 : decode cX1_mustKeepOrder 20 = .ok (.baload, 1) := by decide +kernel
theorem dX1_mustKeepOrder_21 : decode cX1_mustKeepOrder 21 = .ok (.ifCond .ne 12, 3) := by decide +kernel
theorem dX1_mustKeepOrder_24 : decode cX1_mustKeepOrder 24 = .ok (.aload_n 0, 1) := by decide +kernel
theorem dX1_mustKeepOrder_25 : decode cX1_mustKeepOrder 25 = .ok (.getfield 15, 3) := by decide +kernel
theorem dX1_mustKeepOrder_28 : decode cX1_mustKeepOrder 28 = .ok (.iload_n 2, 1) := by decide +kernel
theorem dX1_mustKeepOrder_29 : decode cX1_mustKeepOrder 29 = .ok (.baload, 1) := by decide +kernel
theorem dX1_mustKeepOrder_30 : decode cX1_mustKeepOrder 30 = .ok (.ifCond .eq 51, 3) := by decide +kernel
theorem dX1_mustKeepOrder_33 : decode cX1_mustKeepOrder 33 = .ok (.aload_n 0, 1) := by decide +kernel
theorem dX1_mustKeepOrder_34 : decode cX1_mustKeepOrder 34 = .ok (.getfield 19, 3) := by decide +kernel
theorem dX1_mustKeepOrder_37 : decode cX1_mustKeepOrder 37 = .ok (.iload_n 1, 1) := by decide +kernel
theorem dX1_mustKeepOrder_38 : decode cX1_mustKeepOrder 38 = .ok (.iaload, 1) := by decide +kernel
theorem dX1_mustKeepOrder_39 : decode cX1_mustKeepOrder 39 = .ok (.aload_n 0, 1) := by decide +kernel
theorem dX1_mustKeepOrder_40 : decode cX1_mustKeepOrder 40 = .ok (.getfield 19, 3) := by decide +kernel
theorem dX1_mustKeepOrder_43 : decode cX1_mustKeepOrder 43 = .ok (.iload_n 2, 1) := by decide +kernel
theorem dX1_mustKeepOrder_44 : decode cX1_mustKeepOrder 44 = .ok (.iaload, 1) := by decide +kernel
theorem dX1_mustKeepOrder_45 : decode cX1_mustKeepOrder 45 = .ok (.aload_n 0, 1) := by decide +kernel
theorem dX1_mustKeepOrder_46 : decode cX1_mustKeepOrder 46 = .ok (.getfield 22, 3) := by decide +kernel
theorem dX1_mustKeepOrder_49 : decode cX1_mustKeepOrder 49 = .ok (.iload_n 2, 1) := by decide +kernel
theorem dX1_mustKeepOrder_50 : decode cX1_mustKeepOrder 50 = .ok (.iaload, 1) := by decide +kernel
theorem dX1_mustKeepOrder_51 : decode cX1_mustKeepOrder 51 = .ok (.iadd, 1) := by decide +kernel
theorem dX1_mustKeepOrder_52 : decode cX1_mustKeepOrder 52 = .ok (.if_icmp .ge 29, 3) := by decide +kernel
theorem dX1_mustKeepOrder_55 : decode cX1_mustKeepOrder 55 = .ok (.aload_n 0, 1) := by decide +kernel
theorem dX1_mustKeepOrder_56 : decode cX1_mustKeepOrder 56 = .ok (.getfield 19, 3) := by decide +kernel
theorem dX1_mustKeepOrder_59 : decode cX1_mustKeepOrder 59 = .ok (.iload_n 2, 1) := by decide +kernel
theorem dX1_mustKeepOrder_60 : decode cX1_mustKeepOrder 60 = .ok (.iaload, 1) := by decide +kernel
theorem dX1_mustKeepOrder_61 : decode cX1_mustKeepOrder 61 = .ok (.aload_n 0, 1) := by decide +kernel
theorem dX1_mustKeepOrder_62 : decode cX1_mustKeepOrder 62 = .ok (.getfield 19, 3) := by decide +kernel
theorem dX1_mustKeepOrder_65 : decode cX1_mustKeepOrder 65 = .ok (.iload_n 1, 1) := by decide +kernel
theorem dX1_mustKeepOrder_66 : decode cX1_mustKeepOrder 66 = .ok (.iaload, 1) := by decide +kernel
theorem dX1_mustKeepOrder_67 : decode cX1_mustKeepOrder 67 = .ok (.aload_n 0, 1) := by decide +kernel
theorem dX1_mustKeepOrder_68 : decode cX1_mustKeepOrder 68 = .ok (.getfield 22, 3) := by decide +kernel
theorem dX1_mustKeepOrder_71 : decode cX1_mustKeepOrder 71 = .ok (.iload_n 1, 1) := by decide +kernel
theorem dX1_mustKeepOrder_72 : decode cX1_mustKeepOrder 72 = .ok (.iaload, 1) := by decide +kernel
theorem dX1_mustKeepOrder_73 : decode cX1_mustKeepOrder 73 = .ok (.iadd, 1) := by decide +kernel
theorem dX1_mustKeepOrder_74 : decode cX1_mustKeepOrder 74 = .ok (.if_icmp .ge 7, 3) := by decide +kernel
theorem dX1_mustKeepOrder_77 : decode cX1_mustKeepOrder 77 = .ok (.iconst 1, 1) := by decide +kernel
theorem dX1_mustKeepOrder_78 : decode cX1_mustKeepOrder 78 = .ok (.goto 4, 3) := by decide +kernel
theorem dX1_mustKeepOrder_81 : decode cX1_mustKeepOrder 81 = .ok (.iconst 0, 1) := by decide +kernel
theorem dX1_mustKeepOrder_82 : decode cX1_mustKeepOrder 82 = .ok (.ireturn, 1) := by decide +kernel
set_option maxRecDepth 20000 in
theorem ggX1_mostUrgent_X1_stateOf : GoodIn wsX1_mostUrgent wsX1_stateOf := goodIn_r _ [7, 8, 9, 10, 11, 12, 13, 14, 15, 16, 17, 18, 19, 20, 21, 22] (by decide +kernel) (by decide +kernel)
set_option maxRecDepth 20000 in
theorem gX1_mostUrgent_X1_stateOf : GoodIn wsX1_mostUrgent (wsV RX1 55 RX1 yX1_stateOf wsX1_stateOf) := goodIn_app (goodIn_of _ (by decide +kernel)) ggX1_mostUrgent_X1_stateOf
theorem dX1_mostUrgent_0 : decode cX1_mostUrgent 0 = .ok (.iconst (-1), 1) := by decide +kernel
theorem dX1_mostUrgent_1 : decode cX1_mostUrgent 1 = .ok (.istore_n 3, 1) := by decide +kernel
theorem dX1_mostUrgent_2 : decode cX1_mostUrgent 2 = .ok (.iconst 0, 1) := by decide +kernel
theorem dX1_mostUrgent_3 : decode cX1_mostUrgent 3 = .ok (.istore 4, 2) := by decide +kernel
theorem dX1_mostUrgent_5 : decode cX1_mostUrgent 5 = .ok (.iload 4, 2) := by decide +kernel
theorem dX1_mostUrgent_7 : decode cX1_mostUrgent 7 = .ok (.aload_n 0, 1) := by decide +kernel
theorem dX1_mostUrgent_8 : decode cX1_mostUrgent 8 = .ok (.getfield 41, 3) := by decide +kernel
theorem dX1_mostUrgent_11 : decode cX1_mostUrgent 11 = .ok (.if_icmp .ge 56, 3) := by decide +kernel
theorem dX1_mostUrgent_14 : decode cX1_mostUrgent 14 = .ok (.aload_n 0, 1) := by decide +kernel
theorem dX1_mostUrgent_15 : decode cX1_mostUrgent 15 = .ok (.iload 4, 2) := by decide +kernel
theorem dX1_mostUrgent_17 : decode cX1_mostUrgent 17 = .ok (.invokevirtual 55, 3) := by decide +kernel
theorem dX1_mostUrgent_20 : decode cX1_mostUrgent 20 = .ok (.iconst 1, 1) := by decide +kernel
theorem dX1_mostUrgent_21 : decode cX1_mostUrgent 21 = .ok (.if_icmp .ne 40, 3) := by decide +kernel
theorem dX1_mostUrgent_24 : decode cX1_mostUrgent 24 = .ok (.aload_n 0, 1) := by decide +kernel
theorem dX1_mostUrgent_25 : decode cX1_mostUrgent 25 = .ok (.getfield 25, 3) := by decide +kernel
theorem dX1_mostUrgent_28 : decode cX1_mostUrgent 28 = .ok (.iload 4, 2) := by decide +kernel
theorem dX1_mostUrgent_30 : decode cX1_mostUrgent 30 = .ok (.laload, 1) := by decide +kernel
theorem dX1_mostUrgent_31 : decode cX1_mostUrgent 31 = .ok (.lload_n 1, 1) := by decide +kernel
theorem dX1_mostUrgent_32 : decode cX1_mostUrgent 32 = .ok (.lcmp, 1) := by decide +kernel
theorem dX1_mostUrgent_33 : decode cX1_mostUrgent 33 = .ok (.ifCond .gt 28, 3) := by decide +kernel
theorem dX1_mostUrgent_36 : decode cX1_mostUrgent 36 = .ok (.iload_n 3, 1) := by decide +kernel
theorem dX1_mostUrgent_37 : decode cX1_mostUrgent 37 = .ok (.iconst (-1), 1) := by decide +kernel
theorem dX1_mostUrgent_38 : decode cX1_mostUrgent 38 = .ok (.if_icmp .eq 20, 3) := by decide +kernel
theorem dX1_mostUrgent_41 : decode cX1_mostUrgent 41 = .ok (.aload_n 0, 1) := by decide +kernel
theorem dX1_mostUrgent_42 : decode cX1_mostUrgent 42 = .ok (.getfield 25, 3) := by decide +kernel
theorem dX1_mostUrgent_45 : decode cX1_mostUrgent 45 = .ok (.iload 4, 2) := by decide +kernel
theorem dX1_mostUrgent_47 : decode cX1_mostUrgent 47 = .ok (.laload, 1) := by decide +kernel
theorem dX1_mostUrgent_48 : decode cX1_mostUrgent 48 = .ok (.aload_n 0, 1) := by decide +kernel
theorem dX1_mostUrgent_49 : decode cX1_mostUrgent 49 = .ok (.getfield 25, 3) := by decide +kernel
theorem dX1_mostUrgent_52 : decode cX1_mostUrgent 52 = .ok (.iload_n 3, 1) := by decide +kernel
theorem dX1_mostUrgent_53 : decode cX1_mostUrgent 53 = .ok (.laload, 1) := by decide +kernel
theorem dX1_mostUrgent_54 : decode cX1_mostUrgent 54 = .ok (.lcmp, 1) := by decide +kernel
theorem dX1_mostUrgent_55 : decode cX1_mostUrgent 55 = .ok (.ifCond .ge 6, 3) := by decide +kernel
theorem dX1_mostUrgent_58 : decode cX1_mostUrgent 58 = .ok (.iload 4, 2) := by decide +kernel
theorem dX1_mostUrgent_60 : decode cX1_mostUrgent 60 = .ok (.istore_n 3, 1) := by decide +kernel
theorem dX1_mostUrgent_61 : decode cX1_mostUrgent 61 = .ok (.iinc 4 1, 3) := by decide +kernel
theorem dX1_mostUrgent_64 : decode cX1_mostUrgent 64 = .ok (.goto (-59), 3) := by decide +kernel
theorem dX1_mostUrgent_67 : decode cX1_mostUrgent 67 = .ok (.iload_n 3, 1) := by decide +kernel
theorem dX1_mostUrgent_68 : decode cX1_mostUrgent 68 = .ok (.ireturn, 1) := by decide +kernel
set_option maxRecDepth 20000 in
theorem ggX1_nextAlong_X1_stateOf : GoodIn wsX1_nextAlong wsX1_stateOf := goodIn_r _ [7, 8, 9, 10, 17, 18, 19, 20, 21, 22, 23, 24, 25, 26, 27, 28] (by decide +kernel) (by decide +kernel)
set_option maxRecDepth 20000 in
theorem gX1_nextAlong_X1_stateOf : GoodIn wsX1_nextAlong (wsV RX1 55 RX1 yX1_stateOf wsX1_stateOf) := goodIn_app (goodIn_of _ (by decide +kernel)) ggX1_nextAlong_X1_stateOf
set_option maxRecDepth 20000 in
theorem ggX1_nextAlong_X1_turnOf : GoodIn wsX1_nextAlong wsX1_turnOf := goodIn_r _ [14, 15, 16, 17, 18, 19, 20, 21, 22, 23, 24, 25, 26, 27, 28] (by decide +kernel) (by decide +kernel)
set_option maxRecDepth 20000 in
theorem gX1_nextAlong_X1_turnOf : GoodIn wsX1_nextAlong (wsV RX1 59 RX1 yX1_turnOf wsX1_turnOf) := goodIn_app (goodIn_of _ (by decide +kernel)) ggX1_nextAlong_X1_turnOf
theorem dX1_nextAlong_0 : decode cX1_nextAlong 0 = .ok (.iconst (-1), 1) := by decide +kernel
theorem dX1_nextAlong_1 : decode cX1_nextAlong 1 = .ok (.istore_n 3, 1) := by decide +kernel
theorem dX1_nextAlong_2 : decode cX1_nextAlong 2 = .ok (.iconst 0, 1) := by decide +kernel
theorem dX1_nextAlong_3 : decode cX1_nextAlong 3 = .ok (.istore 4, 2) := by decide +kernel
theorem dX1_nextAlong_5 : decode cX1_nextAlong 5 = .ok (.iload 4, 2) := by decide +kernel
theorem dX1_nextAlong_7 : decode cX1_nextAlong 7 = .ok (.aload_n 0, 1) := by decide +kernel
theorem dX1_nextAlong_8 : decode cX1_nextAlong 8 = .ok (.getfield 41, 3) := by decide +kernel
theorem dX1_nextAlong_11 : decode cX1_nextAlong 11 = .ok (.if_icmp .ge 54, 3) := by decide +kernel
theorem dX1_nextAlong_14 : decode cX1_nextAlong 14 = .ok (.aload_n 0, 1) := by decide +kernel
theorem dX1_nextAlong_15 : decode cX1_nextAlong 15 = .ok (.iload 4, 2) := by decide +kernel
theorem dX1_nextAlong_17 : decode cX1_nextAlong 17 = .ok (.invokevirtual 55, 3) := by decide +kernel
theorem dX1_nextAlong_20 : decode cX1_nextAlong 20 = .ok (.iconst 1, 1) := by decide +kernel
theorem dX1_nextAlong_21 : decode cX1_nextAlong 21 = .ok (.if_icmp .ne 38, 3) := by decide +kernel
theorem dX1_nextAlong_24 : decode cX1_nextAlong 24 = .ok (.aload_n 0, 1) := by decide +kernel
theorem dX1_nextAlong_25 : decode cX1_nextAlong 25 = .ok (.getfield 9, 3) := by decide +kernel
theorem dX1_nextAlong_28 : decode cX1_nextAlong 28 = .ok (.iload 4, 2) := by decide +kernel
theorem dX1_nextAlong_30 : decode cX1_nextAlong 30 = .ok (.iaload, 1) := by decide +kernel
theorem dX1_nextAlong_31 : decode cX1_nextAlong 31 = .ok (.iload_n 1, 1) := by decide +kernel
theorem dX1_nextAlong_32 : decode cX1_nextAlong 32 = .ok (.if_icmp .ne 27, 3) := by decide +kernel
theorem dX1_nextAlong_35 : decode cX1_nextAlong 35 = .ok (.iload_n 3, 1) := by decide +kernel
theorem dX1_nextAlong_36 : decode cX1_nextAlong 36 = .ok (.iconst (-1), 1) := by decide +kernel
theorem dX1_nextAlong_37 : decode cX1_nextAlong 37 = .ok (.if_icmp .eq 19, 3) := by decide +kernel
theorem dX1_nextAlong_40 : decode cX1_nextAlong 40 = .ok (.aload_n 0, 1) := by decide +kernel
theorem dX1_nextAlong_41 : decode cX1_nextAlong 41 = .ok (.iload 4, 2) := by decide +kernel
theorem dX1_nextAlong_43 : decode cX1_nextAlong 43 = .ok (.iload_n 2, 1) := by decide +kernel
theorem dX1_nextAlong_44 : decode cX1_nextAlong 44 = .ok (.invokevirtual 59, 3) := by decide +kernel
theorem dX1_nextAlong_47 : decode cX1_nextAlong 47 = .ok (.aload_n 0, 1) := by decide +kernel
theorem dX1_nextAlong_48 : decode cX1_nextAlong 48 = .ok (.iload_n 3, 1) := by decide +kernel
theorem dX1_nextAlong_49 : decode cX1_nextAlong 49 = .ok (.iload_n 2, 1) := by decide +kernel
theorem dX1_nextAlong_50 : decode cX1_nextAlong 50 = .ok (.invokevirtual 59, 3) := by decide +kernel
theorem dX1_nextAlong_53 : decode cX1_nextAlong 53 = .ok (.if_icmp .ge 6, 3) := by decide +kernel
theorem dX1_nextAlong_56 : decode cX1_nextAlong 56 = .ok (.iload 4, 2) := by decide +kernel
theorem dX1_nextAlong_58 : decode cX1_nextAlong 58 = .ok (.istore_n 3, 1) := by decide +kernel
theorem dX1_nextAlong_59 : decode cX1_nextAlong 59 = .ok (.iinc 4 1, 3) := by decide +kernel
theorem dX1_nextAlong_62 : decode cX1_nextAlong 62 = .ok (.goto (-57), 3) := by decide +kernel
theorem dX1_nextAlong_65 : decode cX1_nextAlong 65 = .ok (.iload_n 3, 1) := by decide +kernel
theorem dX1_nextAlong_66 : decode cX1_nextAlong 66 = .ok (.ireturn, 1) := by decide +kernel
theorem dX1_turnOf_0 : decode cX1_turnOf 0 = .ok (.aload_n 0, 1) := by decide +kernel
theorem dX1_turnOf_1 : decode cX1_turnOf 1 = .ok (.getfield 19, 3) := by decide +kernel
theorem dX1_turnOf_4 : decode cX1_turnOf 4 = .ok (.iload_n 1, 1) := by decide +kernel
theorem dX1_turnOf_5 : decode cX1_turnOf 5 = .ok (.iaload, 1) := by decide +kernel
theorem dX1_turnOf_6 : decode cX1_turnOf 6 = .ok (.iload_n 2, 1) := by decide +kernel
theorem dX1_turnOf_7 : decode cX1_turnOf 7 = .ok (.if_icmp .lt 12, 3) := by decide +kernel
theorem dX1_turnOf_10 : decode cX1_turnOf 10 = .ok (.aload_n 0, 1) := by decide +kernel
theorem dX1_turnOf_11 : decode cX1_turnOf 11 = .ok (.getfield 19, 3) := by decide +kernel
theorem dX1_turnOf_14 : decode cX1_turnOf 14 = .ok (.iload_n 1, 1) := by decide +kernel
theorem dX1_turnOf_15 : decode cX1_turnOf 15 = .ok (.iaload, 1) := by decide +kernel
theorem dX1_turnOf_16 : decode cX1_turnOf 16 = .ok (.goto 12, 3) := by decide +kernel
theorem dX1_turnOf_19 : decode cX1_turnOf 19 = .ok (.aload_n 0, 1) := by decide +kernel
theorem dX1_turnOf_20 : decode cX1_turnOf 20 = .ok (.getfield 19, 3) := by decide +kernel
theorem dX1_turnOf_23 : decode cX1_turnOf 23 = .ok (.iload_n 1, 1) := by decide +kernel
theorem dX1_turnOf_24 : decode cX1_turnOf 24 = .ok (.iaload, 1) := by decide +kernel
theorem dX1_turnOf_25 : decode cX1_turnOf 25 = .ok (.ldc 63, 2) := by decide +kernel
theorem dX1_turnOf_27 : decode cX1_turnOf 27 = .ok (.iadd, 1) := by decide +kernel
theorem dX1_turnOf_28 : decode cX1_turnOf 28 = .ok (.ireturn, 1) := by decide +kernel
set_option maxRecDepth 20000 in
theorem ggX2_init_X0_init : GoodIn wsX2_init wsX0_init := goodIn_r _ [14, 15, 2, 3, 16, 17, 18, 19, 20, 21, 22, 23, 24, 25, 26, 39, 40, 41, 42, 43, 44, 45] (by decide +kernel) (by decide +kernel)
set_option maxRecDepth 20000 in
theorem gX2_init_X0_init_n9 : GoodIn wsX2_init (wsX0_init) := ggX2_init_X0_init
set_option maxRecDepth 20000 in
theorem ggX2_init_X1_init : GoodIn wsX2_init wsX1_init := goodIn_r _ [28, 29, 2, 3, 18, 30, 16, 31, 32, 33, 21, 34, 35, 36, 37, 38, 54, 55, 56, 57, 58, 59, 60, 61, 62, 63, 64, 65] (by decide +kernel) (by decide +kernel)
set_option maxRecDepth 20000 in
theorem gX2_init_X1_init_n18 : GoodIn wsX2_init (wsX1_init) := ggX2_init_X1_init
theorem dX2_init_0 : decode cX2_init 0 = .ok (.aload_n 0, 1) := by decide +kernel
theorem dX2_init_1 : decode cX2_init 1 = .ok (.invokespecial 1, 3) := by decide +kernel
theorem dX2_init_4 : decode cX2_init 4 = .ok (.aload_n 0, 1) := by decide +kernel
theorem dX2_init_5 : decode cX2_init 5 = .ok (.new 7, 3) := by decide +kernel
theorem dX2_init_8 : decode cX2_init 8 = .ok (.dup, 1) := by decide +kernel
theorem dX2_init_9 : decode cX2_init 9 = .ok (.invokespecial 9, 3) := by decide +kernel
theorem dX2_init_12 : decode cX2_init 12 = .ok (.putfield 10, 3) := by decide +kernel
theorem dX2_init_15 : decode cX2_init 15 = .ok (.aload_n 0, 1) := by decide +kernel
theorem dX2_init_16 : decode cX2_init 16 = .ok (.new 16, 3) := by decide +kernel
theorem dX2_init_19 : decode cX2_init 19 = .ok (.dup, 1) := by decide +kernel
theorem dX2_init_20 : decode cX2_init 20 = .ok (.invokespecial 18, 3) := by decide +kernel
theorem dX2_init_23 : decode cX2_init 23 = .ok (.putfield 19, 3) := by decide +kernel
theorem dX2_init_26 : decode cX2_init 26 = .ok (.aload_n 0, 1) := by decide +kernel
theorem dX2_init_27 : decode cX2_init 27 = .ok (.iconst (-1), 1) := by decide +kernel
theorem dX2_init_28 : decode cX2_init 28 = .ok (.putfield 23, 3) := by decide +kernel
theorem dX2_init_31 : decode cX2_init 31 = .ok (.return_, 1) := by decide +kernel
set_option maxRecDepth 20000 in
theorem ggX2_client_X2_isWithin : GoodIn wsX2_client wsX2_isWithin := goodIn_r _ [8] (by decide +kernel) (by decide +kernel)
set_option maxRecDepth 20000 in
theorem gX2_client_X2_isWithin : GoodIn wsX2_client (va_wsS RX2 27 yX2_isWithin wsX2_isWithin) := goodIn_app (goodIn_of _ (by decide +kernel)) ggX2_client_X2_isWithin
set_option maxRecDepth 20000 in
theorem ggX2_client_X0_isThere : GoodIn wsX2_client wsX0_isThere := goodIn_r _ [13, 14, 34, 35, 36, 37, 38, 39, 40] (by decide +kernel) (by decide +kernel)
set_option maxRecDepth 20000 in
theorem gX2_client_X0_isThere : GoodIn wsX2_client (wsV RX2 34 RX0 yX0_isThere wsX0_isThere) := goodIn_app (goodIn_of _ (by decide +kernel)) ggX2_client_X0_isThere
set_option maxRecDepth 20000 in
theorem ggX2_client_X0_enter : GoodIn wsX2_client wsX0_enter := goodIn_r _ [18, 14, 19, 34, 35, 36, 37, 38, 39, 40] (by decide +kernel) (by decide +kernel)
set_option maxRecDepth 20000 in
theorem gX2_client_X0_enter : GoodIn wsX2_client (wsV RX2 42 RX0 yX0_enter wsX0_enter) := goodIn_app (goodIn_of _ (by decide +kernel)) ggX2_client_X0_enter
set_option maxRecDepth 20000 in
theorem ggX2_client_X0_setShare : GoodIn wsX2_client wsX0_setShare := goodIn_r _ [23, 24, 25, 34, 35, 36, 37, 38, 39, 40] (by decide +kernel) (by decide +kernel)
set_option maxRecDepth 20000 in
theorem gX2_client_X0_setShare : GoodIn wsX2_client (wsV RX2 46 RX0 yX0_setShare wsX0_setShare) := goodIn_app (goodIn_of _ (by decide +kernel)) ggX2_client_X0_setShare
theorem dX2_client_0 : decode cX2_client 0 = .ok (.iload_n 1, 1) := by decide +kernel
theorem dX2_client_1 : decode cX2_client 1 = .ok (.iconst 0, 1) := by decide +kernel
theorem dX2_client_2 : decode cX2_client 2 = .ok (.bipush 7, 2) := by decide +kernel
theorem dX2_client_4 : decode cX2_client 4 = .ok (.invokestatic 27, 3) := by decide +kernel
theorem dX2_client_7 : decode cX2_client 7 = .ok (.ifCond .eq 24, 3) := by decide +kernel
theorem dX2_client_10 : decode cX2_client 10 = .ok (.iload_n 2, 1) := by decide +kernel
theorem dX2_client_11 : decode cX2_client 11 = .ok (.iconst 1, 1) := by decide +kernel
theorem dX2_client_12 : decode cX2_client 12 = .ok (.bipush 12, 2) := by decide +kernel
theorem dX2_client_14 : decode cX2_client 14 = .ok (.invokestatic 27, 3) := by decide +kernel
theorem dX2_client_17 : decode cX2_client 17 = .ok (.ifCond .eq 14, 3) := by decide +kernel
theorem dX2_client_20 : decode cX2_client 20 = .ok (.iload_n 3, 1) := by decide +kernel
theorem dX2_client_21 : decode cX2_client 21 = .ok (.iconst 1, 1) := by decide +kernel
theorem dX2_client_22 : decode cX2_client 22 = .ok (.sipush 1000, 3) := by decide +kernel
theorem dX2_client_25 : decode cX2_client 25 = .ok (.invokestatic 27, 3) := by decide +kernel
theorem dX2_client_28 : decode cX2_client 28 = .ok (.ifCond .ne 11, 3) := by decide +kernel
theorem dX2_client_31 : decode cX2_client 31 = .ok (.new 31, 3) := by decide +kernel
theorem dX2_client_34 : decode cX2_client 34 = .ok (.dup, 1) := by decide +kernel
theorem dX2_client_35 : decode cX2_client 35 = .ok (.invokespecial 33, 3) := by decide +kernel
theorem dX2_client_38 : decode cX2_client 38 = .ok (.athrow, 1) := by decide +kernel
theorem dX2_client_39 : decode cX2_client 39 = .ok (.aload_n 0, 1) := by decide +kernel
theorem dX2_client_40 : decode cX2_client 40 = .ok (.getfield 10, 3) := by decide +kernel
theorem dX2_client_43 : decode cX2_client 43 = .ok (.iload_n 1, 1) := by decide +kernel
theorem dX2_client_44 : decode cX2_client 44 = .ok (.invokevirtual 34, 3) := by decide +kernel
theorem dX2_client_47 : decode cX2_client 47 = .ok (.ifCond .ne 15, 3) := by decide +kernel
theorem dX2_client_50 : decode cX2_client 50 = .ok (.aload_n 0, 1) := by decide +kernel
theorem dX2_client_51 : decode cX2_client 51 = .ok (.getfield 10, 3) := by decide +kernel
theorem dX2_client_54 : decode cX2_client 54 = .ok (.iload_n 1, 1) := by decide +kernel
theorem dX2_client_55 : decode cX2_client 55 = .ok (.aload_n 0, 1) := by decide +kernel
theorem dX2_client_56 : decode cX2_client 56 = .ok (.getfield 38, 3) := by decide +kernel
theorem dX2_client_59 : decode cX2_client 59 = .ok (.invokevirtual 42, 3) := by decide +kernel
theorem dX2_client_62 : decode cX2_client 62 = .ok (.aload_n 0, 1) := by decide +kernel
theorem dX2_client_63 : decode cX2_client 63 = .ok (.getfield 10, 3) := by decide +kernel
theorem dX2_client_66 : decode cX2_client 66 = .ok (.iload_n 1, 1) := by decide +kernel
theorem dX2_client_67 : decode cX2_client 67 = .ok (.sipush 27720, 3) := by decide +kernel
theorem dX2_client_70 : decode cX2_client 70 = .ok (.iload_n 2, 1) := by decide +kernel
theorem dX2_client_71 : decode cX2_client 71 = .ok (.idiv, 1) := by decide +kernel
theorem dX2_client_72 : decode cX2_client 72 = .ok (.iload_n 3, 1) := by decide +kernel
theorem dX2_client_73 : decode cX2_client 73 = .ok (.invokevirtual 46, 3) := by decide +kernel
theorem dX2_client_76 : decode cX2_client 76 = .ok (.return_, 1) := by decide +kernel
set_option maxRecDepth 20000 in
theorem ggX2_gone_X2_requireThere : GoodIn wsX2_gone wsX2_requireThere := goodIn_ca (goodIn_r _ [9, 10, 11, 3, 12, 13, 8, 14, 15, 16, 17, 18, 19, 20, 36, 37, 38, 39, 40, 41, 42, 43, 44, 45, 46, 47, 48, 49, 50] (by decide +kernel) (by decide +kernel)) (goodIn_sub (fun _ h => List.mem_cons_of_mem _ (List.mem_append_right _ h)) (by decide +kernel))
set_option maxRecDepth 20000 in
theorem gX2_gone_X2_requireThere : GoodIn wsX2_gone (wsV RX2 50 RX2 yX2_requireThere wsX2_requireThere) := goodIn_app (goodIn_of _ (by decide +kernel)) ggX2_gone_X2_requireThere
set_option maxRecDepth 20000 in
theorem ggX2_gone_X0_waitingOf : GoodIn wsX2_gone wsX0_waitingOf := goodIn_r _ [24, 25, 44, 45, 46, 47, 48, 49, 50] (by decide +kernel) (by decide +kernel)
set_option maxRecDepth 20000 in
theorem gX2_gone_X0_waitingOf : GoodIn wsX2_gone (wsV RX2 54 RX0 yX0_waitingOf wsX0_waitingOf) := goodIn_app (goodIn_of _ (by decide +kernel)) ggX2_gone_X0_waitingOf
set_option maxRecDepth 20000 in
theorem ggX2_gone_X0_leave : GoodIn wsX2_gone wsX0_leave := goodIn_r _ [29, 20, 30, 44, 45, 46, 47, 48, 49, 50] (by decide +kernel) (by decide +kernel)
set_option maxRecDepth 20000 in
theorem gX2_gone_X0_leave : GoodIn wsX2_gone (wsV RX2 61 RX0 yX0_leave wsX0_leave) := goodIn_app (goodIn_of _ (by decide +kernel)) ggX2_gone_X0_leave
set_option maxRecDepth 20000 in
theorem ggX2_gone_X2_endSlice : GoodIn wsX2_gone wsX2_endSlice := goodIn_r _ [34, 4, 35, 36, 37, 38, 39, 40, 41, 42, 43] (by decide +kernel) (by decide +kernel)
set_option maxRecDepth 20000 in
theorem gX2_gone_X2_endSlice : GoodIn wsX2_gone (wsV RX2 64 RX2 yX2_endSlice wsX2_endSlice) := goodIn_app (goodIn_of _ (by decide +kernel)) ggX2_gone_X2_endSlice
theorem dX2_gone_0 : decode cX2_gone 0 = .ok (.aload_n 0, 1) := by decide +kernel
theorem dX2_gone_1 : decode cX2_gone 1 = .ok (.iload_n 1, 1) := by decide +kernel
theorem dX2_gone_2 : decode cX2_gone 2 = .ok (.invokevirtual 50, 3) := by decide +kernel
theorem dX2_gone_5 : decode cX2_gone 5 = .ok (.aload_n 0, 1) := by decide +kernel
theorem dX2_gone_6 : decode cX2_gone 6 = .ok (.getfield 10, 3) := by decide +kernel
theorem dX2_gone_9 : decode cX2_gone 9 = .ok (.iload_n 1, 1) := by decide +kernel
theorem dX2_gone_10 : decode cX2_gone 10 = .ok (.invokevirtual 54, 3) := by decide +kernel
theorem dX2_gone_13 : decode cX2_gone 13 = .ok (.ifCond .le 11, 3) := by decide +kernel
theorem dX2_gone_16 : decode cX2_gone 16 = .ok (.new 58, 3) := by decide +kernel
theorem dX2_gone_19 : decode cX2_gone 19 = .ok (.dup, 1) := by decide +kernel
theorem dX2_gone_20 : decode cX2_gone 20 = .ok (.invokespecial 60, 3) := by decide +kernel
theorem dX2_gone_23 : decode cX2_gone 23 = .ok (.athrow, 1) := by decide +kernel
theorem dX2_gone_24 : decode cX2_gone 24 = .ok (.aload_n 0, 1) := by decide +kernel
theorem dX2_gone_25 : decode cX2_gone 25 = .ok (.getfield 10, 3) := by decide +kernel
theorem dX2_gone_28 : decode cX2_gone 28 = .ok (.iload_n 1, 1) := by decide +kernel
theorem dX2_gone_29 : decode cX2_gone 29 = .ok (.invokevirtual 61, 3) := by decide +kernel
theorem dX2_gone_32 : decode cX2_gone 32 = .ok (.aload_n 0, 1) := by decide +kernel
theorem dX2_gone_33 : decode cX2_gone 33 = .ok (.getfield 23, 3) := by decide +kernel
theorem dX2_gone_36 : decode cX2_gone 36 = .ok (.iload_n 1, 1) := by decide +kernel
theorem dX2_gone_37 : decode cX2_gone 37 = .ok (.if_icmp .ne 7, 3) := by decide +kernel
theorem dX2_gone_40 : decode cX2_gone 40 = .ok (.aload_n 0, 1) := by decide +kernel
theorem dX2_gone_41 : decode cX2_gone 41 = .ok (.invokevirtual 64, 3) := by decide +kernel
theorem dX2_gone_44 : decode cX2_gone 44 = .ok (.return_, 1) := by decide +kernel
set_option maxRecDepth 20000 in
theorem ggX2_submit_X2_requireThere : GoodIn wsX2_submit wsX2_requireThere := goodIn_ca (goodIn_r _ [12, 1, 2, 4, 13, 14, 11, 15, 16, 17, 18, 19, 20, 21, 66, 67, 68, 69, 70, 71, 72, 73, 74, 75, 76, 77, 78, 79, 80] (by decide +kernel) (by decide +kernel)) (goodIn_sub (fun _ h => List.mem_cons_of_mem _ (List.mem_append_right _ h)) (by decide +kernel))
set_option maxRecDepth 20000 in
theorem gX2_submit_X2_requireThere : GoodIn wsX2_submit (wsV RX2 50 RX2 yX2_requireThere wsX2_requireThere) := goodIn_app (goodIn_of _ (by decide +kernel)) ggX2_submit_X2_requireThere
set_option maxRecDepth 20000 in
theorem ggX2_submit_X2_areOnDisk : GoodIn wsX2_submit wsX2_areOnDisk := goodIn_r _ [24, 25, 13, 14, 11, 15] (by decide +kernel) (by decide +kernel)
set_option maxRecDepth 20000 in
theorem gX2_submit_X2_areOnDisk : GoodIn wsX2_submit (va_wsS RX2 67 yX2_areOnDisk wsX2_areOnDisk) := goodIn_app (goodIn_of _ (by decide +kernel)) ggX2_submit_X2_areOnDisk
set_option maxRecDepth 20000 in
theorem ggX2_submit_X2_isWithin : GoodIn wsX2_submit wsX2_isWithin := goodIn_r _ [15] (by decide +kernel) (by decide +kernel)
set_option maxRecDepth 20000 in
theorem gX2_submit_X2_isWithin : GoodIn wsX2_submit (va_wsS RX2 27 yX2_isWithin wsX2_isWithin) := goodIn_app (goodIn_of _ (by decide +kernel)) ggX2_submit_X2_isWithin
set_option maxRecDepth 20000 in
theorem ggX2_submit_X0_waitingOf : GoodIn wsX2_submit wsX0_waitingOf := goodIn_r _ [29, 30, 74, 75, 76, 77, 78, 79, 80] (by decide +kernel) (by decide +kernel)
set_option maxRecDepth 20000 in
theorem gX2_submit_X0_waitingOf : GoodIn wsX2_submit (wsV RX2 54 RX0 yX0_waitingOf wsX0_waitingOf) := goodIn_app (goodIn_of _ (by decide +kernel)) ggX2_submit_X0_waitingOf
set_option maxRecDepth 20000 in
theorem ggX2_submit_X1_isFull : GoodIn wsX2_submit wsX1_isFull := goodIn_r _ [35, 36, 81, 82, 83, 84, 85, 86, 87, 88, 89, 90, 91, 92] (by decide +kernel) (by decide +kernel)
set_option maxRecDepth 20000 in
theorem gX2_submit_X1_isFull : GoodIn wsX2_submit (wsV RX2 72 RX1 yX1_isFull wsX1_isFull) := goodIn_app (goodIn_of _ (by decide +kernel)) ggX2_submit_X1_isFull
set_option maxRecDepth 20000 in
theorem ggX2_submit_X0_noteRequest : GoodIn wsX2_submit wsX0_noteRequest := goodIn_r _ [40, 30, 41, 42, 43, 44, 45, 46, 47, 48, 19, 49, 50, 74, 75, 76, 77, 78, 79, 80] (by decide +kernel) (by decide +kernel)
set_option maxRecDepth 20000 in
theorem gX2_submit_X0_noteRequest : GoodIn wsX2_submit (wsV RX2 76 RX0 yX0_noteRequest wsX0_noteRequest) := goodIn_app (goodIn_of _ (by decide +kernel)) ggX2_submit_X0_noteRequest
set_option maxRecDepth 20000 in
theorem ggX2_submit_X1_add : GoodIn wsX2_submit wsX1_add := goodIn_r _ [54, 36, 55, 56, 57, 58, 59, 60, 61, 62, 63, 64, 34, 65, 81, 82, 83, 84, 85, 86, 87, 88, 89, 90, 91, 92] (by decide +kernel) (by decide +kernel)
set_option maxRecDepth 20000 in
theorem gX2_submit_X1_add : GoodIn wsX2_submit (wsV RX2 82 RX1 yX1_add wsX1_add) := goodIn_app (goodIn_of _ (by decide +kernel)) ggX2_submit_X1_add
theorem dX2_submit_0 : decode cX2_submit 0 = .ok (.aload_n 0, 1) := by decide +kernel
theorem dX2_submit_1 : decode cX2_submit 1 = .ok (.iload_n 1, 1) := by decide +kernel
theorem dX2_submit_2 : decode cX2_submit 2 = .ok (.invokevirtual 50, 3) := by decide +kernel
theorem dX2_submit_5 : decode cX2_submit 5 = .ok (.iload_n 3, 1) := by decide +kernel
theorem dX2_submit_6 : decode cX2_submit 6 = .ok (.iload 4, 2) := by decide +kernel
theorem dX2_submit_8 : decode cX2_submit 8 = .ok (.invokestatic 67, 3) := by decide +kernel
theorem dX2_submit_11 : decode cX2_submit 11 = .ok (.ifCond .eq 14, 3) := by decide +kernel
theorem dX2_submit_14 : decode cX2_submit 14 = .ok (.iload 5, 2) := by decide +kernel
theorem dX2_submit_16 : decode cX2_submit 16 = .ok (.iconst 0, 1) := by decide +kernel
theorem dX2_submit_17 : decode cX2_submit 17 = .ok (.ldc 71, 2) := by decide +kernel
theorem dX2_submit_19 : decode cX2_submit 19 = .ok (.invokestatic 27, 3) := by decide +kernel
theorem dX2_submit_22 : decode cX2_submit 22 = .ok (.ifCond .ne 11, 3) := by decide +kernel
theorem dX2_submit_25 : decode cX2_submit 25 = .ok (.new 31, 3) := by decide +kernel
theorem dX2_submit_28 : decode cX2_submit 28 = .ok (.dup, 1) := by decide +kernel
theorem dX2_submit_29 : decode cX2_submit 29 = .ok (.invokespecial 33, 3) := by decide +kernel
theorem dX2_submit_32 : decode cX2_submit 32 = .ok (.athrow, 1) := by decide +kernel
theorem dX2_submit_33 : decode cX2_submit 33 = .ok (.aload_n 0, 1) := by decide +kernel
theorem dX2_submit_34 : decode cX2_submit 34 = .ok (.getfield 10, 3) := by decide +kernel
theorem dX2_submit_37 : decode cX2_submit 37 = .ok (.iload_n 1, 1) := by decide +kernel
theorem dX2_submit_38 : decode cX2_submit 38 = .ok (.invokevirtual 54, 3) := by decide +kernel
theorem dX2_submit_41 : decode cX2_submit 41 = .ok (.bipush 64, 2) := by decide +kernel
theorem dX2_submit_43 : decode cX2_submit 43 = .ok (.if_icmp .ge 13, 3) := by decide +kernel
theorem dX2_submit_46 : decode cX2_submit 46 = .ok (.aload_n 0, 1) := by decide +kernel
theorem dX2_submit_47 : decode cX2_submit 47 = .ok (.getfield 19, 3) := by decide +kernel
theorem dX2_submit_50 : decode cX2_submit 50 = .ok (.invokevirtual 72, 3) := by decide +kernel
theorem dX2_submit_53 : decode cX2_submit 53 = .ok (.ifCond .eq 5, 3) := by decide +kernel
theorem dX2_submit_56 : decode cX2_submit 56 = .ok (.iconst (-1), 1) := by decide +kernel
theorem dX2_submit_57 : decode cX2_submit 57 = .ok (.ireturn, 1) := by decide +kernel
theorem dX2_submit_58 : decode cX2_submit 58 = .ok (.aload_n 0, 1) := by decide +kernel
theorem dX2_submit_59 : decode cX2_submit 59 = .ok (.getfield 10, 3) := by decide +kernel
theorem dX2_submit_62 : decode cX2_submit 62 = .ok (.iload_n 1, 1) := by decide +kernel
theorem dX2_submit_63 : decode cX2_submit 63 = .ok (.aload_n 0, 1) := by decide +kernel
theorem dX2_submit_64 : decode cX2_submit 64 = .ok (.getfield 38, 3) := by decide +kernel
theorem dX2_submit_67 : decode cX2_submit 67 = .ok (.invokevirtual 76, 3) := by decide +kernel
theorem dX2_submit_70 : decode cX2_submit 70 = .ok (.aload_n 0, 1) := by decide +kernel
theorem dX2_submit_71 : decode cX2_submit 71 = .ok (.getfield 19, 3) := by decide +kernel
theorem dX2_submit_74 : decode cX2_submit 74 = .ok (.iload_n 1, 1) := by decide +kernel
theorem dX2_submit_75 : decode cX2_submit 75 = .ok (.iload_n 2, 1) := by decide +kernel
theorem dX2_submit_76 : decode cX2_submit 76 = .ok (.iload_n 3, 1) := by decide +kernel
theorem dX2_submit_77 : decode cX2_submit 77 = .ok (.iload 4, 2) := by decide +kernel
theorem dX2_submit_79 : decode cX2_submit 79 = .ok (.aload_n 0, 1) := by decide +kernel
theorem dX2_submit_80 : decode cX2_submit 80 = .ok (.getfield 79, 3) := by decide +kernel
theorem dX2_submit_83 : decode cX2_submit 83 = .ok (.iload 5, 2) := by decide +kernel
theorem dX2_submit_85 : decode cX2_submit 85 = .ok (.i2l, 1) := by decide +kernel
theorem dX2_submit_86 : decode cX2_submit 86 = .ok (.ladd, 1) := by decide +kernel
theorem dX2_submit_87 : decode cX2_submit 87 = .ok (.invokevirtual 82, 3) := by decide +kernel
theorem dX2_submit_90 : decode cX2_submit 90 = .ok (.ireturn, 1) := by decide +kernel
set_option maxRecDepth 20000 in
theorem ggX2_dispatch_X1_mostUrgent : GoodIn wsX2_dispatch wsX1_mostUrgent := goodIn_r _ [9, 10, 11, 12, 13, 14, 8, 15, 16, 17, 18, 131, 132, 133, 134, 135, 136, 137, 138, 139, 140, 141, 142] (by decide +kernel) (by decide +kernel)
set_option maxRecDepth 20000 in
theorem gX2_dispatch_X1_mostUrgent : GoodIn wsX2_dispatch (wsV RX2 86 RX1 yX1_mostUrgent wsX1_mostUrgent) := goodIn_app (goodIn_of _ (by decide +kernel)) ggX2_dispatch_X1_mostUrgent
set_option maxRecDepth 20000 in
theorem ggX2_dispatch_X2_serve : GoodIn wsX2_dispatch wsX2_serve := goodIn_r _ [23, 1, 24, 3, 25, 26, 27, 28, 8, 29, 30, 31, 32, 33, 34, 35, 36, 37, 38, 39, 40, 41, 42, 43, 22, 44, 4, 45, 46, 47, 48, 49, 2, 50, 51, 52, 53, 16, 17, 54, 55, 56, 10, 18, 57, 58, 59, 60, 61, 62, 63, 64, 65, 66, 67, 68, 69, 70, 71, 72, 73, 74, 75, 76, 77, 78, 79, 80, 81, 82, 83, 84, 85, 86, 87, 88, 89, 90, 91, 92, 93, 94, 95, 96, 123, 124, 125, 126, 127, 128, 129, 130, 131, 132, 133, 134, 135, 136, 137, 138, 139, 140, 141, 142, 143, 144, 145, 146, 147, 148, 149] (by decide +kernel) (by decide +kernel)
set_option maxRecDepth 20000 in
theorem gX2_dispatch_X2_serve : GoodIn wsX2_dispatch (wsV RX2 90 RX2 yX2_serve wsX2_serve) := goodIn_app (goodIn_of _ (by decide +kernel)) ggX2_dispatch_X2_serve
set_option maxRecDepth 20000 in
theorem ggX2_dispatch_X2_beginSlice : GoodIn wsX2_dispatch wsX2_beginSlice := goodIn_r _ [100, 24, 3, 76, 25, 101, 102, 103, 65, 104, 70, 68, 105, 106, 107, 108, 109, 110, 111, 112, 113, 123, 124, 125, 126, 127, 128, 129, 130, 143, 144, 145, 146, 147, 148, 149] (by decide +kernel) (by decide +kernel)
set_option maxRecDepth 20000 in
theorem gX2_dispatch_X2_beginSlice : GoodIn wsX2_dispatch (wsV RX2 94 RX2 yX2_beginSlice wsX2_beginSlice) := goodIn_app (goodIn_of _ (by decide +kernel)) ggX2_dispatch_X2_beginSlice
set_option maxRecDepth 20000 in
theorem ggX2_dispatch_X1_nextAlong : GoodIn wsX2_dispatch wsX1_nextAlong := goodIn_r _ [117, 10, 30, 12, 13, 14, 8, 15, 16, 17, 18, 118, 119, 120, 121, 40, 122, 131, 132, 133, 134, 135, 136, 137, 138, 139, 140, 141, 142] (by decide +kernel) (by decide +kernel)
set_option maxRecDepth 20000 in
theorem gX2_dispatch_X1_nextAlong : GoodIn wsX2_dispatch (wsV RX2 100 RX1 yX1_nextAlong wsX1_nextAlong) := goodIn_app (goodIn_of _ (by decide +kernel)) ggX2_dispatch_X1_nextAlong
