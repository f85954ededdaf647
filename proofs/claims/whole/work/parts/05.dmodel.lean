theorem dX6_init_0 : decode cX6_init 0 = .ok (.aload_n 0, 1) := by decide +kernel
theorem dX6_init_1 : decode cX6_init 1 = .ok (.invokespecial 1, 3) := by decide +kernel
theorem dX6_init_4 : decode cX6_init 4 = .ok (.aload_n 0, 1) := by decide +kernel
theorem dX6_init_5 : decode cX6_init 5 = .ok (.bipush 120, 2) := by decide +kernel
theorem dX6_init_7 : decode cX6_init 7 = .ok (.newarray .int, 2) := by decide +kernel
theorem dX6_init_9 : decode cX6_init 9 = .ok (.putfield 7, 3) := by decide +kernel
theorem dX6_init_12 : decode cX6_init 12 = .ok (.aload_n 0, 1) := by decide +kernel
theorem dX6_init_13 : decode cX6_init 13 = .ok (.sipush 140, 3) := by decide +kernel
theorem dX6_init_16 : decode cX6_init 16 = .ok (.newarray .int, 2) := by decide +kernel
theorem dX6_init_18 : decode cX6_init 18 = .ok (.putfield 13, 3) := by decide +kernel
theorem dX6_init_21 : decode cX6_init 21 = .ok (.aload_n 0, 1) := by decide +kernel
theorem dX6_init_22 : decode cX6_init 22 = .ok (.sipush 140, 3) := by decide +kernel
theorem dX6_init_25 : decode cX6_init 25 = .ok (.newarray .int, 2) := by decide +kernel
theorem dX6_init_27 : decode cX6_init 27 = .ok (.putfield 16, 3) := by decide +kernel
theorem dX6_init_30 : decode cX6_init 30 = .ok (.aload_n 0, 1) := by decide +kernel
theorem dX6_init_31 : decode cX6_init 31 = .ok (.sipush 1960, 3) := by decide +kernel
theorem dX6_init_34 : decode cX6_init 34 = .ok (.newarray .int, 2) := by decide +kernel
theorem dX6_init_36 : decode cX6_init 36 = .ok (.putfield 19, 3) := by decide +kernel
theorem dX6_init_39 : decode cX6_init 39 = .ok (.aload_n 0, 1) := by decide +kernel
theorem dX6_init_40 : decode cX6_init 40 = .ok (.sipush 280, 3) := by decide +kernel
theorem dX6_init_43 : decode cX6_init 43 = .ok (.newarray .int, 2) := by decide +kernel
theorem dX6_init_45 : decode cX6_init 45 = .ok (.putfield 22, 3) := by decide +kernel
theorem dX6_init_48 : decode cX6_init 48 = .ok (.aload_n 0, 1) := by decide +kernel
theorem dX6_init_49 : decode cX6_init 49 = .ok (.iconst 2, 1) := by decide +kernel
theorem dX6_init_50 : decode cX6_init 50 = .ok (.newarray .boolean, 2) := by decide +kernel
theorem dX6_init_52 : decode cX6_init 52 = .ok (.putfield 25, 3) := by decide +kernel
theorem dX6_init_55 : decode cX6_init 55 = .ok (.aload_n 0, 1) := by decide +kernel
theorem dX6_init_56 : decode cX6_init 56 = .ok (.bipush 6, 2) := by decide +kernel
theorem dX6_init_58 : decode cX6_init 58 = .ok (.newarray .int, 2) := by decide +kernel
theorem dX6_init_60 : decode cX6_init 60 = .ok (.putfield 29, 3) := by decide +kernel
theorem dX6_init_63 : decode cX6_init 63 = .ok (.aload_n 0, 1) := by decide +kernel
theorem dX6_init_64 : decode cX6_init 64 = .ok (.bipush 6, 2) := by decide +kernel
theorem dX6_init_66 : decode cX6_init 66 = .ok (.newarray .int, 2) := by decide +kernel
theorem dX6_init_68 : decode cX6_init 68 = .ok (.putfield 32, 3) := by decide +kernel
theorem dX6_init_71 : decode cX6_init 71 = .ok (.aload_n 0, 1) := by decide +kernel
theorem dX6_init_72 : decode cX6_init 72 = .ok (.getfield 13, 3) := by decide +kernel
theorem dX6_init_75 : decode cX6_init 75 = .ok (.invokestatic 35, 3) := by decide +kernel
theorem dX6_init_78 : decode cX6_init 78 = .ok (.return_, 1) := by decide +kernel
theorem dX6_begin_0 : decode cX6_begin 0 = .ok (.iconst 0, 1) := by decide +kernel
theorem dX6_begin_1 : decode cX6_begin 1 = .ok (.istore_n 1, 1) := by decide +kernel
theorem dX6_begin_2 : decode cX6_begin 2 = .ok (.iload_n 1, 1) := by decide +kernel
theorem dX6_begin_3 : decode cX6_begin 3 = .ok (.sipush 140, 3) := by decide +kernel
theorem dX6_begin_6 : decode cX6_begin 6 = .ok (.if_icmp .ge 13, 3) := by decide +kernel
theorem dX6_begin_9 : decode cX6_begin 9 = .ok (.aload_n 0, 1) := by decide +kernel
theorem dX6_begin_10 : decode cX6_begin 10 = .ok (.iload_n 1, 1) := by decide +kernel
theorem dX6_begin_11 : decode cX6_begin 11 = .ok (.iconst 0, 1) := by decide +kernel
theorem dX6_begin_12 : decode cX6_begin 12 = .ok (.iastore, 1) := by decide +kernel
theorem dX6_begin_13 : decode cX6_begin 13 = .ok (.iinc 1 1, 3) := by decide +kernel
theorem dX6_begin_16 : decode cX6_begin 16 = .ok (.goto (-14), 3) := by decide +kernel
theorem dX6_begin_19 : decode cX6_begin 19 = .ok (.aload_n 0, 1) := by decide +kernel
theorem dX6_begin_20 : decode cX6_begin 20 = .ok (.iconst 2, 1) := by decide +kernel
theorem dX6_begin_21 : decode cX6_begin 21 = .ok (.bipush 100, 2) := by decide +kernel
theorem dX6_begin_23 : decode cX6_begin 23 = .ok (.iastore, 1) := by decide +kernel
theorem dX6_begin_24 : decode cX6_begin 24 = .ok (.aload_n 0, 1) := by decide +kernel
theorem dX6_begin_25 : decode cX6_begin 25 = .ok (.iconst 3, 1) := by decide +kernel
theorem dX6_begin_26 : decode cX6_begin 26 = .ok (.bipush 10, 2) := by decide +kernel
theorem dX6_begin_28 : decode cX6_begin 28 = .ok (.iastore, 1) := by decide +kernel
theorem dX6_begin_29 : decode cX6_begin 29 = .ok (.iconst 0, 1) := by decide +kernel
theorem dX6_begin_30 : decode cX6_begin 30 = .ok (.istore_n 1, 1) := by decide +kernel
theorem dX6_begin_31 : decode cX6_begin 31 = .ok (.iload_n 1, 1) := by decide +kernel
theorem dX6_begin_32 : decode cX6_begin 32 = .ok (.iconst 3, 1) := by decide +kernel
theorem dX6_begin_33 : decode cX6_begin 33 = .ok (.if_icmp .ge 30, 3) := by decide +kernel
theorem dX6_begin_36 : decode cX6_begin 36 = .ok (.aload_n 0, 1) := by decide +kernel
theorem dX6_begin_37 : decode cX6_begin 37 = .ok (.iconst 5, 1) := by decide +kernel
theorem dX6_begin_38 : decode cX6_begin 38 = .ok (.iload_n 1, 1) := by decide +kernel
theorem dX6_begin_39 : decode cX6_begin 39 = .ok (.iadd, 1) := by decide +kernel
theorem dX6_begin_40 : decode cX6_begin 40 = .ok (.iconst 2, 1) := by decide +kernel
theorem dX6_begin_41 : decode cX6_begin 41 = .ok (.iastore, 1) := by decide +kernel
theorem dX6_begin_42 : decode cX6_begin 42 = .ok (.aload_n 0, 1) := by decide +kernel
theorem dX6_begin_43 : decode cX6_begin 43 = .ok (.bipush 8, 2) := by decide +kernel
theorem dX6_begin_45 : decode cX6_begin 45 = .ok (.iload_n 1, 1) := by decide +kernel
theorem dX6_begin_46 : decode cX6_begin 46 = .ok (.iadd, 1) := by decide +kernel
theorem dX6_begin_47 : decode cX6_begin 47 = .ok (.iconst 1, 1) := by decide +kernel
theorem dX6_begin_48 : decode cX6_begin 48 = .ok (.iastore, 1) := by decide +kernel
theorem dX6_begin_49 : decode cX6_begin 49 = .ok (.aload_n 0, 1) := by decide +kernel
theorem dX6_begin_50 : decode cX6_begin 50 = .ok (.bipush 11, 2) := by decide +kernel
theorem dX6_begin_52 : decode cX6_begin 52 = .ok (.iload_n 1, 1) := by decide +kernel
theorem dX6_begin_53 : decode cX6_begin 53 = .ok (.iadd, 1) := by decide +kernel
theorem dX6_begin_54 : decode cX6_begin 54 = .ok (.bipush 10, 2) := by decide +kernel
theorem dX6_begin_56 : decode cX6_begin 56 = .ok (.iastore, 1) := by decide +kernel
theorem dX6_begin_57 : decode cX6_begin 57 = .ok (.iinc 1 1, 3) := by decide +kernel
theorem dX6_begin_60 : decode cX6_begin 60 = .ok (.goto (-29), 3) := by decide +kernel
theorem dX6_begin_63 : decode cX6_begin 63 = .ok (.return_, 1) := by decide +kernel
theorem dX6_thrown_0 : decode cX6_thrown 0 = .ok (.aload_n 0, 1) := by decide +kernel
theorem dX6_thrown_1 : decode cX6_thrown 1 = .ok (.getfield 39, 3) := by decide +kernel
theorem dX6_thrown_4 : decode cX6_thrown 4 = .ok (.ireturn, 1) := by decide +kernel
theorem dX6_refused_0 : decode cX6_refused 0 = .ok (.aload_n 0, 1) := by decide +kernel
theorem dX6_refused_1 : decode cX6_refused 1 = .ok (.iload_n 1, 1) := by decide +kernel
theorem dX6_refused_2 : decode cX6_refused 2 = .ok (.putfield 39, 3) := by decide +kernel
theorem dX6_refused_5 : decode cX6_refused 5 = .ok (.iload_n 1, 1) := by decide +kernel
theorem dX6_refused_6 : decode cX6_refused 6 = .ok (.ifCond .le 7, 3) := by decide +kernel
theorem dX6_refused_9 : decode cX6_refused 9 = .ok (.iconst 1, 1) := by decide +kernel
theorem dX6_refused_10 : decode cX6_refused 10 = .ok (.goto 4, 3) := by decide +kernel
theorem dX6_refused_13 : decode cX6_refused 13 = .ok (.iconst 0, 1) := by decide +kernel
theorem dX6_refused_14 : decode cX6_refused 14 = .ok (.ireturn, 1) := by decide +kernel
theorem dX6_in_0 : decode cX6_in 0 = .ok (.lload_n 0, 1) := by decide +kernel
theorem dX6_in_1 : decode cX6_in 1 = .ok (.lload_n 2, 1) := by decide +kernel
theorem dX6_in_2 : decode cX6_in 2 = .ok (.lcmp, 1) := by decide +kernel
theorem dX6_in_3 : decode cX6_in 3 = .ok (.ifCond .lt 14, 3) := by decide +kernel
theorem dX6_in_6 : decode cX6_in 6 = .ok (.lload_n 0, 1) := by decide +kernel
theorem dX6_in_7 : decode cX6_in 7 = .ok (.lload 4, 2) := by decide +kernel
theorem dX6_in_9 : decode cX6_in 9 = .ok (.lcmp, 1) := by decide +kernel
theorem dX6_in_10 : decode cX6_in 10 = .ok (.ifCond .gt 7, 3) := by decide +kernel
theorem dX6_in_13 : decode cX6_in 13 = .ok (.iconst 1, 1) := by decide +kernel
theorem dX6_in_14 : decode cX6_in 14 = .ok (.goto 4, 3) := by decide +kernel
theorem dX6_in_17 : decode cX6_in 17 = .ok (.iconst 0, 1) := by decide +kernel
theorem dX6_in_18 : decode cX6_in 18 = .ok (.ireturn, 1) := by decide +kernel
theorem dX6_copyState_0 : decode cX6_copyState 0 = .ok (.iconst 0, 1) := by decide +kernel
theorem dX6_copyState_1 : decode cX6_copyState 1 = .ok (.istore 4, 2) := by decide +kernel
theorem dX6_copyState_3 : decode cX6_copyState 3 = .ok (.iload 4, 2) := by decide +kernel
theorem dX6_copyState_5 : decode cX6_copyState 5 = .ok (.sipush 140, 3) := by decide +kernel
theorem dX6_copyState_8 : decode cX6_copyState 8 = .ok (.if_icmp .ge 21, 3) := by decide +kernel
theorem dX6_copyState_11 : decode cX6_copyState 11 = .ok (.aload_n 2, 1) := by decide +kernel
theorem dX6_copyState_12 : decode cX6_copyState 12 = .ok (.iload_n 3, 1) := by decide +kernel
theorem dX6_copyState_13 : decode cX6_copyState 13 = .ok (.iload 4, 2) := by decide +kernel
theorem dX6_copyState_15 : decode cX6_copyState 15 = .ok (.iadd, 1) := by decide +kernel
theorem dX6_copyState_16 : decode cX6_copyState 16 = .ok (.aload_n 0, 1) := by decide +kernel
theorem dX6_copyState_17 : decode cX6_copyState 17 = .ok (.iload_n 1, 1) := by decide +kernel
theorem dX6_copyState_18 : decode cX6_copyState 18 = .ok (.iload 4, 2) := by decide +kernel
theorem dX6_copyState_20 : decode cX6_copyState 20 = .ok (.iadd, 1) := by decide +kernel
theorem dX6_copyState_21 : decode cX6_copyState 21 = .ok (.iaload, 1) := by decide +kernel
theorem dX6_copyState_22 : decode cX6_copyState 22 = .ok (.iastore, 1) := by decide +kernel
theorem dX6_copyState_23 : decode cX6_copyState 23 = .ok (.iinc 4 1, 3) := by decide +kernel
theorem dX6_copyState_26 : decode cX6_copyState 26 = .ok (.goto (-23), 3) := by decide +kernel
theorem dX6_copyState_29 : decode cX6_copyState 29 = .ok (.return_, 1) := by decide +kernel
theorem dX6_isKind_0 : decode cX6_isKind 0 = .ok (.iload_n 0, 1) := by decide +kernel
theorem dX6_isKind_1 : decode cX6_isKind 1 = .ok (.i2l, 1) := by decide +kernel
theorem dX6_isKind_2 : decode cX6_isKind 2 = .ok (.lconst 0, 1) := by decide +kernel
theorem dX6_isKind_3 : decode cX6_isKind 3 = .ok (.ldc2_w 43, 3) := by decide +kernel
theorem dX6_isKind_6 : decode cX6_isKind 6 = .ok (.invokestatic 45, 3) := by decide +kernel
theorem dX6_isKind_9 : decode cX6_isKind 9 = .ok (.ireturn, 1) := by decide +kernel
theorem dX6_isBidder_0 : decode cX6_isBidder 0 = .ok (.iload_n 1, 1) := by decide +kernel
theorem dX6_isBidder_1 : decode cX6_isBidder 1 = .ok (.i2l, 1) := by decide +kernel
theorem dX6_isBidder_2 : decode cX6_isBidder 2 = .ok (.lconst 0, 1) := by decide +kernel
theorem dX6_isBidder_3 : decode cX6_isBidder 3 = .ok (.aload_n 0, 1) := by decide +kernel
theorem dX6_isBidder_4 : decode cX6_isBidder 4 = .ok (.iconst 4, 1) := by decide +kernel
theorem dX6_isBidder_5 : decode cX6_isBidder 5 = .ok (.iaload, 1) := by decide +kernel
theorem dX6_isBidder_6 : decode cX6_isBidder 6 = .ok (.iconst 1, 1) := by decide +kernel
theorem dX6_isBidder_7 : decode cX6_isBidder 7 = .ok (.isub, 1) := by decide +kernel
theorem dX6_isBidder_8 : decode cX6_isBidder 8 = .ok (.i2l, 1) := by decide +kernel
theorem dX6_isBidder_9 : decode cX6_isBidder 9 = .ok (.invokestatic 45, 3) := by decide +kernel
theorem dX6_isBidder_12 : decode cX6_isBidder 12 = .ok (.ireturn, 1) := by decide +kernel
theorem dX6_at_0 : decode cX6_at 0 = .ok (.bipush 14, 2) := by decide +kernel
theorem dX6_at_2 : decode cX6_at 2 = .ok (.bipush 21, 2) := by decide +kernel
theorem dX6_at_4 : decode cX6_at 4 = .ok (.iload_n 0, 1) := by decide +kernel
theorem dX6_at_5 : decode cX6_at 5 = .ok (.imul, 1) := by decide +kernel
theorem dX6_at_6 : decode cX6_at 6 = .ok (.iadd, 1) := by decide +kernel
theorem dX6_at_7 : decode cX6_at 7 = .ok (.ireturn, 1) := by decide +kernel
theorem dX6_activity_0 : decode cX6_activity 0 = .ok (.iconst 0, 1) := by decide +kernel
theorem dX6_activity_1 : decode cX6_activity 1 = .ok (.istore_n 2, 1) := by decide +kernel
theorem dX6_activity_2 : decode cX6_activity 2 = .ok (.iconst 0, 1) := by decide +kernel
theorem dX6_activity_3 : decode cX6_activity 3 = .ok (.istore_n 3, 1) := by decide +kernel
theorem dX6_activity_4 : decode cX6_activity 4 = .ok (.iload_n 3, 1) := by decide +kernel
theorem dX6_activity_5 : decode cX6_activity 5 = .ok (.iconst 3, 1) := by decide +kernel
theorem dX6_activity_6 : decode cX6_activity 6 = .ok (.if_icmp .ge 29, 3) := by decide +kernel
theorem dX6_activity_9 : decode cX6_activity 9 = .ok (.iload_n 2, 1) := by decide +kernel
theorem dX6_activity_10 : decode cX6_activity 10 = .ok (.aload_n 0, 1) := by decide +kernel
theorem dX6_activity_11 : decode cX6_activity 11 = .ok (.bipush 8, 2) := by decide +kernel
theorem dX6_activity_13 : decode cX6_activity 13 = .ok (.iload_n 3, 1) := by decide +kernel
theorem dX6_activity_14 : decode cX6_activity 14 = .ok (.iadd, 1) := by decide +kernel
theorem dX6_activity_15 : decode cX6_activity 15 = .ok (.iaload, 1) := by decide +kernel
theorem dX6_activity_16 : decode cX6_activity 16 = .ok (.aload_n 0, 1) := by decide +kernel
theorem dX6_activity_17 : decode cX6_activity 17 = .ok (.iload_n 1, 1) := by decide +kernel
theorem dX6_activity_18 : decode cX6_activity 18 = .ok (.invokestatic 49, 3) := by decide +kernel
theorem dX6_activity_21 : decode cX6_activity 21 = .ok (.iconst 5, 1) := by decide +kernel
theorem dX6_activity_22 : decode cX6_activity 22 = .ok (.iadd, 1) := by decide +kernel
theorem dX6_activity_23 : decode cX6_activity 23 = .ok (.iload_n 3, 1) := by decide +kernel
theorem dX6_activity_24 : decode cX6_activity 24 = .ok (.iadd, 1) := by decide +kernel
theorem dX6_activity_25 : decode cX6_activity 25 = .ok (.iaload, 1) := by decide +kernel
theorem dX6_activity_26 : decode cX6_activity 26 = .ok (.imul, 1) := by decide +kernel
theorem dX6_activity_27 : decode cX6_activity 27 = .ok (.iadd, 1) := by decide +kernel
theorem dX6_activity_28 : decode cX6_activity 28 = .ok (.istore_n 2, 1) := by decide +kernel
theorem dX6_activity_29 : decode cX6_activity 29 = .ok (.iinc 3 1, 3) := by decide +kernel
theorem dX6_activity_32 : decode cX6_activity 32 = .ok (.goto (-28), 3) := by decide +kernel
theorem dX6_activity_35 : decode cX6_activity 35 = .ok (.iload_n 2, 1) := by decide +kernel
theorem dX6_activity_36 : decode cX6_activity 36 = .ok (.ireturn, 1) := by decide +kernel
theorem dX6_asked_0 : decode cX6_asked 0 = .ok (.iconst 0, 1) := by decide +kernel
theorem dX6_asked_1 : decode cX6_asked 1 = .ok (.istore_n 2, 1) := by decide +kernel
theorem dX6_asked_2 : decode cX6_asked 2 = .ok (.iconst 0, 1) := by decide +kernel
theorem dX6_asked_3 : decode cX6_asked 3 = .ok (.istore_n 3, 1) := by decide +kernel
theorem dX6_asked_4 : decode cX6_asked 4 = .ok (.iload_n 3, 1) := by decide +kernel
theorem dX6_asked_5 : decode cX6_asked 5 = .ok (.aload_n 0, 1) := by decide +kernel
theorem dX6_asked_6 : decode cX6_asked 6 = .ok (.iconst 4, 1) := by decide +kernel
theorem dX6_asked_7 : decode cX6_asked 7 = .ok (.iaload, 1) := by decide +kernel
theorem dX6_asked_8 : decode cX6_asked 8 = .ok (.if_icmp .ge 22, 3) := by decide +kernel
theorem dX6_asked_11 : decode cX6_asked 11 = .ok (.iload_n 2, 1) := by decide +kernel
theorem dX6_asked_12 : decode cX6_asked 12 = .ok (.aload_n 0, 1) := by decide +kernel
theorem dX6_asked_13 : decode cX6_asked 13 = .ok (.iload_n 3, 1) := by decide +kernel
theorem dX6_asked_14 : decode cX6_asked 14 = .ok (.invokestatic 49, 3) := by decide +kernel
theorem dX6_asked_17 : decode cX6_asked 17 = .ok (.iconst 5, 1) := by decide +kernel
theorem dX6_asked_18 : decode cX6_asked 18 = .ok (.iadd, 1) := by decide +kernel
theorem dX6_asked_19 : decode cX6_asked 19 = .ok (.iload_n 1, 1) := by decide +kernel
theorem dX6_asked_20 : decode cX6_asked 20 = .ok (.iadd, 1) := by decide +kernel
theorem dX6_asked_21 : decode cX6_asked 21 = .ok (.iaload, 1) := by decide +kernel
theorem dX6_asked_22 : decode cX6_asked 22 = .ok (.iadd, 1) := by decide +kernel
theorem dX6_asked_23 : decode cX6_asked 23 = .ok (.istore_n 2, 1) := by decide +kernel
theorem dX6_asked_24 : decode cX6_asked 24 = .ok (.iinc 3 1, 3) := by decide +kernel
theorem dX6_asked_27 : decode cX6_asked 27 = .ok (.goto (-23), 3) := by decide +kernel
theorem dX6_asked_30 : decode cX6_asked 30 = .ok (.iload_n 2, 1) := by decide +kernel
theorem dX6_asked_31 : decode cX6_asked 31 = .ok (.ireturn, 1) := by decide +kernel
theorem dX6_excess_0 : decode cX6_excess 0 = .ok (.iconst 0, 1) := by decide +kernel
theorem dX6_excess_1 : decode cX6_excess 1 = .ok (.istore_n 1, 1) := by decide +kernel
theorem dX6_excess_2 : decode cX6_excess 2 = .ok (.iconst 0, 1) := by decide +kernel
theorem dX6_excess_3 : decode cX6_excess 3 = .ok (.istore_n 2, 1) := by decide +kernel
theorem dX6_excess_4 : decode cX6_excess 4 = .ok (.iload_n 2, 1) := by decide +kernel
theorem dX6_excess_5 : decode cX6_excess 5 = .ok (.iconst 3, 1) := by decide +kernel
theorem dX6_excess_6 : decode cX6_excess 6 = .ok (.if_icmp .ge 30, 3) := by decide +kernel
theorem dX6_excess_9 : decode cX6_excess 9 = .ok (.iload_n 1, 1) := by decide +kernel
theorem dX6_excess_10 : decode cX6_excess 10 = .ok (.aload_n 0, 1) := by decide +kernel
theorem dX6_excess_11 : decode cX6_excess 11 = .ok (.iload_n 2, 1) := by decide +kernel
theorem dX6_excess_12 : decode cX6_excess 12 = .ok (.invokestatic 53, 3) := by decide +kernel
theorem dX6_excess_15 : decode cX6_excess 15 = .ok (.aload_n 0, 1) := by decide +kernel
theorem dX6_excess_16 : decode cX6_excess 16 = .ok (.iconst 5, 1) := by decide +kernel
theorem dX6_excess_17 : decode cX6_excess 17 = .ok (.iload_n 2, 1) := by decide +kernel
theorem dX6_excess_18 : decode cX6_excess 18 = .ok (.iadd, 1) := by decide +kernel
theorem dX6_excess_19 : decode cX6_excess 19 = .ok (.iaload, 1) := by decide +kernel
theorem dX6_excess_20 : decode cX6_excess 20 = .ok (.if_icmp .le 7, 3) := by decide +kernel
theorem dX6_excess_23 : decode cX6_excess 23 = .ok (.iconst 1, 1) := by decide +kernel
theorem dX6_excess_24 : decode cX6_excess 24 = .ok (.goto 4, 3) := by decide +kernel
theorem dX6_excess_27 : decode cX6_excess 27 = .ok (.iconst 0, 1) := by decide +kernel
theorem dX6_excess_28 : decode cX6_excess 28 = .ok (.iadd, 1) := by decide +kernel
theorem dX6_excess_29 : decode cX6_excess 29 = .ok (.istore_n 1, 1) := by decide +kernel
theorem dX6_excess_30 : decode cX6_excess 30 = .ok (.iinc 2 1, 3) := by decide +kernel
theorem dX6_excess_33 : decode cX6_excess 33 = .ok (.goto (-29), 3) := by decide +kernel
theorem dX6_excess_36 : decode cX6_excess 36 = .ok (.iload_n 1, 1) := by decide +kernel
theorem dX6_excess_37 : decode cX6_excess 37 = .ok (.ireturn, 1) := by decide +kernel
theorem dX6_profit_0 : decode cX6_profit 0 = .ok (.iconst 0, 1) := by decide +kernel
theorem dX6_profit_1 : decode cX6_profit 1 = .ok (.istore_n 2, 1) := by decide +kernel
theorem dX6_profit_2 : decode cX6_profit 2 = .ok (.iconst 0, 1) := by decide +kernel
theorem dX6_profit_3 : decode cX6_profit 3 = .ok (.istore_n 3, 1) := by decide +kernel
theorem dX6_profit_4 : decode cX6_profit 4 = .ok (.iload_n 3, 1) := by decide +kernel
theorem dX6_profit_5 : decode cX6_profit 5 = .ok (.iconst 3, 1) := by decide +kernel
theorem dX6_profit_6 : decode cX6_profit 6 = .ok (.if_icmp .ge 40, 3) := by decide +kernel
theorem dX6_profit_9 : decode cX6_profit 9 = .ok (.iload_n 2, 1) := by decide +kernel
theorem dX6_profit_10 : decode cX6_profit 10 = .ok (.aload_n 0, 1) := by decide +kernel
theorem dX6_profit_11 : decode cX6_profit 11 = .ok (.iload_n 1, 1) := by decide +kernel
theorem dX6_profit_12 : decode cX6_profit 12 = .ok (.invokestatic 49, 3) := by decide +kernel
theorem dX6_profit_15 : decode cX6_profit 15 = .ok (.iconst 5, 1) := by decide +kernel
theorem dX6_profit_16 : decode cX6_profit 16 = .ok (.iadd, 1) := by decide +kernel
theorem dX6_profit_17 : decode cX6_profit 17 = .ok (.iload_n 3, 1) := by decide +kernel
theorem dX6_profit_18 : decode cX6_profit 18 = .ok (.iadd, 1) := by decide +kernel
theorem dX6_profit_19 : decode cX6_profit 19 = .ok (.iaload, 1) := by decide +kernel
theorem dX6_profit_20 : decode cX6_profit 20 = .ok (.aload_n 0, 1) := by decide +kernel
theorem dX6_profit_21 : decode cX6_profit 21 = .ok (.iload_n 1, 1) := by decide +kernel
theorem dX6_profit_22 : decode cX6_profit 22 = .ok (.invokestatic 49, 3) := by decide +kernel
theorem dX6_profit_25 : decode cX6_profit 25 = .ok (.iconst 2, 1) := by decide +kernel
theorem dX6_profit_26 : decode cX6_profit 26 = .ok (.iadd, 1) := by decide +kernel
theorem dX6_profit_27 : decode cX6_profit 27 = .ok (.iload_n 3, 1) := by decide +kernel
theorem dX6_profit_28 : decode cX6_profit 28 = .ok (.iadd, 1) := by decide +kernel
theorem dX6_profit_29 : decode cX6_profit 29 = .ok (.iaload, 1) := by decide +kernel
theorem dX6_profit_30 : decode cX6_profit 30 = .ok (.aload_n 0, 1) := by decide +kernel
theorem dX6_profit_31 : decode cX6_profit 31 = .ok (.bipush 11, 2) := by decide +kernel
theorem dX6_profit_33 : decode cX6_profit 33 = .ok (.iload_n 3, 1) := by decide +kernel
theorem dX6_profit_34 : decode cX6_profit 34 = .ok (.iadd, 1) := by decide +kernel
theorem dX6_profit_35 : decode cX6_profit 35 = .ok (.iaload, 1) := by decide +kernel
theorem dX6_profit_36 : decode cX6_profit 36 = .ok (.isub, 1) := by decide +kernel
theorem dX6_profit_37 : decode cX6_profit 37 = .ok (.imul, 1) := by decide +kernel
theorem dX6_profit_38 : decode cX6_profit 38 = .ok (.iadd, 1) := by decide +kernel
theorem dX6_profit_39 : decode cX6_profit 39 = .ok (.istore_n 2, 1) := by decide +kernel
theorem dX6_profit_40 : decode cX6_profit 40 = .ok (.iinc 3 1, 3) := by decide +kernel
theorem dX6_profit_43 : decode cX6_profit 43 = .ok (.goto (-39), 3) := by decide +kernel
theorem dX6_profit_46 : decode cX6_profit 46 = .ok (.iload_n 2, 1) := by decide +kernel
theorem dX6_profit_47 : decode cX6_profit 47 = .ok (.ireturn, 1) := by decide +kernel
theorem dX6_less_0 : decode cX6_less 0 = .ok (.iload_n 0, 1) := by decide +kernel
theorem dX6_less_1 : decode cX6_less 1 = .ok (.iload_n 1, 1) := by decide +kernel
theorem dX6_less_2 : decode cX6_less 2 = .ok (.if_icmp .ge 7, 3) := by decide +kernel
theorem dX6_less_5 : decode cX6_less 5 = .ok (.iload_n 0, 1) := by decide +kernel
theorem dX6_less_6 : decode cX6_less 6 = .ok (.goto 4, 3) := by decide +kernel
theorem dX6_less_9 : decode cX6_less 9 = .ok (.iload_n 1, 1) := by decide +kernel
theorem dX6_less_10 : decode cX6_less 10 = .ok (.ireturn, 1) := by decide +kernel
theorem dX6_bidOn_0 : decode cX6_bidOn 0 = .ok (.iconst (-1), 1) := by decide +kernel
theorem dX6_bidOn_1 : decode cX6_bidOn 1 = .ok (.istore_n 2, 1) := by decide +kernel
theorem dX6_bidOn_2 : decode cX6_bidOn 2 = .ok (.lconst 0, 1) := by decide +kernel
theorem dX6_bidOn_3 : decode cX6_bidOn 3 = .ok (.lstore_n 3, 1) := by decide +kernel
theorem dX6_bidOn_4 : decode cX6_bidOn 4 = .ok (.iconst 0, 1) := by decide +kernel
theorem dX6_bidOn_5 : decode cX6_bidOn 5 = .ok (.istore 5, 2) := by decide +kernel
theorem dX6_bidOn_7 : decode cX6_bidOn 7 = .ok (.iload 5, 2) := by decide +kernel
theorem dX6_bidOn_9 : decode cX6_bidOn 9 = .ok (.sipush 1000, 3) := by decide +kernel
theorem dX6_bidOn_12 : decode cX6_bidOn 12 = .ok (.if_icmp .ge 156, 3) := by decide +kernel
theorem dX6_bidOn_15 : decode cX6_bidOn 15 = .ok (.lconst 0, 1) := by decide +kernel
theorem dX6_bidOn_16 : decode cX6_bidOn 16 = .ok (.lstore 6, 2) := by decide +kernel
theorem dX6_bidOn_18 : decode cX6_bidOn 18 = .ok (.iconst 0, 1) := by decide +kernel
theorem dX6_bidOn_19 : decode cX6_bidOn 19 = .ok (.istore 8, 2) := by decide +kernel
theorem dX6_bidOn_21 : decode cX6_bidOn 21 = .ok (.iconst 1, 1) := by decide +kernel
theorem dX6_bidOn_22 : decode cX6_bidOn 22 = .ok (.istore 9, 2) := by decide +kernel
theorem dX6_bidOn_24 : decode cX6_bidOn 24 = .ok (.iconst 0, 1) := by decide +kernel
theorem dX6_bidOn_25 : decode cX6_bidOn 25 = .ok (.istore 10, 2) := by decide +kernel
theorem dX6_bidOn_27 : decode cX6_bidOn 27 = .ok (.iload 10, 2) := by decide +kernel
theorem dX6_bidOn_29 : decode cX6_bidOn 29 = .ok (.iconst 3, 1) := by decide +kernel
theorem dX6_bidOn_30 : decode cX6_bidOn 30 = .ok (.if_icmp .ge 96, 3) := by decide +kernel
theorem dX6_bidOn_33 : decode cX6_bidOn 33 = .ok (.iload 5, 2) := by decide +kernel
theorem dX6_bidOn_35 : decode cX6_bidOn 35 = .ok (.iload 10, 2) := by decide +kernel
theorem dX6_bidOn_37 : decode cX6_bidOn 37 = .ok (.invokestatic 57, 3) := by decide +kernel
theorem dX6_bidOn_40 : decode cX6_bidOn 40 = .ok (.istore 11, 2) := by decide +kernel
theorem dX6_bidOn_42 : decode cX6_bidOn 42 = .ok (.iload 9, 2) := by decide +kernel
theorem dX6_bidOn_44 : decode cX6_bidOn 44 = .ok (.ifCond .eq 29, 3) := by decide +kernel
theorem dX6_bidOn_47 : decode cX6_bidOn 47 = .ok (.iload 11, 2) := by decide +kernel
theorem dX6_bidOn_49 : decode cX6_bidOn 49 = .ok (.aload_n 0, 1) := by decide +kernel
theorem dX6_bidOn_50 : decode cX6_bidOn 50 = .ok (.iload_n 1, 1) := by decide +kernel
theorem dX6_bidOn_51 : decode cX6_bidOn 51 = .ok (.invokestatic 49, 3) := by decide +kernel
theorem dX6_bidOn_54 : decode cX6_bidOn 54 = .ok (.iconst 1, 1) := by decide +kernel
theorem dX6_bidOn_55 : decode cX6_bidOn 55 = .ok (.iadd, 1) := by decide +kernel
theorem dX6_bidOn_56 : decode cX6_bidOn 56 = .ok (.iaload, 1) := by decide +kernel
theorem dX6_bidOn_57 : decode cX6_bidOn 57 = .ok (.aload_n 0, 1) := by decide +kernel
theorem dX6_bidOn_58 : decode cX6_bidOn 58 = .ok (.iconst 5, 1) := by decide +kernel
theorem dX6_bidOn_59 : decode cX6_bidOn 59 = .ok (.iload 10, 2) := by decide +kernel
theorem dX6_bidOn_61 : decode cX6_bidOn 61 = .ok (.iadd, 1) := by decide +kernel
theorem dX6_bidOn_62 : decode cX6_bidOn 62 = .ok (.iaload, 1) := by decide +kernel
theorem dX6_bidOn_63 : decode cX6_bidOn 63 = .ok (.invokestatic 61, 3) := by decide +kernel
theorem dX6_bidOn_66 : decode cX6_bidOn 66 = .ok (.if_icmp .gt 7, 3) := by decide +kernel
theorem dX6_bidOn_69 : decode cX6_bidOn 69 = .ok (.iconst 1, 1) := by decide +kernel
theorem dX6_bidOn_70 : decode cX6_bidOn 70 = .ok (.goto 4, 3) := by decide +kernel
theorem dX6_bidOn_73 : decode cX6_bidOn 73 = .ok (.iconst 0, 1) := by decide +kernel
theorem dX6_bidOn_74 : decode cX6_bidOn 74 = .ok (.istore 9, 2) := by decide +kernel
theorem dX6_bidOn_76 : decode cX6_bidOn 76 = .ok (.iload 8, 2) := by decide +kernel
theorem dX6_bidOn_78 : decode cX6_bidOn 78 = .ok (.iload 11, 2) := by decide +kernel
theorem dX6_bidOn_80 : decode cX6_bidOn 80 = .ok (.aload_n 0, 1) := by decide +kernel
theorem dX6_bidOn_81 : decode cX6_bidOn 81 = .ok (.bipush 8, 2) := by decide +kernel
theorem dX6_bidOn_83 : decode cX6_bidOn 83 = .ok (.iload 10, 2) := by decide +kernel
theorem dX6_bidOn_85 : decode cX6_bidOn 85 = .ok (.iadd, 1) := by decide +kernel
theorem dX6_bidOn_86 : decode cX6_bidOn 86 = .ok (.iaload, 1) := by decide +kernel
theorem dX6_bidOn_87 : decode cX6_bidOn 87 = .ok (.imul, 1) := by decide +kernel
theorem dX6_bidOn_88 : decode cX6_bidOn 88 = .ok (.iadd, 1) := by decide +kernel
theorem dX6_bidOn_89 : decode cX6_bidOn 89 = .ok (.istore 8, 2) := by decide +kernel
theorem dX6_bidOn_91 : decode cX6_bidOn 91 = .ok (.lload 6, 2) := by decide +kernel
theorem dX6_bidOn_93 : decode cX6_bidOn 93 = .ok (.iload 11, 2) := by decide +kernel
theorem dX6_bidOn_95 : decode cX6_bidOn 95 = .ok (.i2l, 1) := by decide +kernel
theorem dX6_bidOn_96 : decode cX6_bidOn 96 = .ok (.aload_n 0, 1) := by decide +kernel
theorem dX6_bidOn_97 : decode cX6_bidOn 97 = .ok (.iload_n 1, 1) := by decide +kernel
theorem dX6_bidOn_98 : decode cX6_bidOn 98 = .ok (.invokestatic 49, 3) := by decide +kernel
theorem dX6_bidOn_101 : decode cX6_bidOn 101 = .ok (.iconst 2, 1) := by decide +kernel
theorem dX6_bidOn_102 : decode cX6_bidOn 102 = .ok (.iadd, 1) := by decide +kernel
theorem dX6_bidOn_103 : decode cX6_bidOn 103 = .ok (.iload 10, 2) := by decide +kernel
theorem dX6_bidOn_105 : decode cX6_bidOn 105 = .ok (.iadd, 1) := by decide +kernel
theorem dX6_bidOn_106 : decode cX6_bidOn 106 = .ok (.iaload, 1) := by decide +kernel
theorem dX6_bidOn_107 : decode cX6_bidOn 107 = .ok (.aload_n 0, 1) := by decide +kernel
theorem dX6_bidOn_108 : decode cX6_bidOn 108 = .ok (.bipush 11, 2) := by decide +kernel
theorem dX6_bidOn_110 : decode cX6_bidOn 110 = .ok (.iload 10, 2) := by decide +kernel
theorem dX6_bidOn_112 : decode cX6_bidOn 112 = .ok (.iadd, 1) := by decide +kernel
theorem dX6_bidOn_113 : decode cX6_bidOn 113 = .ok (.iaload, 1) := by decide +kernel
theorem dX6_bidOn_114 : decode cX6_bidOn 114 = .ok (.isub, 1) := by decide +kernel
theorem dX6_bidOn_115 : decode cX6_bidOn 115 = .ok (.i2l, 1) := by decide +kernel
theorem dX6_bidOn_116 : decode cX6_bidOn 116 = .ok (.lmul, 1) := by decide +kernel
theorem dX6_bidOn_117 : decode cX6_bidOn 117 = .ok (.ladd, 1) := by decide +kernel
theorem dX6_bidOn_118 : decode cX6_bidOn 118 = .ok (.lstore 6, 2) := by decide +kernel
theorem dX6_bidOn_120 : decode cX6_bidOn 120 = .ok (.iinc 10 1, 3) := by decide +kernel
theorem dX6_bidOn_123 : decode cX6_bidOn 123 = .ok (.goto (-96), 3) := by decide +kernel
theorem dX6_bidOn_126 : decode cX6_bidOn 126 = .ok (.iload 9, 2) := by decide +kernel
theorem dX6_bidOn_128 : decode cX6_bidOn 128 = .ok (.ifCond .eq 34, 3) := by decide +kernel
theorem dX6_bidOn_131 : decode cX6_bidOn 131 = .ok (.iload 8, 2) := by decide +kernel
theorem dX6_bidOn_133 : decode cX6_bidOn 133 = .ok (.aload_n 0, 1) := by decide +kernel
theorem dX6_bidOn_134 : decode cX6_bidOn 134 = .ok (.iload_n 1, 1) := by decide +kernel
theorem dX6_bidOn_135 : decode cX6_bidOn 135 = .ok (.invokestatic 49, 3) := by decide +kernel
theorem dX6_bidOn_138 : decode cX6_bidOn 138 = .ok (.iconst 0, 1) := by decide +kernel
theorem dX6_bidOn_139 : decode cX6_bidOn 139 = .ok (.iadd, 1) := by decide +kernel
theorem dX6_bidOn_140 : decode cX6_bidOn 140 = .ok (.iaload, 1) := by decide +kernel
theorem dX6_bidOn_141 : decode cX6_bidOn 141 = .ok (.if_icmp .gt 21, 3) := by decide +kernel
theorem dX6_bidOn_144 : decode cX6_bidOn 144 = .ok (.iload_n 2, 1) := by decide +kernel
theorem dX6_bidOn_145 : decode cX6_bidOn 145 = .ok (.iconst (-1), 1) := by decide +kernel
theorem dX6_bidOn_146 : decode cX6_bidOn 146 = .ok (.if_icmp .eq 10, 3) := by decide +kernel
theorem dX6_bidOn_149 : decode cX6_bidOn 149 = .ok (.lload 6, 2) := by decide +kernel
theorem dX6_bidOn_151 : decode cX6_bidOn 151 = .ok (.lload_n 3, 1) := by decide +kernel
theorem dX6_bidOn_152 : decode cX6_bidOn 152 = .ok (.lcmp, 1) := by decide +kernel
theorem dX6_bidOn_153 : decode cX6_bidOn 153 = .ok (.ifCond .le 9, 3) := by decide +kernel
theorem dX6_bidOn_156 : decode cX6_bidOn 156 = .ok (.iload 5, 2) := by decide +kernel
theorem dX6_bidOn_158 : decode cX6_bidOn 158 = .ok (.istore_n 2, 1) := by decide +kernel
theorem dX6_bidOn_159 : decode cX6_bidOn 159 = .ok (.lload 6, 2) := by decide +kernel
theorem dX6_bidOn_161 : decode cX6_bidOn 161 = .ok (.lstore_n 3, 1) := by decide +kernel
theorem dX6_bidOn_162 : decode cX6_bidOn 162 = .ok (.iinc 5 1, 3) := by decide +kernel
theorem dX6_bidOn_165 : decode cX6_bidOn 165 = .ok (.goto (-158), 3) := by decide +kernel
theorem dX6_bidOn_168 : decode cX6_bidOn 168 = .ok (.iconst 0, 1) := by decide +kernel
theorem dX6_bidOn_169 : decode cX6_bidOn 169 = .ok (.istore 5, 2) := by decide +kernel
theorem dX6_bidOn_171 : decode cX6_bidOn 171 = .ok (.iload 5, 2) := by decide +kernel
theorem dX6_bidOn_173 : decode cX6_bidOn 173 = .ok (.iconst 3, 1) := by decide +kernel
theorem dX6_bidOn_174 : decode cX6_bidOn 174 = .ok (.if_icmp .ge 26, 3) := by decide +kernel
theorem dX6_bidOn_177 : decode cX6_bidOn 177 = .ok (.aload_n 0, 1) := by decide +kernel
theorem dX6_bidOn_178 : decode cX6_bidOn 178 = .ok (.iload_n 1, 1) := by decide +kernel
theorem dX6_bidOn_179 : decode cX6_bidOn 179 = .ok (.invokestatic 49, 3) := by decide +kernel
theorem dX6_bidOn_182 : decode cX6_bidOn 182 = .ok (.iconst 5, 1) := by decide +kernel
theorem dX6_bidOn_183 : decode cX6_bidOn 183 = .ok (.iadd, 1) := by decide +kernel
theorem dX6_bidOn_184 : decode cX6_bidOn 184 = .ok (.iload 5, 2) := by decide +kernel
theorem dX6_bidOn_186 : decode cX6_bidOn 186 = .ok (.iadd, 1) := by decide +kernel
theorem dX6_bidOn_187 : decode cX6_bidOn 187 = .ok (.iload_n 2, 1) := by decide +kernel
theorem dX6_bidOn_188 : decode cX6_bidOn 188 = .ok (.iload 5, 2) := by decide +kernel
theorem dX6_bidOn_190 : decode cX6_bidOn 190 = .ok (.invokestatic 57, 3) := by decide +kernel
theorem dX6_bidOn_193 : decode cX6_bidOn 193 = .ok (.iastore, 1) := by decide +kernel
theorem dX6_bidOn_194 : decode cX6_bidOn 194 = .ok (.iinc 5 1, 3) := by decide +kernel
theorem dX6_bidOn_197 : decode cX6_bidOn 197 = .ok (.goto (-26), 3) := by decide +kernel
theorem dX6_bidOn_200 : decode cX6_bidOn 200 = .ok (.aload_n 0, 1) := by decide +kernel
theorem dX6_bidOn_201 : decode cX6_bidOn 201 = .ok (.iload_n 1, 1) := by decide +kernel
theorem dX6_bidOn_202 : decode cX6_bidOn 202 = .ok (.invokestatic 64, 3) := by decide +kernel
theorem dX6_bidOn_205 : decode cX6_bidOn 205 = .ok (.ireturn, 1) := by decide +kernel
theorem dX6_digit_0 : decode cX6_digit 0 = .ok (.iload_n 1, 1) := by decide +kernel
theorem dX6_digit_1 : decode cX6_digit 1 = .ok (.ifCond .ne 10, 3) := by decide +kernel
theorem dX6_digit_4 : decode cX6_digit 4 = .ok (.iload_n 0, 1) := by decide +kernel
theorem dX6_digit_5 : decode cX6_digit 5 = .ok (.bipush 100, 2) := by decide +kernel
theorem dX6_digit_7 : decode cX6_digit 7 = .ok (.idiv, 1) := by decide +kernel
theorem dX6_digit_8 : decode cX6_digit 8 = .ok (.goto 22, 3) := by decide +kernel
theorem dX6_digit_11 : decode cX6_digit 11 = .ok (.iload_n 1, 1) := by decide +kernel
theorem dX6_digit_12 : decode cX6_digit 12 = .ok (.iconst 1, 1) := by decide +kernel
theorem dX6_digit_13 : decode cX6_digit 13 = .ok (.if_icmp .ne 13, 3) := by decide +kernel
theorem dX6_digit_16 : decode cX6_digit 16 = .ok (.iload_n 0, 1) := by decide +kernel
theorem dX6_digit_17 : decode cX6_digit 17 = .ok (.bipush 10, 2) := by decide +kernel
theorem dX6_digit_19 : decode cX6_digit 19 = .ok (.idiv, 1) := by decide +kernel
theorem dX6_digit_20 : decode cX6_digit 20 = .ok (.bipush 10, 2) := by decide +kernel
theorem dX6_digit_22 : decode cX6_digit 22 = .ok (.irem, 1) := by decide +kernel
theorem dX6_digit_23 : decode cX6_digit 23 = .ok (.goto 7, 3) := by decide +kernel
theorem dX6_digit_26 : decode cX6_digit 26 = .ok (.iload_n 0, 1) := by decide +kernel
theorem dX6_digit_27 : decode cX6_digit 27 = .ok (.bipush 10, 2) := by decide +kernel
theorem dX6_digit_29 : decode cX6_digit 29 = .ok (.irem, 1) := by decide +kernel
theorem dX6_digit_30 : decode cX6_digit 30 = .ok (.ireturn, 1) := by decide +kernel
theorem dX6_closeOn_0 : decode cX6_closeOn 0 = .ok (.iconst 0, 1) := by decide +kernel
theorem dX6_closeOn_1 : decode cX6_closeOn 1 = .ok (.istore_n 1, 1) := by decide +kernel
theorem dX6_closeOn_2 : decode cX6_closeOn 2 = .ok (.iload_n 1, 1) := by decide +kernel
theorem dX6_closeOn_3 : decode cX6_closeOn 3 = .ok (.aload_n 0, 1) := by decide +kernel
theorem dX6_closeOn_4 : decode cX6_closeOn 4 = .ok (.iconst 4, 1) := by decide +kernel
theorem dX6_closeOn_5 : decode cX6_closeOn 5 = .ok (.iaload, 1) := by decide +kernel
theorem dX6_closeOn_6 : decode cX6_closeOn 6 = .ok (.if_icmp .ge 40, 3) := by decide +kernel
theorem dX6_closeOn_9 : decode cX6_closeOn 9 = .ok (.aload_n 0, 1) := by decide +kernel
theorem dX6_closeOn_10 : decode cX6_closeOn 10 = .ok (.iload_n 1, 1) := by decide +kernel
theorem dX6_closeOn_11 : decode cX6_closeOn 11 = .ok (.invokestatic 49, 3) := by decide +kernel
theorem dX6_closeOn_14 : decode cX6_closeOn 14 = .ok (.iconst 0, 1) := by decide +kernel
theorem dX6_closeOn_15 : decode cX6_closeOn 15 = .ok (.iadd, 1) := by decide +kernel
theorem dX6_closeOn_16 : decode cX6_closeOn 16 = .ok (.aload_n 0, 1) := by decide +kernel
theorem dX6_closeOn_17 : decode cX6_closeOn 17 = .ok (.iload_n 1, 1) := by decide +kernel
theorem dX6_closeOn_18 : decode cX6_closeOn 18 = .ok (.invokestatic 49, 3) := by decide +kernel
theorem dX6_closeOn_21 : decode cX6_closeOn 21 = .ok (.iconst 0, 1) := by decide +kernel
theorem dX6_closeOn_22 : decode cX6_closeOn 22 = .ok (.iadd, 1) := by decide +kernel
theorem dX6_closeOn_23 : decode cX6_closeOn 23 = .ok (.iaload, 1) := by decide +kernel
theorem dX6_closeOn_24 : decode cX6_closeOn 24 = .ok (.aload_n 0, 1) := by decide +kernel
theorem dX6_closeOn_25 : decode cX6_closeOn 25 = .ok (.iload_n 1, 1) := by decide +kernel
theorem dX6_closeOn_26 : decode cX6_closeOn 26 = .ok (.invokestatic 67, 3) := by decide +kernel
theorem dX6_closeOn_29 : decode cX6_closeOn 29 = .ok (.bipush 100, 2) := by decide +kernel
theorem dX6_closeOn_31 : decode cX6_closeOn 31 = .ok (.imul, 1) := by decide +kernel
theorem dX6_closeOn_32 : decode cX6_closeOn 32 = .ok (.aload_n 0, 1) := by decide +kernel
theorem dX6_closeOn_33 : decode cX6_closeOn 33 = .ok (.iconst 2, 1) := by decide +kernel
theorem dX6_closeOn_34 : decode cX6_closeOn 34 = .ok (.iaload, 1) := by decide +kernel
theorem dX6_closeOn_35 : decode cX6_closeOn 35 = .ok (.idiv, 1) := by decide +kernel
theorem dX6_closeOn_36 : decode cX6_closeOn 36 = .ok (.invokestatic 61, 3) := by decide +kernel
theorem dX6_closeOn_39 : decode cX6_closeOn 39 = .ok (.iastore, 1) := by decide +kernel
theorem dX6_closeOn_40 : decode cX6_closeOn 40 = .ok (.iinc 1 1, 3) := by decide +kernel
theorem dX6_closeOn_43 : decode cX6_closeOn 43 = .ok (.goto (-41), 3) := by decide +kernel
theorem dX6_closeOn_46 : decode cX6_closeOn 46 = .ok (.aload_n 0, 1) := by decide +kernel
theorem dX6_closeOn_47 : decode cX6_closeOn 47 = .ok (.invokestatic 70, 3) := by decide +kernel
theorem dX6_closeOn_50 : decode cX6_closeOn 50 = .ok (.istore_n 1, 1) := by decide +kernel
theorem dX6_closeOn_51 : decode cX6_closeOn 51 = .ok (.iconst 0, 1) := by decide +kernel
theorem dX6_closeOn_52 : decode cX6_closeOn 52 = .ok (.istore_n 2, 1) := by decide +kernel
theorem dX6_closeOn_53 : decode cX6_closeOn 53 = .ok (.iload_n 2, 1) := by decide +kernel
theorem dX6_closeOn_54 : decode cX6_closeOn 54 = .ok (.iconst 3, 1) := by decide +kernel
theorem dX6_closeOn_55 : decode cX6_closeOn 55 = .ok (.if_icmp .ge 64, 3) := by decide +kernel
theorem dX6_closeOn_58 : decode cX6_closeOn 58 = .ok (.aload_n 0, 1) := by decide +kernel
theorem dX6_closeOn_59 : decode cX6_closeOn 59 = .ok (.iload_n 2, 1) := by decide +kernel
theorem dX6_closeOn_60 : decode cX6_closeOn 60 = .ok (.invokestatic 53, 3) := by decide +kernel
theorem dX6_closeOn_63 : decode cX6_closeOn 63 = .ok (.aload_n 0, 1) := by decide +kernel
theorem dX6_closeOn_64 : decode cX6_closeOn 64 = .ok (.iconst 5, 1) := by decide +kernel
theorem dX6_closeOn_65 : decode cX6_closeOn 65 = .ok (.iload_n 2, 1) := by decide +kernel
theorem dX6_closeOn_66 : decode cX6_closeOn 66 = .ok (.iadd, 1) := by decide +kernel
theorem dX6_closeOn_67 : decode cX6_closeOn 67 = .ok (.iaload, 1) := by decide +kernel
theorem dX6_closeOn_68 : decode cX6_closeOn 68 = .ok (.if_icmp .le 45, 3) := by decide +kernel
theorem dX6_closeOn_71 : decode cX6_closeOn 71 = .ok (.aload_n 0, 1) := by decide +kernel
theorem dX6_closeOn_72 : decode cX6_closeOn 72 = .ok (.bipush 11, 2) := by decide +kernel
theorem dX6_closeOn_74 : decode cX6_closeOn 74 = .ok (.iload_n 2, 1) := by decide +kernel
theorem dX6_closeOn_75 : decode cX6_closeOn 75 = .ok (.iadd, 1) := by decide +kernel
theorem dX6_closeOn_76 : decode cX6_closeOn 76 = .ok (.iaload, 1) := by decide +kernel
theorem dX6_closeOn_77 : decode cX6_closeOn 77 = .ok (.aload_n 0, 1) := by decide +kernel
theorem dX6_closeOn_78 : decode cX6_closeOn 78 = .ok (.iconst 3, 1) := by decide +kernel
theorem dX6_closeOn_79 : decode cX6_closeOn 79 = .ok (.iaload, 1) := by decide +kernel
theorem dX6_closeOn_80 : decode cX6_closeOn 80 = .ok (.imul, 1) := by decide +kernel
theorem dX6_closeOn_81 : decode cX6_closeOn 81 = .ok (.bipush 100, 2) := by decide +kernel
theorem dX6_closeOn_83 : decode cX6_closeOn 83 = .ok (.idiv, 1) := by decide +kernel
theorem dX6_closeOn_84 : decode cX6_closeOn 84 = .ok (.istore_n 3, 1) := by decide +kernel
theorem dX6_closeOn_85 : decode cX6_closeOn 85 = .ok (.aload_n 0, 1) := by decide +kernel
theorem dX6_closeOn_86 : decode cX6_closeOn 86 = .ok (.bipush 11, 2) := by decide +kernel
theorem dX6_closeOn_88 : decode cX6_closeOn 88 = .ok (.iload_n 2, 1) := by decide +kernel
theorem dX6_closeOn_89 : decode cX6_closeOn 89 = .ok (.iadd, 1) := by decide +kernel
theorem dX6_closeOn_90 : decode cX6_closeOn 90 = .ok (.ldc 74, 2) := by decide +kernel
theorem dX6_closeOn_92 : decode cX6_closeOn 92 = .ok (.aload_n 0, 1) := by decide +kernel
theorem dX6_closeOn_93 : decode cX6_closeOn 93 = .ok (.bipush 11, 2) := by decide +kernel
theorem dX6_closeOn_95 : decode cX6_closeOn 95 = .ok (.iload_n 2, 1) := by decide +kernel
theorem dX6_closeOn_96 : decode cX6_closeOn 96 = .ok (.iadd, 1) := by decide +kernel
theorem dX6_closeOn_97 : decode cX6_closeOn 97 = .ok (.iaload, 1) := by decide +kernel
theorem dX6_closeOn_98 : decode cX6_closeOn 98 = .ok (.iload_n 3, 1) := by decide +kernel
theorem dX6_closeOn_99 : decode cX6_closeOn 99 = .ok (.iconst 1, 1) := by decide +kernel
theorem dX6_closeOn_100 : decode cX6_closeOn 100 = .ok (.if_icmp .ge 7, 3) := by decide +kernel
theorem dX6_closeOn_103 : decode cX6_closeOn 103 = .ok (.iconst 1, 1) := by decide +kernel
theorem dX6_closeOn_104 : decode cX6_closeOn 104 = .ok (.goto 4, 3) := by decide +kernel
theorem dX6_closeOn_107 : decode cX6_closeOn 107 = .ok (.iload_n 3, 1) := by decide +kernel
theorem dX6_closeOn_108 : decode cX6_closeOn 108 = .ok (.iadd, 1) := by decide +kernel
theorem dX6_closeOn_109 : decode cX6_closeOn 109 = .ok (.invokestatic 61, 3) := by decide +kernel
theorem dX6_closeOn_112 : decode cX6_closeOn 112 = .ok (.iastore, 1) := by decide +kernel
theorem dX6_closeOn_113 : decode cX6_closeOn 113 = .ok (.iinc 2 1, 3) := by decide +kernel
theorem dX6_closeOn_116 : decode cX6_closeOn 116 = .ok (.goto (-63), 3) := by decide +kernel
theorem dX6_closeOn_119 : decode cX6_closeOn 119 = .ok (.aload_n 0, 1) := by decide +kernel
theorem dX6_closeOn_120 : decode cX6_closeOn 120 = .ok (.iconst 1, 1) := by decide +kernel
theorem dX6_closeOn_121 : decode cX6_closeOn 121 = .ok (.iload_n 1, 1) := by decide +kernel
theorem dX6_closeOn_122 : decode cX6_closeOn 122 = .ok (.ifCond .ne 7, 3) := by decide +kernel
theorem dX6_closeOn_125 : decode cX6_closeOn 125 = .ok (.iconst 1, 1) := by decide +kernel
theorem dX6_closeOn_126 : decode cX6_closeOn 126 = .ok (.goto 4, 3) := by decide +kernel
theorem dX6_closeOn_129 : decode cX6_closeOn 129 = .ok (.iconst 0, 1) := by decide +kernel
theorem dX6_closeOn_130 : decode cX6_closeOn 130 = .ok (.iastore, 1) := by decide +kernel
theorem dX6_closeOn_131 : decode cX6_closeOn 131 = .ok (.aload_n 0, 1) := by decide +kernel
theorem dX6_closeOn_132 : decode cX6_closeOn 132 = .ok (.iconst 0, 1) := by decide +kernel
theorem dX6_closeOn_133 : decode cX6_closeOn 133 = .ok (.dup2, 1) := by decide +kernel
theorem dX6_closeOn_134 : decode cX6_closeOn 134 = .ok (.iaload, 1) := by decide +kernel
theorem dX6_closeOn_135 : decode cX6_closeOn 135 = .ok (.iconst 1, 1) := by decide +kernel
theorem dX6_closeOn_136 : decode cX6_closeOn 136 = .ok (.iadd, 1) := by decide +kernel
theorem dX6_closeOn_137 : decode cX6_closeOn 137 = .ok (.iastore, 1) := by decide +kernel
theorem dX6_closeOn_138 : decode cX6_closeOn 138 = .ok (.iload_n 1, 1) := by decide +kernel
theorem dX6_closeOn_139 : decode cX6_closeOn 139 = .ok (.ireturn, 1) := by decide +kernel
theorem dX6_whyNotJoin_0 : decode cX6_whyNotJoin 0 = .ok (.iload_n 1, 1) := by decide +kernel
theorem dX6_whyNotJoin_1 : decode cX6_whyNotJoin 1 = .ok (.i2l, 1) := by decide +kernel
theorem dX6_whyNotJoin_2 : decode cX6_whyNotJoin 2 = .ok (.lconst 0, 1) := by decide +kernel
theorem dX6_whyNotJoin_3 : decode cX6_whyNotJoin 3 = .ok (.ldc2_w 75, 3) := by decide +kernel
theorem dX6_whyNotJoin_6 : decode cX6_whyNotJoin 6 = .ok (.invokestatic 45, 3) := by decide +kernel
theorem dX6_whyNotJoin_9 : decode cX6_whyNotJoin 9 = .ok (.ifCond .eq 15, 3) := by decide +kernel
theorem dX6_whyNotJoin_12 : decode cX6_whyNotJoin 12 = .ok (.iload_n 2, 1) := by decide +kernel
theorem dX6_whyNotJoin_13 : decode cX6_whyNotJoin 13 = .ok (.i2l, 1) := by decide +kernel
theorem dX6_whyNotJoin_14 : decode cX6_whyNotJoin 14 = .ok (.lconst 1, 1) := by decide +kernel
theorem dX6_whyNotJoin_15 : decode cX6_whyNotJoin 15 = .ok (.ldc2_w 77, 3) := by decide +kernel
theorem dX6_whyNotJoin_18 : decode cX6_whyNotJoin 18 = .ok (.invokestatic 45, 3) := by decide +kernel
theorem dX6_whyNotJoin_21 : decode cX6_whyNotJoin 21 = .ok (.ifCond .ne 7, 3) := by decide +kernel
theorem dX6_whyNotJoin_24 : decode cX6_whyNotJoin 24 = .ok (.iconst 1, 1) := by decide +kernel
theorem dX6_whyNotJoin_25 : decode cX6_whyNotJoin 25 = .ok (.goto 22, 3) := by decide +kernel
theorem dX6_whyNotJoin_28 : decode cX6_whyNotJoin 28 = .ok (.aload_n 0, 1) := by decide +kernel
theorem dX6_whyNotJoin_29 : decode cX6_whyNotJoin 29 = .ok (.iconst 4, 1) := by decide +kernel
theorem dX6_whyNotJoin_30 : decode cX6_whyNotJoin 30 = .ok (.iaload, 1) := by decide +kernel
theorem dX6_whyNotJoin_31 : decode cX6_whyNotJoin 31 = .ok (.bipush 6, 2) := by decide +kernel
theorem dX6_whyNotJoin_33 : decode cX6_whyNotJoin 33 = .ok (.if_icmp .eq 9, 3) := by decide +kernel
theorem dX6_whyNotJoin_36 : decode cX6_whyNotJoin 36 = .ok (.aload_n 0, 1) := by decide +kernel
theorem dX6_whyNotJoin_37 : decode cX6_whyNotJoin 37 = .ok (.iconst 0, 1) := by decide +kernel
theorem dX6_whyNotJoin_38 : decode cX6_whyNotJoin 38 = .ok (.iaload, 1) := by decide +kernel
theorem dX6_whyNotJoin_39 : decode cX6_whyNotJoin 39 = .ok (.ifCond .le 7, 3) := by decide +kernel
theorem dX6_whyNotJoin_42 : decode cX6_whyNotJoin 42 = .ok (.iconst 2, 1) := by decide +kernel
theorem dX6_whyNotJoin_43 : decode cX6_whyNotJoin 43 = .ok (.goto 4, 3) := by decide +kernel
theorem dX6_whyNotJoin_46 : decode cX6_whyNotJoin 46 = .ok (.iconst 0, 1) := by decide +kernel
theorem dX6_whyNotJoin_47 : decode cX6_whyNotJoin 47 = .ok (.ireturn, 1) := by decide +kernel
theorem dX6_joinOn_0 : decode cX6_joinOn 0 = .ok (.aload_n 0, 1) := by decide +kernel
theorem dX6_joinOn_1 : decode cX6_joinOn 1 = .ok (.iconst 4, 1) := by decide +kernel
theorem dX6_joinOn_2 : decode cX6_joinOn 2 = .ok (.iaload, 1) := by decide +kernel
theorem dX6_joinOn_3 : decode cX6_joinOn 3 = .ok (.istore_n 3, 1) := by decide +kernel
theorem dX6_joinOn_4 : decode cX6_joinOn 4 = .ok (.aload_n 0, 1) := by decide +kernel
theorem dX6_joinOn_5 : decode cX6_joinOn 5 = .ok (.iload_n 3, 1) := by decide +kernel
theorem dX6_joinOn_6 : decode cX6_joinOn 6 = .ok (.invokestatic 49, 3) := by decide +kernel
theorem dX6_joinOn_9 : decode cX6_joinOn 9 = .ok (.iconst 0, 1) := by decide +kernel
theorem dX6_joinOn_10 : decode cX6_joinOn 10 = .ok (.iadd, 1) := by decide +kernel
theorem dX6_joinOn_11 : decode cX6_joinOn 11 = .ok (.iload_n 1, 1) := by decide +kernel
theorem dX6_joinOn_12 : decode cX6_joinOn 12 = .ok (.iastore, 1) := by decide +kernel
theorem dX6_joinOn_13 : decode cX6_joinOn 13 = .ok (.aload_n 0, 1) := by decide +kernel
theorem dX6_joinOn_14 : decode cX6_joinOn 14 = .ok (.iload_n 3, 1) := by decide +kernel
theorem dX6_joinOn_15 : decode cX6_joinOn 15 = .ok (.invokestatic 49, 3) := by decide +kernel
theorem dX6_joinOn_18 : decode cX6_joinOn 18 = .ok (.iconst 1, 1) := by decide +kernel
theorem dX6_joinOn_19 : decode cX6_joinOn 19 = .ok (.iadd, 1) := by decide +kernel
theorem dX6_joinOn_20 : decode cX6_joinOn 20 = .ok (.iload_n 2, 1) := by decide +kernel
theorem dX6_joinOn_21 : decode cX6_joinOn 21 = .ok (.iastore, 1) := by decide +kernel
theorem dX6_joinOn_22 : decode cX6_joinOn 22 = .ok (.aload_n 0, 1) := by decide +kernel
theorem dX6_joinOn_23 : decode cX6_joinOn 23 = .ok (.iconst 4, 1) := by decide +kernel
theorem dX6_joinOn_24 : decode cX6_joinOn 24 = .ok (.dup2, 1) := by decide +kernel
theorem dX6_joinOn_25 : decode cX6_joinOn 25 = .ok (.iaload, 1) := by decide +kernel
theorem dX6_joinOn_26 : decode cX6_joinOn 26 = .ok (.iconst 1, 1) := by decide +kernel
theorem dX6_joinOn_27 : decode cX6_joinOn 27 = .ok (.iadd, 1) := by decide +kernel
theorem dX6_joinOn_28 : decode cX6_joinOn 28 = .ok (.iastore, 1) := by decide +kernel
theorem dX6_joinOn_29 : decode cX6_joinOn 29 = .ok (.iload_n 3, 1) := by decide +kernel
theorem dX6_joinOn_30 : decode cX6_joinOn 30 = .ok (.ireturn, 1) := by decide +kernel
theorem dX6_whyNotValue_0 : decode cX6_whyNotValue 0 = .ok (.aload_n 0, 1) := by decide +kernel
theorem dX6_whyNotValue_1 : decode cX6_whyNotValue 1 = .ok (.iload_n 1, 1) := by decide +kernel
theorem dX6_whyNotValue_2 : decode cX6_whyNotValue 2 = .ok (.invokestatic 79, 3) := by decide +kernel
theorem dX6_whyNotValue_5 : decode cX6_whyNotValue 5 = .ok (.ifCond .eq 10, 3) := by decide +kernel
theorem dX6_whyNotValue_8 : decode cX6_whyNotValue 8 = .ok (.iload_n 2, 1) := by decide +kernel
theorem dX6_whyNotValue_9 : decode cX6_whyNotValue 9 = .ok (.invokestatic 83, 3) := by decide +kernel
theorem dX6_whyNotValue_12 : decode cX6_whyNotValue 12 = .ok (.ifCond .ne 7, 3) := by decide +kernel
theorem dX6_whyNotValue_15 : decode cX6_whyNotValue 15 = .ok (.iconst 1, 1) := by decide +kernel
theorem dX6_whyNotValue_16 : decode cX6_whyNotValue 16 = .ok (.goto 20, 3) := by decide +kernel
theorem dX6_whyNotValue_19 : decode cX6_whyNotValue 19 = .ok (.iload_n 3, 1) := by decide +kernel
theorem dX6_whyNotValue_20 : decode cX6_whyNotValue 20 = .ok (.i2l, 1) := by decide +kernel
theorem dX6_whyNotValue_21 : decode cX6_whyNotValue 21 = .ok (.lconst 0, 1) := by decide +kernel
theorem dX6_whyNotValue_22 : decode cX6_whyNotValue 22 = .ok (.ldc2_w 87, 3) := by decide +kernel
theorem dX6_whyNotValue_25 : decode cX6_whyNotValue 25 = .ok (.invokestatic 45, 3) := by decide +kernel
theorem dX6_whyNotValue_28 : decode cX6_whyNotValue 28 = .ok (.ifCond .eq 7, 3) := by decide +kernel
theorem dX6_whyNotValue_31 : decode cX6_whyNotValue 31 = .ok (.iconst 0, 1) := by decide +kernel
theorem dX6_whyNotValue_32 : decode cX6_whyNotValue 32 = .ok (.goto 4, 3) := by decide +kernel
theorem dX6_whyNotValue_35 : decode cX6_whyNotValue 35 = .ok (.iconst 2, 1) := by decide +kernel
theorem dX6_whyNotValue_36 : decode cX6_whyNotValue 36 = .ok (.ireturn, 1) := by decide +kernel
theorem dX6_valueOn_0 : decode cX6_valueOn 0 = .ok (.aload_n 0, 1) := by decide +kernel
theorem dX6_valueOn_1 : decode cX6_valueOn 1 = .ok (.iload_n 1, 1) := by decide +kernel
theorem dX6_valueOn_2 : decode cX6_valueOn 2 = .ok (.invokestatic 49, 3) := by decide +kernel
theorem dX6_valueOn_5 : decode cX6_valueOn 5 = .ok (.iconst 2, 1) := by decide +kernel
theorem dX6_valueOn_6 : decode cX6_valueOn 6 = .ok (.iadd, 1) := by decide +kernel
theorem dX6_valueOn_7 : decode cX6_valueOn 7 = .ok (.iload_n 2, 1) := by decide +kernel
theorem dX6_valueOn_8 : decode cX6_valueOn 8 = .ok (.iadd, 1) := by decide +kernel
theorem dX6_valueOn_9 : decode cX6_valueOn 9 = .ok (.iaload, 1) := by decide +kernel
theorem dX6_valueOn_10 : decode cX6_valueOn 10 = .ok (.istore 4, 2) := by decide +kernel
theorem dX6_valueOn_12 : decode cX6_valueOn 12 = .ok (.aload_n 0, 1) := by decide +kernel
theorem dX6_valueOn_13 : decode cX6_valueOn 13 = .ok (.iload_n 1, 1) := by decide +kernel
theorem dX6_valueOn_14 : decode cX6_valueOn 14 = .ok (.invokestatic 49, 3) := by decide +kernel
theorem dX6_valueOn_17 : decode cX6_valueOn 17 = .ok (.iconst 2, 1) := by decide +kernel
theorem dX6_valueOn_18 : decode cX6_valueOn 18 = .ok (.iadd, 1) := by decide +kernel
theorem dX6_valueOn_19 : decode cX6_valueOn 19 = .ok (.iload_n 2, 1) := by decide +kernel
theorem dX6_valueOn_20 : decode cX6_valueOn 20 = .ok (.iadd, 1) := by decide +kernel
theorem dX6_valueOn_21 : decode cX6_valueOn 21 = .ok (.iload_n 3, 1) := by decide +kernel
theorem dX6_valueOn_22 : decode cX6_valueOn 22 = .ok (.iastore, 1) := by decide +kernel
theorem dX6_valueOn_23 : decode cX6_valueOn 23 = .ok (.iload 4, 2) := by decide +kernel
theorem dX6_valueOn_25 : decode cX6_valueOn 25 = .ok (.ireturn, 1) := by decide +kernel
theorem dX6_whyNotAsk_0 : decode cX6_whyNotAsk 0 = .ok (.aload_n 0, 1) := by decide +kernel
theorem dX6_whyNotAsk_1 : decode cX6_whyNotAsk 1 = .ok (.iload_n 1, 1) := by decide +kernel
theorem dX6_whyNotAsk_2 : decode cX6_whyNotAsk 2 = .ok (.invokestatic 79, 3) := by decide +kernel
theorem dX6_whyNotAsk_5 : decode cX6_whyNotAsk 5 = .ok (.ifCond .eq 10, 3) := by decide +kernel
theorem dX6_whyNotAsk_8 : decode cX6_whyNotAsk 8 = .ok (.iload_n 2, 1) := by decide +kernel
theorem dX6_whyNotAsk_9 : decode cX6_whyNotAsk 9 = .ok (.invokestatic 83, 3) := by decide +kernel
theorem dX6_whyNotAsk_12 : decode cX6_whyNotAsk 12 = .ok (.ifCond .ne 5, 3) := by decide +kernel
theorem dX6_whyNotAsk_15 : decode cX6_whyNotAsk 15 = .ok (.iconst 1, 1) := by decide +kernel
theorem dX6_whyNotAsk_16 : decode cX6_whyNotAsk 16 = .ok (.ireturn, 1) := by decide +kernel
theorem dX6_whyNotAsk_17 : decode cX6_whyNotAsk 17 = .ok (.iload_n 3, 1) := by decide +kernel
theorem dX6_whyNotAsk_18 : decode cX6_whyNotAsk 18 = .ok (.i2l, 1) := by decide +kernel
theorem dX6_whyNotAsk_19 : decode cX6_whyNotAsk 19 = .ok (.lconst 0, 1) := by decide +kernel
theorem dX6_whyNotAsk_20 : decode cX6_whyNotAsk 20 = .ok (.ldc2_w 77, 3) := by decide +kernel
theorem dX6_whyNotAsk_23 : decode cX6_whyNotAsk 23 = .ok (.invokestatic 45, 3) := by decide +kernel
theorem dX6_whyNotAsk_26 : decode cX6_whyNotAsk 26 = .ok (.ifCond .ne 5, 3) := by decide +kernel
theorem dX6_whyNotAsk_29 : decode cX6_whyNotAsk 29 = .ok (.iconst 2, 1) := by decide +kernel
theorem dX6_whyNotAsk_30 : decode cX6_whyNotAsk 30 = .ok (.ireturn, 1) := by decide +kernel
theorem dX6_whyNotAsk_31 : decode cX6_whyNotAsk 31 = .ok (.aload_n 0, 1) := by decide +kernel
theorem dX6_whyNotAsk_32 : decode cX6_whyNotAsk 32 = .ok (.iload_n 1, 1) := by decide +kernel
theorem dX6_whyNotAsk_33 : decode cX6_whyNotAsk 33 = .ok (.invokestatic 67, 3) := by decide +kernel
theorem dX6_whyNotAsk_36 : decode cX6_whyNotAsk 36 = .ok (.aload_n 0, 1) := by decide +kernel
theorem dX6_whyNotAsk_37 : decode cX6_whyNotAsk 37 = .ok (.bipush 8, 2) := by decide +kernel
theorem dX6_whyNotAsk_39 : decode cX6_whyNotAsk 39 = .ok (.iload_n 2, 1) := by decide +kernel
theorem dX6_whyNotAsk_40 : decode cX6_whyNotAsk 40 = .ok (.iadd, 1) := by decide +kernel
theorem dX6_whyNotAsk_41 : decode cX6_whyNotAsk 41 = .ok (.iaload, 1) := by decide +kernel
theorem dX6_whyNotAsk_42 : decode cX6_whyNotAsk 42 = .ok (.iload_n 3, 1) := by decide +kernel
theorem dX6_whyNotAsk_43 : decode cX6_whyNotAsk 43 = .ok (.aload_n 0, 1) := by decide +kernel
theorem dX6_whyNotAsk_44 : decode cX6_whyNotAsk 44 = .ok (.iload_n 1, 1) := by decide +kernel
theorem dX6_whyNotAsk_45 : decode cX6_whyNotAsk 45 = .ok (.invokestatic 49, 3) := by decide +kernel
theorem dX6_whyNotAsk_48 : decode cX6_whyNotAsk 48 = .ok (.iconst 5, 1) := by decide +kernel
theorem dX6_whyNotAsk_49 : decode cX6_whyNotAsk 49 = .ok (.iadd, 1) := by decide +kernel
theorem dX6_whyNotAsk_50 : decode cX6_whyNotAsk 50 = .ok (.iload_n 2, 1) := by decide +kernel
theorem dX6_whyNotAsk_51 : decode cX6_whyNotAsk 51 = .ok (.iadd, 1) := by decide +kernel
theorem dX6_whyNotAsk_52 : decode cX6_whyNotAsk 52 = .ok (.iaload, 1) := by decide +kernel
theorem dX6_whyNotAsk_53 : decode cX6_whyNotAsk 53 = .ok (.isub, 1) := by decide +kernel
theorem dX6_whyNotAsk_54 : decode cX6_whyNotAsk 54 = .ok (.imul, 1) := by decide +kernel
theorem dX6_whyNotAsk_55 : decode cX6_whyNotAsk 55 = .ok (.iadd, 1) := by decide +kernel
theorem dX6_whyNotAsk_56 : decode cX6_whyNotAsk 56 = .ok (.istore 4, 2) := by decide +kernel
theorem dX6_whyNotAsk_58 : decode cX6_whyNotAsk 58 = .ok (.aload_n 0, 1) := by decide +kernel
theorem dX6_whyNotAsk_59 : decode cX6_whyNotAsk 59 = .ok (.iconst 1, 1) := by decide +kernel
theorem dX6_whyNotAsk_60 : decode cX6_whyNotAsk 60 = .ok (.iaload, 1) := by decide +kernel
theorem dX6_whyNotAsk_61 : decode cX6_whyNotAsk 61 = .ok (.iconst 1, 1) := by decide +kernel
theorem dX6_whyNotAsk_62 : decode cX6_whyNotAsk 62 = .ok (.if_icmp .eq 37, 3) := by decide +kernel
theorem dX6_whyNotAsk_65 : decode cX6_whyNotAsk 65 = .ok (.iload_n 3, 1) := by decide +kernel
theorem dX6_whyNotAsk_66 : decode cX6_whyNotAsk 66 = .ok (.aload_n 0, 1) := by decide +kernel
theorem dX6_whyNotAsk_67 : decode cX6_whyNotAsk 67 = .ok (.iload_n 1, 1) := by decide +kernel
theorem dX6_whyNotAsk_68 : decode cX6_whyNotAsk 68 = .ok (.invokestatic 49, 3) := by decide +kernel
theorem dX6_whyNotAsk_71 : decode cX6_whyNotAsk 71 = .ok (.iconst 1, 1) := by decide +kernel
theorem dX6_whyNotAsk_72 : decode cX6_whyNotAsk 72 = .ok (.iadd, 1) := by decide +kernel
theorem dX6_whyNotAsk_73 : decode cX6_whyNotAsk 73 = .ok (.iaload, 1) := by decide +kernel
theorem dX6_whyNotAsk_74 : decode cX6_whyNotAsk 74 = .ok (.if_icmp .gt 25, 3) := by decide +kernel
theorem dX6_whyNotAsk_77 : decode cX6_whyNotAsk 77 = .ok (.iload_n 3, 1) := by decide +kernel
theorem dX6_whyNotAsk_78 : decode cX6_whyNotAsk 78 = .ok (.aload_n 0, 1) := by decide +kernel
theorem dX6_whyNotAsk_79 : decode cX6_whyNotAsk 79 = .ok (.iconst 5, 1) := by decide +kernel
theorem dX6_whyNotAsk_80 : decode cX6_whyNotAsk 80 = .ok (.iload_n 2, 1) := by decide +kernel
theorem dX6_whyNotAsk_81 : decode cX6_whyNotAsk 81 = .ok (.iadd, 1) := by decide +kernel
theorem dX6_whyNotAsk_82 : decode cX6_whyNotAsk 82 = .ok (.iaload, 1) := by decide +kernel
theorem dX6_whyNotAsk_83 : decode cX6_whyNotAsk 83 = .ok (.if_icmp .gt 16, 3) := by decide +kernel
theorem dX6_whyNotAsk_86 : decode cX6_whyNotAsk 86 = .ok (.iload 4, 2) := by decide +kernel
theorem dX6_whyNotAsk_88 : decode cX6_whyNotAsk 88 = .ok (.aload_n 0, 1) := by decide +kernel
theorem dX6_whyNotAsk_89 : decode cX6_whyNotAsk 89 = .ok (.iload_n 1, 1) := by decide +kernel
theorem dX6_whyNotAsk_90 : decode cX6_whyNotAsk 90 = .ok (.invokestatic 49, 3) := by decide +kernel
theorem dX6_whyNotAsk_93 : decode cX6_whyNotAsk 93 = .ok (.iconst 0, 1) := by decide +kernel
theorem dX6_whyNotAsk_94 : decode cX6_whyNotAsk 94 = .ok (.iadd, 1) := by decide +kernel
theorem dX6_whyNotAsk_95 : decode cX6_whyNotAsk 95 = .ok (.iaload, 1) := by decide +kernel
theorem dX6_whyNotAsk_96 : decode cX6_whyNotAsk 96 = .ok (.if_icmp .le 7, 3) := by decide +kernel
theorem dX6_whyNotAsk_99 : decode cX6_whyNotAsk 99 = .ok (.iconst 3, 1) := by decide +kernel
theorem dX6_whyNotAsk_100 : decode cX6_whyNotAsk 100 = .ok (.goto 4, 3) := by decide +kernel
theorem dX6_whyNotAsk_103 : decode cX6_whyNotAsk 103 = .ok (.iconst 0, 1) := by decide +kernel
theorem dX6_whyNotAsk_104 : decode cX6_whyNotAsk 104 = .ok (.ireturn, 1) := by decide +kernel
theorem dX6_askOn_0 : decode cX6_askOn 0 = .ok (.aload_n 0, 1) := by decide +kernel
theorem dX6_askOn_1 : decode cX6_askOn 1 = .ok (.iload_n 1, 1) := by decide +kernel
theorem dX6_askOn_2 : decode cX6_askOn 2 = .ok (.invokestatic 49, 3) := by decide +kernel
theorem dX6_askOn_5 : decode cX6_askOn 5 = .ok (.iconst 5, 1) := by decide +kernel
theorem dX6_askOn_6 : decode cX6_askOn 6 = .ok (.iadd, 1) := by decide +kernel
theorem dX6_askOn_7 : decode cX6_askOn 7 = .ok (.iload_n 2, 1) := by decide +kernel
theorem dX6_askOn_8 : decode cX6_askOn 8 = .ok (.iadd, 1) := by decide +kernel
theorem dX6_askOn_9 : decode cX6_askOn 9 = .ok (.iload_n 3, 1) := by decide +kernel
theorem dX6_askOn_10 : decode cX6_askOn 10 = .ok (.iastore, 1) := by decide +kernel
theorem dX6_askOn_11 : decode cX6_askOn 11 = .ok (.aload_n 0, 1) := by decide +kernel
theorem dX6_askOn_12 : decode cX6_askOn 12 = .ok (.iload_n 1, 1) := by decide +kernel
theorem dX6_askOn_13 : decode cX6_askOn 13 = .ok (.invokestatic 67, 3) := by decide +kernel
theorem dX6_askOn_16 : decode cX6_askOn 16 = .ok (.ireturn, 1) := by decide +kernel
theorem dX6_whyNotAdd_0 : decode cX6_whyNotAdd 0 = .ok (.aload_n 0, 1) := by decide +kernel
theorem dX6_whyNotAdd_1 : decode cX6_whyNotAdd 1 = .ok (.iload_n 1, 1) := by decide +kernel
theorem dX6_whyNotAdd_2 : decode cX6_whyNotAdd 2 = .ok (.invokestatic 79, 3) := by decide +kernel
theorem dX6_whyNotAdd_5 : decode cX6_whyNotAdd 5 = .ok (.ifCond .ne 5, 3) := by decide +kernel
theorem dX6_whyNotAdd_8 : decode cX6_whyNotAdd 8 = .ok (.iconst 1, 1) := by decide +kernel
theorem dX6_whyNotAdd_9 : decode cX6_whyNotAdd 9 = .ok (.ireturn, 1) := by decide +kernel
theorem dX6_whyNotAdd_10 : decode cX6_whyNotAdd 10 = .ok (.iload_n 2, 1) := by decide +kernel
theorem dX6_whyNotAdd_11 : decode cX6_whyNotAdd 11 = .ok (.i2l, 1) := by decide +kernel
theorem dX6_whyNotAdd_12 : decode cX6_whyNotAdd 12 = .ok (.lconst 0, 1) := by decide +kernel
theorem dX6_whyNotAdd_13 : decode cX6_whyNotAdd 13 = .ok (.ldc2_w 77, 3) := by decide +kernel
theorem dX6_whyNotAdd_16 : decode cX6_whyNotAdd 16 = .ok (.invokestatic 45, 3) := by decide +kernel
theorem dX6_whyNotAdd_19 : decode cX6_whyNotAdd 19 = .ok (.ifCond .eq 41, 3) := by decide +kernel
theorem dX6_whyNotAdd_22 : decode cX6_whyNotAdd 22 = .ok (.iload_n 3, 1) := by decide +kernel
theorem dX6_whyNotAdd_23 : decode cX6_whyNotAdd 23 = .ok (.i2l, 1) := by decide +kernel
theorem dX6_whyNotAdd_24 : decode cX6_whyNotAdd 24 = .ok (.lconst 0, 1) := by decide +kernel
theorem dX6_whyNotAdd_25 : decode cX6_whyNotAdd 25 = .ok (.ldc2_w 77, 3) := by decide +kernel
theorem dX6_whyNotAdd_28 : decode cX6_whyNotAdd 28 = .ok (.invokestatic 45, 3) := by decide +kernel
theorem dX6_whyNotAdd_31 : decode cX6_whyNotAdd 31 = .ok (.ifCond .eq 29, 3) := by decide +kernel
theorem dX6_whyNotAdd_34 : decode cX6_whyNotAdd 34 = .ok (.iload 4, 2) := by decide +kernel
theorem dX6_whyNotAdd_36 : decode cX6_whyNotAdd 36 = .ok (.i2l, 1) := by decide +kernel
theorem dX6_whyNotAdd_37 : decode cX6_whyNotAdd 37 = .ok (.lconst 0, 1) := by decide +kernel
theorem dX6_whyNotAdd_38 : decode cX6_whyNotAdd 38 = .ok (.ldc2_w 77, 3) := by decide +kernel
theorem dX6_whyNotAdd_41 : decode cX6_whyNotAdd 41 = .ok (.invokestatic 45, 3) := by decide +kernel
theorem dX6_whyNotAdd_44 : decode cX6_whyNotAdd 44 = .ok (.ifCond .eq 16, 3) := by decide +kernel
theorem dX6_whyNotAdd_47 : decode cX6_whyNotAdd 47 = .ok (.iload 5, 2) := by decide +kernel
theorem dX6_whyNotAdd_49 : decode cX6_whyNotAdd 49 = .ok (.i2l, 1) := by decide +kernel
theorem dX6_whyNotAdd_50 : decode cX6_whyNotAdd 50 = .ok (.lconst 1, 1) := by decide +kernel
theorem dX6_whyNotAdd_51 : decode cX6_whyNotAdd 51 = .ok (.ldc2_w 89, 3) := by decide +kernel
theorem dX6_whyNotAdd_54 : decode cX6_whyNotAdd 54 = .ok (.invokestatic 45, 3) := by decide +kernel
theorem dX6_whyNotAdd_57 : decode cX6_whyNotAdd 57 = .ok (.ifCond .ne 5, 3) := by decide +kernel
theorem dX6_whyNotAdd_60 : decode cX6_whyNotAdd 60 = .ok (.iconst 2, 1) := by decide +kernel
theorem dX6_whyNotAdd_61 : decode cX6_whyNotAdd 61 = .ok (.ireturn, 1) := by decide +kernel
theorem dX6_whyNotAdd_62 : decode cX6_whyNotAdd 62 = .ok (.aload_n 0, 1) := by decide +kernel
theorem dX6_whyNotAdd_63 : decode cX6_whyNotAdd 63 = .ok (.iload_n 1, 1) := by decide +kernel
theorem dX6_whyNotAdd_64 : decode cX6_whyNotAdd 64 = .ok (.invokestatic 49, 3) := by decide +kernel
theorem dX6_whyNotAdd_67 : decode cX6_whyNotAdd 67 = .ok (.iconst 1, 1) := by decide +kernel
theorem dX6_whyNotAdd_68 : decode cX6_whyNotAdd 68 = .ok (.iadd, 1) := by decide +kernel
theorem dX6_whyNotAdd_69 : decode cX6_whyNotAdd 69 = .ok (.iaload, 1) := by decide +kernel
theorem dX6_whyNotAdd_70 : decode cX6_whyNotAdd 70 = .ok (.istore 6, 2) := by decide +kernel
theorem dX6_whyNotAdd_72 : decode cX6_whyNotAdd 72 = .ok (.iload_n 2, 1) := by decide +kernel
theorem dX6_whyNotAdd_73 : decode cX6_whyNotAdd 73 = .ok (.iload 6, 2) := by decide +kernel
theorem dX6_whyNotAdd_75 : decode cX6_whyNotAdd 75 = .ok (.aload_n 0, 1) := by decide +kernel
theorem dX6_whyNotAdd_76 : decode cX6_whyNotAdd 76 = .ok (.iconst 5, 1) := by decide +kernel
theorem dX6_whyNotAdd_77 : decode cX6_whyNotAdd 77 = .ok (.iaload, 1) := by decide +kernel
theorem dX6_whyNotAdd_78 : decode cX6_whyNotAdd 78 = .ok (.invokestatic 61, 3) := by decide +kernel
theorem dX6_whyNotAdd_81 : decode cX6_whyNotAdd 81 = .ok (.if_icmp .gt 43, 3) := by decide +kernel
theorem dX6_whyNotAdd_84 : decode cX6_whyNotAdd 84 = .ok (.iload_n 3, 1) := by decide +kernel
theorem dX6_whyNotAdd_85 : decode cX6_whyNotAdd 85 = .ok (.iload 6, 2) := by decide +kernel
theorem dX6_whyNotAdd_87 : decode cX6_whyNotAdd 87 = .ok (.aload_n 0, 1) := by decide +kernel
theorem dX6_whyNotAdd_88 : decode cX6_whyNotAdd 88 = .ok (.bipush 6, 2) := by decide +kernel
theorem dX6_whyNotAdd_90 : decode cX6_whyNotAdd 90 = .ok (.iaload, 1) := by decide +kernel
theorem dX6_whyNotAdd_91 : decode cX6_whyNotAdd 91 = .ok (.invokestatic 61, 3) := by decide +kernel
theorem dX6_whyNotAdd_94 : decode cX6_whyNotAdd 94 = .ok (.if_icmp .gt 30, 3) := by decide +kernel
theorem dX6_whyNotAdd_97 : decode cX6_whyNotAdd 97 = .ok (.iload 4, 2) := by decide +kernel
theorem dX6_whyNotAdd_99 : decode cX6_whyNotAdd 99 = .ok (.iload 6, 2) := by decide +kernel
theorem dX6_whyNotAdd_101 : decode cX6_whyNotAdd 101 = .ok (.aload_n 0, 1) := by decide +kernel
theorem dX6_whyNotAdd_102 : decode cX6_whyNotAdd 102 = .ok (.bipush 7, 2) := by decide +kernel
theorem dX6_whyNotAdd_104 : decode cX6_whyNotAdd 104 = .ok (.iaload, 1) := by decide +kernel
theorem dX6_whyNotAdd_105 : decode cX6_whyNotAdd 105 = .ok (.invokestatic 61, 3) := by decide +kernel
theorem dX6_whyNotAdd_108 : decode cX6_whyNotAdd 108 = .ok (.if_icmp .gt 16, 3) := by decide +kernel
theorem dX6_whyNotAdd_111 : decode cX6_whyNotAdd 111 = .ok (.iload_n 2, 1) := by decide +kernel
theorem dX6_whyNotAdd_112 : decode cX6_whyNotAdd 112 = .ok (.iload_n 3, 1) := by decide +kernel
theorem dX6_whyNotAdd_113 : decode cX6_whyNotAdd 113 = .ok (.iadd, 1) := by decide +kernel
theorem dX6_whyNotAdd_114 : decode cX6_whyNotAdd 114 = .ok (.iload 4, 2) := by decide +kernel
theorem dX6_whyNotAdd_116 : decode cX6_whyNotAdd 116 = .ok (.iadd, 1) := by decide +kernel
theorem dX6_whyNotAdd_117 : decode cX6_whyNotAdd 117 = .ok (.ifCond .le 7, 3) := by decide +kernel
theorem dX6_whyNotAdd_120 : decode cX6_whyNotAdd 120 = .ok (.iconst 1, 1) := by decide +kernel
theorem dX6_whyNotAdd_121 : decode cX6_whyNotAdd 121 = .ok (.goto 4, 3) := by decide +kernel
theorem dX6_whyNotAdd_124 : decode cX6_whyNotAdd 124 = .ok (.iconst 0, 1) := by decide +kernel
theorem dX6_whyNotAdd_125 : decode cX6_whyNotAdd 125 = .ok (.istore 7, 2) := by decide +kernel
theorem dX6_whyNotAdd_127 : decode cX6_whyNotAdd 127 = .ok (.iload_n 2, 1) := by decide +kernel
theorem dX6_whyNotAdd_128 : decode cX6_whyNotAdd 128 = .ok (.aload_n 0, 1) := by decide +kernel
theorem dX6_whyNotAdd_129 : decode cX6_whyNotAdd 129 = .ok (.bipush 8, 2) := by decide +kernel
theorem dX6_whyNotAdd_131 : decode cX6_whyNotAdd 131 = .ok (.iaload, 1) := by decide +kernel
theorem dX6_whyNotAdd_132 : decode cX6_whyNotAdd 132 = .ok (.imul, 1) := by decide +kernel
theorem dX6_whyNotAdd_133 : decode cX6_whyNotAdd 133 = .ok (.iload_n 3, 1) := by decide +kernel
theorem dX6_whyNotAdd_134 : decode cX6_whyNotAdd 134 = .ok (.aload_n 0, 1) := by decide +kernel
theorem dX6_whyNotAdd_135 : decode cX6_whyNotAdd 135 = .ok (.bipush 9, 2) := by decide +kernel
theorem dX6_whyNotAdd_137 : decode cX6_whyNotAdd 137 = .ok (.iaload, 1) := by decide +kernel
theorem dX6_whyNotAdd_138 : decode cX6_whyNotAdd 138 = .ok (.imul, 1) := by decide +kernel
theorem dX6_whyNotAdd_139 : decode cX6_whyNotAdd 139 = .ok (.iadd, 1) := by decide +kernel
theorem dX6_whyNotAdd_140 : decode cX6_whyNotAdd 140 = .ok (.iload 4, 2) := by decide +kernel
theorem dX6_whyNotAdd_142 : decode cX6_whyNotAdd 142 = .ok (.aload_n 0, 1) := by decide +kernel
theorem dX6_whyNotAdd_143 : decode cX6_whyNotAdd 143 = .ok (.bipush 10, 2) := by decide +kernel
theorem dX6_whyNotAdd_145 : decode cX6_whyNotAdd 145 = .ok (.iaload, 1) := by decide +kernel
theorem dX6_whyNotAdd_146 : decode cX6_whyNotAdd 146 = .ok (.imul, 1) := by decide +kernel
theorem dX6_whyNotAdd_147 : decode cX6_whyNotAdd 147 = .ok (.iadd, 1) := by decide +kernel
theorem dX6_whyNotAdd_148 : decode cX6_whyNotAdd 148 = .ok (.aload_n 0, 1) := by decide +kernel
theorem dX6_whyNotAdd_149 : decode cX6_whyNotAdd 149 = .ok (.iload_n 1, 1) := by decide +kernel
theorem dX6_whyNotAdd_150 : decode cX6_whyNotAdd 150 = .ok (.invokestatic 49, 3) := by decide +kernel
theorem dX6_whyNotAdd_153 : decode cX6_whyNotAdd 153 = .ok (.iconst 0, 1) := by decide +kernel
theorem dX6_whyNotAdd_154 : decode cX6_whyNotAdd 154 = .ok (.iadd, 1) := by decide +kernel
theorem dX6_whyNotAdd_155 : decode cX6_whyNotAdd 155 = .ok (.iaload, 1) := by decide +kernel
theorem dX6_whyNotAdd_156 : decode cX6_whyNotAdd 156 = .ok (.if_icmp .gt 33, 3) := by decide +kernel
theorem dX6_whyNotAdd_159 : decode cX6_whyNotAdd 159 = .ok (.iload 5, 2) := by decide +kernel
theorem dX6_whyNotAdd_161 : decode cX6_whyNotAdd 161 = .ok (.iload_n 2, 1) := by decide +kernel
theorem dX6_whyNotAdd_162 : decode cX6_whyNotAdd 162 = .ok (.aload_n 0, 1) := by decide +kernel
theorem dX6_whyNotAdd_163 : decode cX6_whyNotAdd 163 = .ok (.bipush 11, 2) := by decide +kernel
theorem dX6_whyNotAdd_165 : decode cX6_whyNotAdd 165 = .ok (.iaload, 1) := by decide +kernel
theorem dX6_whyNotAdd_166 : decode cX6_whyNotAdd 166 = .ok (.imul, 1) := by decide +kernel
theorem dX6_whyNotAdd_167 : decode cX6_whyNotAdd 167 = .ok (.iload_n 3, 1) := by decide +kernel
theorem dX6_whyNotAdd_168 : decode cX6_whyNotAdd 168 = .ok (.aload_n 0, 1) := by decide +kernel
theorem dX6_whyNotAdd_169 : decode cX6_whyNotAdd 169 = .ok (.bipush 12, 2) := by decide +kernel
theorem dX6_whyNotAdd_171 : decode cX6_whyNotAdd 171 = .ok (.iaload, 1) := by decide +kernel
theorem dX6_whyNotAdd_172 : decode cX6_whyNotAdd 172 = .ok (.imul, 1) := by decide +kernel
theorem dX6_whyNotAdd_173 : decode cX6_whyNotAdd 173 = .ok (.iadd, 1) := by decide +kernel
theorem dX6_whyNotAdd_174 : decode cX6_whyNotAdd 174 = .ok (.iload 4, 2) := by decide +kernel
theorem dX6_whyNotAdd_176 : decode cX6_whyNotAdd 176 = .ok (.aload_n 0, 1) := by decide +kernel
theorem dX6_whyNotAdd_177 : decode cX6_whyNotAdd 177 = .ok (.bipush 13, 2) := by decide +kernel
theorem dX6_whyNotAdd_179 : decode cX6_whyNotAdd 179 = .ok (.iaload, 1) := by decide +kernel
theorem dX6_whyNotAdd_180 : decode cX6_whyNotAdd 180 = .ok (.imul, 1) := by decide +kernel
theorem dX6_whyNotAdd_181 : decode cX6_whyNotAdd 181 = .ok (.iadd, 1) := by decide +kernel
theorem dX6_whyNotAdd_182 : decode cX6_whyNotAdd 182 = .ok (.if_icmp .lt 7, 3) := by decide +kernel
theorem dX6_whyNotAdd_185 : decode cX6_whyNotAdd 185 = .ok (.iconst 1, 1) := by decide +kernel
theorem dX6_whyNotAdd_186 : decode cX6_whyNotAdd 186 = .ok (.goto 4, 3) := by decide +kernel
theorem dX6_whyNotAdd_189 : decode cX6_whyNotAdd 189 = .ok (.iconst 0, 1) := by decide +kernel
theorem dX6_whyNotAdd_190 : decode cX6_whyNotAdd 190 = .ok (.istore 8, 2) := by decide +kernel
theorem dX6_whyNotAdd_192 : decode cX6_whyNotAdd 192 = .ok (.aload_n 0, 1) := by decide +kernel
theorem dX6_whyNotAdd_193 : decode cX6_whyNotAdd 193 = .ok (.iconst 1, 1) := by decide +kernel
theorem dX6_whyNotAdd_194 : decode cX6_whyNotAdd 194 = .ok (.iaload, 1) := by decide +kernel
theorem dX6_whyNotAdd_195 : decode cX6_whyNotAdd 195 = .ok (.iconst 1, 1) := by decide +kernel
theorem dX6_whyNotAdd_196 : decode cX6_whyNotAdd 196 = .ok (.if_icmp .ne 30, 3) := by decide +kernel
theorem dX6_whyNotAdd_199 : decode cX6_whyNotAdd 199 = .ok (.aload_n 0, 1) := by decide +kernel
theorem dX6_whyNotAdd_200 : decode cX6_whyNotAdd 200 = .ok (.iload_n 1, 1) := by decide +kernel
theorem dX6_whyNotAdd_201 : decode cX6_whyNotAdd 201 = .ok (.invokestatic 49, 3) := by decide +kernel
theorem dX6_whyNotAdd_204 : decode cX6_whyNotAdd 204 = .ok (.bipush 8, 2) := by decide +kernel
theorem dX6_whyNotAdd_206 : decode cX6_whyNotAdd 206 = .ok (.iadd, 1) := by decide +kernel
theorem dX6_whyNotAdd_207 : decode cX6_whyNotAdd 207 = .ok (.iaload, 1) := by decide +kernel
theorem dX6_whyNotAdd_208 : decode cX6_whyNotAdd 208 = .ok (.iconst 3, 1) := by decide +kernel
theorem dX6_whyNotAdd_209 : decode cX6_whyNotAdd 209 = .ok (.if_icmp .ge 17, 3) := by decide +kernel
theorem dX6_whyNotAdd_212 : decode cX6_whyNotAdd 212 = .ok (.iload 7, 2) := by decide +kernel
theorem dX6_whyNotAdd_214 : decode cX6_whyNotAdd 214 = .ok (.ifCond .eq 12, 3) := by decide +kernel
theorem dX6_whyNotAdd_217 : decode cX6_whyNotAdd 217 = .ok (.iload 8, 2) := by decide +kernel
theorem dX6_whyNotAdd_219 : decode cX6_whyNotAdd 219 = .ok (.ifCond .eq 7, 3) := by decide +kernel
theorem dX6_whyNotAdd_222 : decode cX6_whyNotAdd 222 = .ok (.iconst 0, 1) := by decide +kernel
theorem dX6_whyNotAdd_223 : decode cX6_whyNotAdd 223 = .ok (.goto 4, 3) := by decide +kernel
theorem dX6_whyNotAdd_226 : decode cX6_whyNotAdd 226 = .ok (.iconst 3, 1) := by decide +kernel
theorem dX6_whyNotAdd_227 : decode cX6_whyNotAdd 227 = .ok (.ireturn, 1) := by decide +kernel
theorem dX6_addOn_0 : decode cX6_addOn 0 = .ok (.iload_n 1, 1) := by decide +kernel
theorem dX6_addOn_1 : decode cX6_addOn 1 = .ok (.invokestatic 49, 3) := by decide +kernel
theorem dX6_addOn_4 : decode cX6_addOn 4 = .ok (.bipush 9, 2) := by decide +kernel
theorem dX6_addOn_6 : decode cX6_addOn 6 = .ok (.iadd, 1) := by decide +kernel
theorem dX6_addOn_7 : decode cX6_addOn 7 = .ok (.iconst 4, 1) := by decide +kernel
theorem dX6_addOn_8 : decode cX6_addOn 8 = .ok (.aload_n 0, 1) := by decide +kernel
theorem dX6_addOn_9 : decode cX6_addOn 9 = .ok (.iload_n 1, 1) := by decide +kernel
theorem dX6_addOn_10 : decode cX6_addOn 10 = .ok (.invokestatic 49, 3) := by decide +kernel
theorem dX6_addOn_13 : decode cX6_addOn 13 = .ok (.bipush 8, 2) := by decide +kernel
theorem dX6_addOn_15 : decode cX6_addOn 15 = .ok (.iadd, 1) := by decide +kernel
theorem dX6_addOn_16 : decode cX6_addOn 16 = .ok (.iaload, 1) := by decide +kernel
theorem dX6_addOn_17 : decode cX6_addOn 17 = .ok (.imul, 1) := by decide +kernel
theorem dX6_addOn_18 : decode cX6_addOn 18 = .ok (.iadd, 1) := by decide +kernel
theorem dX6_addOn_19 : decode cX6_addOn 19 = .ok (.istore 6, 2) := by decide +kernel
theorem dX6_addOn_21 : decode cX6_addOn 21 = .ok (.aload_n 0, 1) := by decide +kernel
theorem dX6_addOn_22 : decode cX6_addOn 22 = .ok (.iload 6, 2) := by decide +kernel
theorem dX6_addOn_24 : decode cX6_addOn 24 = .ok (.iload_n 2, 1) := by decide +kernel
theorem dX6_addOn_25 : decode cX6_addOn 25 = .ok (.iastore, 1) := by decide +kernel
theorem dX6_addOn_26 : decode cX6_addOn 26 = .ok (.aload_n 0, 1) := by decide +kernel
theorem dX6_addOn_27 : decode cX6_addOn 27 = .ok (.iload 6, 2) := by decide +kernel
theorem dX6_addOn_29 : decode cX6_addOn 29 = .ok (.iconst 1, 1) := by decide +kernel
theorem dX6_addOn_30 : decode cX6_addOn 30 = .ok (.iadd, 1) := by decide +kernel
theorem dX6_addOn_31 : decode cX6_addOn 31 = .ok (.iload_n 3, 1) := by decide +kernel
theorem dX6_addOn_32 : decode cX6_addOn 32 = .ok (.iastore, 1) := by decide +kernel
theorem dX6_addOn_33 : decode cX6_addOn 33 = .ok (.aload_n 0, 1) := by decide +kernel
theorem dX6_addOn_34 : decode cX6_addOn 34 = .ok (.iload 6, 2) := by decide +kernel
theorem dX6_addOn_36 : decode cX6_addOn 36 = .ok (.iconst 2, 1) := by decide +kernel
theorem dX6_addOn_37 : decode cX6_addOn 37 = .ok (.iadd, 1) := by decide +kernel
theorem dX6_addOn_38 : decode cX6_addOn 38 = .ok (.iload 4, 2) := by decide +kernel
theorem dX6_addOn_40 : decode cX6_addOn 40 = .ok (.iastore, 1) := by decide +kernel
theorem dX6_addOn_41 : decode cX6_addOn 41 = .ok (.aload_n 0, 1) := by decide +kernel
theorem dX6_addOn_42 : decode cX6_addOn 42 = .ok (.iload 6, 2) := by decide +kernel
theorem dX6_addOn_44 : decode cX6_addOn 44 = .ok (.iconst 3, 1) := by decide +kernel
theorem dX6_addOn_45 : decode cX6_addOn 45 = .ok (.iadd, 1) := by decide +kernel
theorem dX6_addOn_46 : decode cX6_addOn 46 = .ok (.iload 5, 2) := by decide +kernel
theorem dX6_addOn_48 : decode cX6_addOn 48 = .ok (.iastore, 1) := by decide +kernel
theorem dX6_addOn_49 : decode cX6_addOn 49 = .ok (.aload_n 0, 1) := by decide +kernel
theorem dX6_addOn_50 : decode cX6_addOn 50 = .ok (.iload_n 1, 1) := by decide +kernel
theorem dX6_addOn_51 : decode cX6_addOn 51 = .ok (.invokestatic 49, 3) := by decide +kernel
theorem dX6_addOn_54 : decode cX6_addOn 54 = .ok (.bipush 8, 2) := by decide +kernel
theorem dX6_addOn_56 : decode cX6_addOn 56 = .ok (.iadd, 1) := by decide +kernel
theorem dX6_addOn_57 : decode cX6_addOn 57 = .ok (.dup2, 1) := by decide +kernel
theorem dX6_addOn_58 : decode cX6_addOn 58 = .ok (.iaload, 1) := by decide +kernel
theorem dX6_addOn_59 : decode cX6_addOn 59 = .ok (.iconst 1, 1) := by decide +kernel
theorem dX6_addOn_60 : decode cX6_addOn 60 = .ok (.iadd, 1) := by decide +kernel
theorem dX6_addOn_61 : decode cX6_addOn 61 = .ok (.iastore, 1) := by decide +kernel
theorem dX6_addOn_62 : decode cX6_addOn 62 = .ok (.aload_n 0, 1) := by decide +kernel
theorem dX6_addOn_63 : decode cX6_addOn 63 = .ok (.iload_n 1, 1) := by decide +kernel
theorem dX6_addOn_64 : decode cX6_addOn 64 = .ok (.invokestatic 49, 3) := by decide +kernel
theorem dX6_addOn_67 : decode cX6_addOn 67 = .ok (.bipush 8, 2) := by decide +kernel
theorem dX6_addOn_69 : decode cX6_addOn 69 = .ok (.iadd, 1) := by decide +kernel
theorem dX6_addOn_70 : decode cX6_addOn 70 = .ok (.iaload, 1) := by decide +kernel
theorem dX6_addOn_71 : decode cX6_addOn 71 = .ok (.ireturn, 1) := by decide +kernel
theorem dX6_canDrop_0 : decode cX6_canDrop 0 = .ok (.aload_n 0, 1) := by decide +kernel
theorem dX6_canDrop_1 : decode cX6_canDrop 1 = .ok (.iload_n 1, 1) := by decide +kernel
theorem dX6_canDrop_2 : decode cX6_canDrop 2 = .ok (.invokestatic 79, 3) := by decide +kernel
theorem dX6_canDrop_5 : decode cX6_canDrop 5 = .ok (.ifCond .eq 26, 3) := by decide +kernel
theorem dX6_canDrop_8 : decode cX6_canDrop 8 = .ok (.iload_n 2, 1) := by decide +kernel
theorem dX6_canDrop_9 : decode cX6_canDrop 9 = .ok (.i2l, 1) := by decide +kernel
theorem dX6_canDrop_10 : decode cX6_canDrop 10 = .ok (.lconst 1, 1) := by decide +kernel
theorem dX6_canDrop_11 : decode cX6_canDrop 11 = .ok (.aload_n 0, 1) := by decide +kernel
theorem dX6_canDrop_12 : decode cX6_canDrop 12 = .ok (.iload_n 1, 1) := by decide +kernel
theorem dX6_canDrop_13 : decode cX6_canDrop 13 = .ok (.invokestatic 49, 3) := by decide +kernel
theorem dX6_canDrop_16 : decode cX6_canDrop 16 = .ok (.bipush 8, 2) := by decide +kernel
theorem dX6_canDrop_18 : decode cX6_canDrop 18 = .ok (.iadd, 1) := by decide +kernel
theorem dX6_canDrop_19 : decode cX6_canDrop 19 = .ok (.iaload, 1) := by decide +kernel
theorem dX6_canDrop_20 : decode cX6_canDrop 20 = .ok (.i2l, 1) := by decide +kernel
theorem dX6_canDrop_21 : decode cX6_canDrop 21 = .ok (.invokestatic 45, 3) := by decide +kernel
theorem dX6_canDrop_24 : decode cX6_canDrop 24 = .ok (.ifCond .eq 7, 3) := by decide +kernel
theorem dX6_canDrop_27 : decode cX6_canDrop 27 = .ok (.iconst 1, 1) := by decide +kernel
theorem dX6_canDrop_28 : decode cX6_canDrop 28 = .ok (.goto 4, 3) := by decide +kernel
theorem dX6_canDrop_31 : decode cX6_canDrop 31 = .ok (.iconst 0, 1) := by decide +kernel
theorem dX6_canDrop_32 : decode cX6_canDrop 32 = .ok (.ireturn, 1) := by decide +kernel
theorem dX6_dropOn_0 : decode cX6_dropOn 0 = .ok (.iload_n 1, 1) := by decide +kernel
theorem dX6_dropOn_1 : decode cX6_dropOn 1 = .ok (.invokestatic 49, 3) := by decide +kernel
theorem dX6_dropOn_4 : decode cX6_dropOn 4 = .ok (.bipush 9, 2) := by decide +kernel
theorem dX6_dropOn_6 : decode cX6_dropOn 6 = .ok (.iadd, 1) := by decide +kernel
theorem dX6_dropOn_7 : decode cX6_dropOn 7 = .ok (.istore_n 3, 1) := by decide +kernel
theorem dX6_dropOn_8 : decode cX6_dropOn 8 = .ok (.iload_n 3, 1) := by decide +kernel
theorem dX6_dropOn_9 : decode cX6_dropOn 9 = .ok (.iconst 4, 1) := by decide +kernel
theorem dX6_dropOn_10 : decode cX6_dropOn 10 = .ok (.iload_n 2, 1) := by decide +kernel
theorem dX6_dropOn_11 : decode cX6_dropOn 11 = .ok (.iconst 1, 1) := by decide +kernel
theorem dX6_dropOn_12 : decode cX6_dropOn 12 = .ok (.isub, 1) := by decide +kernel
theorem dX6_dropOn_13 : decode cX6_dropOn 13 = .ok (.imul, 1) := by decide +kernel
theorem dX6_dropOn_14 : decode cX6_dropOn 14 = .ok (.iadd, 1) := by decide +kernel
theorem dX6_dropOn_15 : decode cX6_dropOn 15 = .ok (.istore 4, 2) := by decide +kernel
theorem dX6_dropOn_17 : decode cX6_dropOn 17 = .ok (.iload 4, 2) := by decide +kernel
theorem dX6_dropOn_19 : decode cX6_dropOn 19 = .ok (.iload_n 3, 1) := by decide +kernel
theorem dX6_dropOn_20 : decode cX6_dropOn 20 = .ok (.bipush 8, 2) := by decide +kernel
theorem dX6_dropOn_22 : decode cX6_dropOn 22 = .ok (.iadd, 1) := by decide +kernel
theorem dX6_dropOn_23 : decode cX6_dropOn 23 = .ok (.if_icmp .ge 19, 3) := by decide +kernel
theorem dX6_dropOn_26 : decode cX6_dropOn 26 = .ok (.aload_n 0, 1) := by decide +kernel
theorem dX6_dropOn_27 : decode cX6_dropOn 27 = .ok (.iload 4, 2) := by decide +kernel
theorem dX6_dropOn_29 : decode cX6_dropOn 29 = .ok (.aload_n 0, 1) := by decide +kernel
theorem dX6_dropOn_30 : decode cX6_dropOn 30 = .ok (.iload 4, 2) := by decide +kernel
theorem dX6_dropOn_32 : decode cX6_dropOn 32 = .ok (.iconst 4, 1) := by decide +kernel
theorem dX6_dropOn_33 : decode cX6_dropOn 33 = .ok (.iadd, 1) := by decide +kernel
theorem dX6_dropOn_34 : decode cX6_dropOn 34 = .ok (.iaload, 1) := by decide +kernel
theorem dX6_dropOn_35 : decode cX6_dropOn 35 = .ok (.iastore, 1) := by decide +kernel
theorem dX6_dropOn_36 : decode cX6_dropOn 36 = .ok (.iinc 4 1, 3) := by decide +kernel
theorem dX6_dropOn_39 : decode cX6_dropOn 39 = .ok (.goto (-22), 3) := by decide +kernel
theorem dX6_dropOn_42 : decode cX6_dropOn 42 = .ok (.iload_n 3, 1) := by decide +kernel
theorem dX6_dropOn_43 : decode cX6_dropOn 43 = .ok (.bipush 8, 2) := by decide +kernel
theorem dX6_dropOn_45 : decode cX6_dropOn 45 = .ok (.iadd, 1) := by decide +kernel
theorem dX6_dropOn_46 : decode cX6_dropOn 46 = .ok (.istore 4, 2) := by decide +kernel
theorem dX6_dropOn_48 : decode cX6_dropOn 48 = .ok (.iload 4, 2) := by decide +kernel
theorem dX6_dropOn_50 : decode cX6_dropOn 50 = .ok (.iload_n 3, 1) := by decide +kernel
theorem dX6_dropOn_51 : decode cX6_dropOn 51 = .ok (.bipush 12, 2) := by decide +kernel
theorem dX6_dropOn_53 : decode cX6_dropOn 53 = .ok (.iadd, 1) := by decide +kernel
theorem dX6_dropOn_54 : decode cX6_dropOn 54 = .ok (.if_icmp .ge 14, 3) := by decide +kernel
theorem dX6_dropOn_57 : decode cX6_dropOn 57 = .ok (.aload_n 0, 1) := by decide +kernel
theorem dX6_dropOn_58 : decode cX6_dropOn 58 = .ok (.iload 4, 2) := by decide +kernel
theorem dX6_dropOn_60 : decode cX6_dropOn 60 = .ok (.iconst 0, 1) := by decide +kernel
theorem dX6_dropOn_61 : decode cX6_dropOn 61 = .ok (.iastore, 1) := by decide +kernel
theorem dX6_dropOn_62 : decode cX6_dropOn 62 = .ok (.iinc 4 1, 3) := by decide +kernel
theorem dX6_dropOn_65 : decode cX6_dropOn 65 = .ok (.goto (-17), 3) := by decide +kernel
theorem dX6_dropOn_68 : decode cX6_dropOn 68 = .ok (.aload_n 0, 1) := by decide +kernel
theorem dX6_dropOn_69 : decode cX6_dropOn 69 = .ok (.iload_n 1, 1) := by decide +kernel
theorem dX6_dropOn_70 : decode cX6_dropOn 70 = .ok (.invokestatic 49, 3) := by decide +kernel
theorem dX6_dropOn_73 : decode cX6_dropOn 73 = .ok (.bipush 8, 2) := by decide +kernel
theorem dX6_dropOn_75 : decode cX6_dropOn 75 = .ok (.iadd, 1) := by decide +kernel
theorem dX6_dropOn_76 : decode cX6_dropOn 76 = .ok (.dup2, 1) := by decide +kernel
theorem dX6_dropOn_77 : decode cX6_dropOn 77 = .ok (.iaload, 1) := by decide +kernel
theorem dX6_dropOn_78 : decode cX6_dropOn 78 = .ok (.iconst 1, 1) := by decide +kernel
theorem dX6_dropOn_79 : decode cX6_dropOn 79 = .ok (.isub, 1) := by decide +kernel
theorem dX6_dropOn_80 : decode cX6_dropOn 80 = .ok (.iastore, 1) := by decide +kernel
theorem dX6_dropOn_81 : decode cX6_dropOn 81 = .ok (.aload_n 0, 1) := by decide +kernel
theorem dX6_dropOn_82 : decode cX6_dropOn 82 = .ok (.iload_n 1, 1) := by decide +kernel
theorem dX6_dropOn_83 : decode cX6_dropOn 83 = .ok (.invokestatic 49, 3) := by decide +kernel
theorem dX6_dropOn_86 : decode cX6_dropOn 86 = .ok (.bipush 8, 2) := by decide +kernel
theorem dX6_dropOn_88 : decode cX6_dropOn 88 = .ok (.iadd, 1) := by decide +kernel
theorem dX6_dropOn_89 : decode cX6_dropOn 89 = .ok (.iaload, 1) := by decide +kernel
theorem dX6_dropOn_90 : decode cX6_dropOn 90 = .ok (.ireturn, 1) := by decide +kernel
theorem dX6_packOf_0 : decode cX6_packOf 0 = .ok (.iload_n 2, 1) := by decide +kernel
theorem dX6_packOf_1 : decode cX6_packOf 1 = .ok (.ifCond .le 21, 3) := by decide +kernel
theorem dX6_packOf_4 : decode cX6_packOf 4 = .ok (.aload_n 0, 1) := by decide +kernel
theorem dX6_packOf_5 : decode cX6_packOf 5 = .ok (.iload_n 1, 1) := by decide +kernel
theorem dX6_packOf_6 : decode cX6_packOf 6 = .ok (.invokestatic 49, 3) := by decide +kernel
theorem dX6_packOf_9 : decode cX6_packOf 9 = .ok (.bipush 9, 2) := by decide +kernel
theorem dX6_packOf_11 : decode cX6_packOf 11 = .ok (.iadd, 1) := by decide +kernel
theorem dX6_packOf_12 : decode cX6_packOf 12 = .ok (.iconst 4, 1) := by decide +kernel
theorem dX6_packOf_13 : decode cX6_packOf 13 = .ok (.iload_n 2, 1) := by decide +kernel
theorem dX6_packOf_14 : decode cX6_packOf 14 = .ok (.iconst 1, 1) := by decide +kernel
theorem dX6_packOf_15 : decode cX6_packOf 15 = .ok (.isub, 1) := by decide +kernel
theorem dX6_packOf_16 : decode cX6_packOf 16 = .ok (.imul, 1) := by decide +kernel
theorem dX6_packOf_17 : decode cX6_packOf 17 = .ok (.iadd, 1) := by decide +kernel
theorem dX6_packOf_18 : decode cX6_packOf 18 = .ok (.iload_n 3, 1) := by decide +kernel
theorem dX6_packOf_19 : decode cX6_packOf 19 = .ok (.iadd, 1) := by decide +kernel
theorem dX6_packOf_20 : decode cX6_packOf 20 = .ok (.iaload, 1) := by decide +kernel
theorem dX6_packOf_21 : decode cX6_packOf 21 = .ok (.ireturn, 1) := by decide +kernel
theorem dX6_packOf_22 : decode cX6_packOf 22 = .ok (.iload_n 3, 1) := by decide +kernel
theorem dX6_packOf_23 : decode cX6_packOf 23 = .ok (.iconst 3, 1) := by decide +kernel
theorem dX6_packOf_24 : decode cX6_packOf 24 = .ok (.if_icmp .ge 14, 3) := by decide +kernel
theorem dX6_packOf_27 : decode cX6_packOf 27 = .ok (.aload_n 0, 1) := by decide +kernel
theorem dX6_packOf_28 : decode cX6_packOf 28 = .ok (.iload_n 1, 1) := by decide +kernel
theorem dX6_packOf_29 : decode cX6_packOf 29 = .ok (.invokestatic 49, 3) := by decide +kernel
theorem dX6_packOf_32 : decode cX6_packOf 32 = .ok (.iconst 5, 1) := by decide +kernel
theorem dX6_packOf_33 : decode cX6_packOf 33 = .ok (.iadd, 1) := by decide +kernel
theorem dX6_packOf_34 : decode cX6_packOf 34 = .ok (.iload_n 3, 1) := by decide +kernel
theorem dX6_packOf_35 : decode cX6_packOf 35 = .ok (.iadd, 1) := by decide +kernel
theorem dX6_packOf_36 : decode cX6_packOf 36 = .ok (.iaload, 1) := by decide +kernel
theorem dX6_packOf_37 : decode cX6_packOf 37 = .ok (.ireturn, 1) := by decide +kernel
theorem dX6_packOf_38 : decode cX6_packOf 38 = .ok (.iconst 0, 1) := by decide +kernel
theorem dX6_packOf_39 : decode cX6_packOf 39 = .ok (.istore 4, 2) := by decide +kernel
theorem dX6_packOf_41 : decode cX6_packOf 41 = .ok (.iconst 0, 1) := by decide +kernel
theorem dX6_packOf_42 : decode cX6_packOf 42 = .ok (.istore 5, 2) := by decide +kernel
theorem dX6_packOf_44 : decode cX6_packOf 44 = .ok (.iload 5, 2) := by decide +kernel
theorem dX6_packOf_46 : decode cX6_packOf 46 = .ok (.iconst 3, 1) := by decide +kernel
theorem dX6_packOf_47 : decode cX6_packOf 47 = .ok (.if_icmp .ge 33, 3) := by decide +kernel
theorem dX6_packOf_50 : decode cX6_packOf 50 = .ok (.iload 4, 2) := by decide +kernel
theorem dX6_packOf_52 : decode cX6_packOf 52 = .ok (.aload_n 0, 1) := by decide +kernel
theorem dX6_packOf_53 : decode cX6_packOf 53 = .ok (.iload_n 1, 1) := by decide +kernel
theorem dX6_packOf_54 : decode cX6_packOf 54 = .ok (.invokestatic 49, 3) := by decide +kernel
theorem dX6_packOf_57 : decode cX6_packOf 57 = .ok (.iconst 5, 1) := by decide +kernel
theorem dX6_packOf_58 : decode cX6_packOf 58 = .ok (.iadd, 1) := by decide +kernel
theorem dX6_packOf_59 : decode cX6_packOf 59 = .ok (.iload 5, 2) := by decide +kernel
theorem dX6_packOf_61 : decode cX6_packOf 61 = .ok (.iadd, 1) := by decide +kernel
theorem dX6_packOf_62 : decode cX6_packOf 62 = .ok (.iaload, 1) := by decide +kernel
theorem dX6_packOf_63 : decode cX6_packOf 63 = .ok (.aload_n 0, 1) := by decide +kernel
theorem dX6_packOf_64 : decode cX6_packOf 64 = .ok (.bipush 11, 2) := by decide +kernel
theorem dX6_packOf_66 : decode cX6_packOf 66 = .ok (.iload 5, 2) := by decide +kernel
theorem dX6_packOf_68 : decode cX6_packOf 68 = .ok (.iadd, 1) := by decide +kernel
theorem dX6_packOf_69 : decode cX6_packOf 69 = .ok (.iaload, 1) := by decide +kernel
theorem dX6_packOf_70 : decode cX6_packOf 70 = .ok (.imul, 1) := by decide +kernel
theorem dX6_packOf_71 : decode cX6_packOf 71 = .ok (.iadd, 1) := by decide +kernel
theorem dX6_packOf_72 : decode cX6_packOf 72 = .ok (.istore 4, 2) := by decide +kernel
theorem dX6_packOf_74 : decode cX6_packOf 74 = .ok (.iinc 5 1, 3) := by decide +kernel
theorem dX6_packOf_77 : decode cX6_packOf 77 = .ok (.goto (-33), 3) := by decide +kernel
theorem dX6_packOf_80 : decode cX6_packOf 80 = .ok (.iload 4, 2) := by decide +kernel
theorem dX6_packOf_82 : decode cX6_packOf 82 = .ok (.ireturn, 1) := by decide +kernel
theorem dX6_fits_0 : decode cX6_fits 0 = .ok (.iconst 1, 1) := by decide +kernel
theorem dX6_fits_1 : decode cX6_fits 1 = .ok (.istore_n 3, 1) := by decide +kernel
theorem dX6_fits_2 : decode cX6_fits 2 = .ok (.iconst 0, 1) := by decide +kernel
theorem dX6_fits_3 : decode cX6_fits 3 = .ok (.istore 4, 2) := by decide +kernel
theorem dX6_fits_5 : decode cX6_fits 5 = .ok (.iload 4, 2) := by decide +kernel
theorem dX6_fits_7 : decode cX6_fits 7 = .ok (.iconst 3, 1) := by decide +kernel
theorem dX6_fits_8 : decode cX6_fits 8 = .ok (.if_icmp .ge 98, 3) := by decide +kernel
theorem dX6_fits_11 : decode cX6_fits 11 = .ok (.iload_n 3, 1) := by decide +kernel
theorem dX6_fits_12 : decode cX6_fits 12 = .ok (.ifCond .eq 94, 3) := by decide +kernel
theorem dX6_fits_15 : decode cX6_fits 15 = .ok (.iconst 0, 1) := by decide +kernel
theorem dX6_fits_16 : decode cX6_fits 16 = .ok (.istore 5, 2) := by decide +kernel
theorem dX6_fits_18 : decode cX6_fits 18 = .ok (.iconst 0, 1) := by decide +kernel
theorem dX6_fits_19 : decode cX6_fits 19 = .ok (.istore 6, 2) := by decide +kernel
theorem dX6_fits_21 : decode cX6_fits 21 = .ok (.iload 6, 2) := by decide +kernel
theorem dX6_fits_23 : decode cX6_fits 23 = .ok (.aload_n 1, 1) := by decide +kernel
theorem dX6_fits_24 : decode cX6_fits 24 = .ok (.iconst 4, 1) := by decide +kernel
theorem dX6_fits_25 : decode cX6_fits 25 = .ok (.iaload, 1) := by decide +kernel
theorem dX6_fits_26 : decode cX6_fits 26 = .ok (.if_icmp .ge 45, 3) := by decide +kernel
theorem dX6_fits_29 : decode cX6_fits 29 = .ok (.iload 5, 2) := by decide +kernel
theorem dX6_fits_31 : decode cX6_fits 31 = .ok (.aload_n 0, 1) := by decide +kernel
theorem dX6_fits_32 : decode cX6_fits 32 = .ok (.getfield 29, 3) := by decide +kernel
theorem dX6_fits_35 : decode cX6_fits 35 = .ok (.iload 6, 2) := by decide +kernel
theorem dX6_fits_37 : decode cX6_fits 37 = .ok (.iaload, 1) := by decide +kernel
theorem dX6_fits_38 : decode cX6_fits 38 = .ok (.ifCond .ne 7, 3) := by decide +kernel
theorem dX6_fits_41 : decode cX6_fits 41 = .ok (.iconst 0, 1) := by decide +kernel
theorem dX6_fits_42 : decode cX6_fits 42 = .ok (.goto 20, 3) := by decide +kernel
theorem dX6_fits_45 : decode cX6_fits 45 = .ok (.aload_n 1, 1) := by decide +kernel
theorem dX6_fits_46 : decode cX6_fits 46 = .ok (.iload 6, 2) := by decide +kernel
theorem dX6_fits_48 : decode cX6_fits 48 = .ok (.aload_n 0, 1) := by decide +kernel
theorem dX6_fits_49 : decode cX6_fits 49 = .ok (.getfield 29, 3) := by decide +kernel
theorem dX6_fits_52 : decode cX6_fits 52 = .ok (.iload 6, 2) := by decide +kernel
theorem dX6_fits_54 : decode cX6_fits 54 = .ok (.iaload, 1) := by decide +kernel
theorem dX6_fits_55 : decode cX6_fits 55 = .ok (.iconst 1, 1) := by decide +kernel
theorem dX6_fits_56 : decode cX6_fits 56 = .ok (.isub, 1) := by decide +kernel
theorem dX6_fits_57 : decode cX6_fits 57 = .ok (.iload 4, 2) := by decide +kernel
theorem dX6_fits_59 : decode cX6_fits 59 = .ok (.invokestatic 91, 3) := by decide +kernel
theorem dX6_fits_62 : decode cX6_fits 62 = .ok (.iadd, 1) := by decide +kernel
theorem dX6_fits_63 : decode cX6_fits 63 = .ok (.istore 5, 2) := by decide +kernel
theorem dX6_fits_65 : decode cX6_fits 65 = .ok (.iinc 6 1, 3) := by decide +kernel
theorem dX6_fits_68 : decode cX6_fits 68 = .ok (.goto (-47), 3) := by decide +kernel
theorem dX6_fits_71 : decode cX6_fits 71 = .ok (.iload 5, 2) := by decide +kernel
theorem dX6_fits_73 : decode cX6_fits 73 = .ok (.aload_n 1, 1) := by decide +kernel
theorem dX6_fits_74 : decode cX6_fits 74 = .ok (.iconst 5, 1) := by decide +kernel
theorem dX6_fits_75 : decode cX6_fits 75 = .ok (.iload 4, 2) := by decide +kernel
theorem dX6_fits_77 : decode cX6_fits 77 = .ok (.iadd, 1) := by decide +kernel
theorem dX6_fits_78 : decode cX6_fits 78 = .ok (.iaload, 1) := by decide +kernel
theorem dX6_fits_79 : decode cX6_fits 79 = .ok (.iload_n 2, 1) := by decide +kernel
theorem dX6_fits_80 : decode cX6_fits 80 = .ok (.iload 4, 2) := by decide +kernel
theorem dX6_fits_82 : decode cX6_fits 82 = .ok (.if_icmp .ne 7, 3) := by decide +kernel
theorem dX6_fits_85 : decode cX6_fits 85 = .ok (.iconst 1, 1) := by decide +kernel
theorem dX6_fits_86 : decode cX6_fits 86 = .ok (.goto 4, 3) := by decide +kernel
theorem dX6_fits_89 : decode cX6_fits 89 = .ok (.iconst 0, 1) := by decide +kernel
theorem dX6_fits_90 : decode cX6_fits 90 = .ok (.iadd, 1) := by decide +kernel
theorem dX6_fits_91 : decode cX6_fits 91 = .ok (.if_icmp .gt 7, 3) := by decide +kernel
theorem dX6_fits_94 : decode cX6_fits 94 = .ok (.iconst 1, 1) := by decide +kernel
theorem dX6_fits_95 : decode cX6_fits 95 = .ok (.goto 4, 3) := by decide +kernel
theorem dX6_fits_98 : decode cX6_fits 98 = .ok (.iconst 0, 1) := by decide +kernel
theorem dX6_fits_99 : decode cX6_fits 99 = .ok (.istore_n 3, 1) := by decide +kernel
theorem dX6_fits_100 : decode cX6_fits 100 = .ok (.iinc 4 1, 3) := by decide +kernel
theorem dX6_fits_103 : decode cX6_fits 103 = .ok (.goto (-98), 3) := by decide +kernel
theorem dX6_fits_106 : decode cX6_fits 106 = .ok (.iload_n 3, 1) := by decide +kernel
theorem dX6_fits_107 : decode cX6_fits 107 = .ok (.ireturn, 1) := by decide +kernel
theorem dX6_assign_0 : decode cX6_assign 0 = .ok (.iconst (-1), 1) := by decide +kernel
theorem dX6_assign_1 : decode cX6_assign 1 = .ok (.istore 4, 2) := by decide +kernel
theorem dX6_assign_3 : decode cX6_assign 3 = .ok (.iconst 1, 1) := by decide +kernel
theorem dX6_assign_4 : decode cX6_assign 4 = .ok (.istore 5, 2) := by decide +kernel
theorem dX6_assign_6 : decode cX6_assign 6 = .ok (.iconst 0, 1) := by decide +kernel
theorem dX6_assign_7 : decode cX6_assign 7 = .ok (.istore 6, 2) := by decide +kernel
theorem dX6_assign_9 : decode cX6_assign 9 = .ok (.iload 6, 2) := by decide +kernel
theorem dX6_assign_11 : decode cX6_assign 11 = .ok (.aload_n 1, 1) := by decide +kernel
theorem dX6_assign_12 : decode cX6_assign 12 = .ok (.iconst 4, 1) := by decide +kernel
theorem dX6_assign_13 : decode cX6_assign 13 = .ok (.iaload, 1) := by decide +kernel
theorem dX6_assign_14 : decode cX6_assign 14 = .ok (.if_icmp .ge 15, 3) := by decide +kernel
theorem dX6_assign_17 : decode cX6_assign 17 = .ok (.iload 5, 2) := by decide +kernel
theorem dX6_assign_19 : decode cX6_assign 19 = .ok (.iconst 5, 1) := by decide +kernel
theorem dX6_assign_20 : decode cX6_assign 20 = .ok (.imul, 1) := by decide +kernel
theorem dX6_assign_21 : decode cX6_assign 21 = .ok (.istore 5, 2) := by decide +kernel
theorem dX6_assign_23 : decode cX6_assign 23 = .ok (.iinc 6 1, 3) := by decide +kernel
theorem dX6_assign_26 : decode cX6_assign 26 = .ok (.goto (-17), 3) := by decide +kernel
theorem dX6_assign_29 : decode cX6_assign 29 = .ok (.iconst 0, 1) := by decide +kernel
theorem dX6_assign_30 : decode cX6_assign 30 = .ok (.istore 6, 2) := by decide +kernel
theorem dX6_assign_32 : decode cX6_assign 32 = .ok (.iload 6, 2) := by decide +kernel
theorem dX6_assign_34 : decode cX6_assign 34 = .ok (.iload 5, 2) := by decide +kernel
theorem dX6_assign_36 : decode cX6_assign 36 = .ok (.if_icmp .ge 200, 3) := by decide +kernel
theorem dX6_assign_39 : decode cX6_assign 39 = .ok (.iload 6, 2) := by decide +kernel
theorem dX6_assign_41 : decode cX6_assign 41 = .ok (.istore 7, 2) := by decide +kernel
theorem dX6_assign_43 : decode cX6_assign 43 = .ok (.iconst 1, 1) := by decide +kernel
theorem dX6_assign_44 : decode cX6_assign 44 = .ok (.istore 8, 2) := by decide +kernel
theorem dX6_assign_46 : decode cX6_assign 46 = .ok (.iconst 0, 1) := by decide +kernel
theorem dX6_assign_47 : decode cX6_assign 47 = .ok (.istore 9, 2) := by decide +kernel
theorem dX6_assign_49 : decode cX6_assign 49 = .ok (.aload_n 1, 1) := by decide +kernel
theorem dX6_assign_50 : decode cX6_assign 50 = .ok (.iconst 4, 1) := by decide +kernel
theorem dX6_assign_51 : decode cX6_assign 51 = .ok (.iaload, 1) := by decide +kernel
theorem dX6_assign_52 : decode cX6_assign 52 = .ok (.iconst 1, 1) := by decide +kernel
theorem dX6_assign_53 : decode cX6_assign 53 = .ok (.isub, 1) := by decide +kernel
theorem dX6_assign_54 : decode cX6_assign 54 = .ok (.istore 10, 2) := by decide +kernel
theorem dX6_assign_56 : decode cX6_assign 56 = .ok (.iload 10, 2) := by decide +kernel
theorem dX6_assign_58 : decode cX6_assign 58 = .ok (.ifCond .lt 116, 3) := by decide +kernel
theorem dX6_assign_61 : decode cX6_assign 61 = .ok (.aload_n 0, 1) := by decide +kernel
theorem dX6_assign_62 : decode cX6_assign 62 = .ok (.getfield 29, 3) := by decide +kernel
theorem dX6_assign_65 : decode cX6_assign 65 = .ok (.iload 10, 2) := by decide +kernel
theorem dX6_assign_67 : decode cX6_assign 67 = .ok (.iload 7, 2) := by decide +kernel
theorem dX6_assign_69 : decode cX6_assign 69 = .ok (.iconst 5, 1) := by decide +kernel
theorem dX6_assign_70 : decode cX6_assign 70 = .ok (.irem, 1) := by decide +kernel
theorem dX6_assign_71 : decode cX6_assign 71 = .ok (.iastore, 1) := by decide +kernel
theorem dX6_assign_72 : decode cX6_assign 72 = .ok (.iload 7, 2) := by decide +kernel
theorem dX6_assign_74 : decode cX6_assign 74 = .ok (.iconst 5, 1) := by decide +kernel
theorem dX6_assign_75 : decode cX6_assign 75 = .ok (.idiv, 1) := by decide +kernel
theorem dX6_assign_76 : decode cX6_assign 76 = .ok (.istore 7, 2) := by decide +kernel
theorem dX6_assign_78 : decode cX6_assign 78 = .ok (.iload 8, 2) := by decide +kernel
theorem dX6_assign_80 : decode cX6_assign 80 = .ok (.ifCond .eq 45, 3) := by decide +kernel
theorem dX6_assign_83 : decode cX6_assign 83 = .ok (.aload_n 0, 1) := by decide +kernel
theorem dX6_assign_84 : decode cX6_assign 84 = .ok (.getfield 29, 3) := by decide +kernel
theorem dX6_assign_87 : decode cX6_assign 87 = .ok (.iload 10, 2) := by decide +kernel
theorem dX6_assign_89 : decode cX6_assign 89 = .ok (.iaload, 1) := by decide +kernel
theorem dX6_assign_90 : decode cX6_assign 90 = .ok (.aload_n 1, 1) := by decide +kernel
theorem dX6_assign_91 : decode cX6_assign 91 = .ok (.iload 10, 2) := by decide +kernel
theorem dX6_assign_93 : decode cX6_assign 93 = .ok (.invokestatic 49, 3) := by decide +kernel
theorem dX6_assign_96 : decode cX6_assign 96 = .ok (.bipush 8, 2) := by decide +kernel
theorem dX6_assign_98 : decode cX6_assign 98 = .ok (.iadd, 1) := by decide +kernel
theorem dX6_assign_99 : decode cX6_assign 99 = .ok (.iaload, 1) := by decide +kernel
theorem dX6_assign_100 : decode cX6_assign 100 = .ok (.iconst 1, 1) := by decide +kernel
theorem dX6_assign_101 : decode cX6_assign 101 = .ok (.iadd, 1) := by decide +kernel
theorem dX6_assign_102 : decode cX6_assign 102 = .ok (.if_icmp .gt 23, 3) := by decide +kernel
theorem dX6_assign_105 : decode cX6_assign 105 = .ok (.iload 10, 2) := by decide +kernel
theorem dX6_assign_107 : decode cX6_assign 107 = .ok (.iload_n 2, 1) := by decide +kernel
theorem dX6_assign_108 : decode cX6_assign 108 = .ok (.if_icmp .ne 13, 3) := by decide +kernel
theorem dX6_assign_111 : decode cX6_assign 111 = .ok (.aload_n 0, 1) := by decide +kernel
theorem dX6_assign_112 : decode cX6_assign 112 = .ok (.getfield 29, 3) := by decide +kernel
theorem dX6_assign_115 : decode cX6_assign 115 = .ok (.iload 10, 2) := by decide +kernel
theorem dX6_assign_117 : decode cX6_assign 117 = .ok (.iaload, 1) := by decide +kernel
theorem dX6_assign_118 : decode cX6_assign 118 = .ok (.ifCond .ne 7, 3) := by decide +kernel
theorem dX6_assign_121 : decode cX6_assign 121 = .ok (.iconst 1, 1) := by decide +kernel
theorem dX6_assign_122 : decode cX6_assign 122 = .ok (.goto 4, 3) := by decide +kernel
theorem dX6_assign_125 : decode cX6_assign 125 = .ok (.iconst 0, 1) := by decide +kernel
theorem dX6_assign_126 : decode cX6_assign 126 = .ok (.istore 8, 2) := by decide +kernel
theorem dX6_assign_128 : decode cX6_assign 128 = .ok (.iload 9, 2) := by decide +kernel
theorem dX6_assign_130 : decode cX6_assign 130 = .ok (.iload 8, 2) := by decide +kernel
theorem dX6_assign_132 : decode cX6_assign 132 = .ok (.ifCond .eq 13, 3) := by decide +kernel
theorem dX6_assign_135 : decode cX6_assign 135 = .ok (.aload_n 0, 1) := by decide +kernel
theorem dX6_assign_136 : decode cX6_assign 136 = .ok (.getfield 29, 3) := by decide +kernel
theorem dX6_assign_139 : decode cX6_assign 139 = .ok (.iload 10, 2) := by decide +kernel
theorem dX6_assign_141 : decode cX6_assign 141 = .ok (.iaload, 1) := by decide +kernel
theorem dX6_assign_142 : decode cX6_assign 142 = .ok (.ifCond .ne 7, 3) := by decide +kernel
theorem dX6_assign_145 : decode cX6_assign 145 = .ok (.iconst 0, 1) := by decide +kernel
theorem dX6_assign_146 : decode cX6_assign 146 = .ok (.goto 19, 3) := by decide +kernel
theorem dX6_assign_149 : decode cX6_assign 149 = .ok (.aload_n 1, 1) := by decide +kernel
theorem dX6_assign_150 : decode cX6_assign 150 = .ok (.iload 10, 2) := by decide +kernel
theorem dX6_assign_152 : decode cX6_assign 152 = .ok (.aload_n 0, 1) := by decide +kernel
theorem dX6_assign_153 : decode cX6_assign 153 = .ok (.getfield 29, 3) := by decide +kernel
theorem dX6_assign_156 : decode cX6_assign 156 = .ok (.iload 10, 2) := by decide +kernel
theorem dX6_assign_158 : decode cX6_assign 158 = .ok (.iaload, 1) := by decide +kernel
theorem dX6_assign_159 : decode cX6_assign 159 = .ok (.iconst 1, 1) := by decide +kernel
theorem dX6_assign_160 : decode cX6_assign 160 = .ok (.isub, 1) := by decide +kernel
theorem dX6_assign_161 : decode cX6_assign 161 = .ok (.iconst 3, 1) := by decide +kernel
theorem dX6_assign_162 : decode cX6_assign 162 = .ok (.invokestatic 91, 3) := by decide +kernel
theorem dX6_assign_165 : decode cX6_assign 165 = .ok (.iadd, 1) := by decide +kernel
theorem dX6_assign_166 : decode cX6_assign 166 = .ok (.istore 9, 2) := by decide +kernel
theorem dX6_assign_168 : decode cX6_assign 168 = .ok (.iinc 10 (-1), 3) := by decide +kernel
theorem dX6_assign_171 : decode cX6_assign 171 = .ok (.goto (-115), 3) := by decide +kernel
theorem dX6_assign_174 : decode cX6_assign 174 = .ok (.iload 8, 2) := by decide +kernel
theorem dX6_assign_176 : decode cX6_assign 176 = .ok (.ifCond .eq 54, 3) := by decide +kernel
theorem dX6_assign_179 : decode cX6_assign 179 = .ok (.iload 9, 2) := by decide +kernel
theorem dX6_assign_181 : decode cX6_assign 181 = .ok (.iload 4, 2) := by decide +kernel
theorem dX6_assign_183 : decode cX6_assign 183 = .ok (.if_icmp .le 47, 3) := by decide +kernel
theorem dX6_assign_186 : decode cX6_assign 186 = .ok (.aload_n 0, 1) := by decide +kernel
theorem dX6_assign_187 : decode cX6_assign 187 = .ok (.aload_n 1, 1) := by decide +kernel
theorem dX6_assign_188 : decode cX6_assign 188 = .ok (.iload_n 3, 1) := by decide +kernel
theorem dX6_assign_189 : decode cX6_assign 189 = .ok (.invokevirtual 95, 3) := by decide +kernel
theorem dX6_assign_192 : decode cX6_assign 192 = .ok (.ifCond .eq 38, 3) := by decide +kernel
theorem dX6_assign_195 : decode cX6_assign 195 = .ok (.iload 9, 2) := by decide +kernel
theorem dX6_assign_197 : decode cX6_assign 197 = .ok (.istore 4, 2) := by decide +kernel
theorem dX6_assign_199 : decode cX6_assign 199 = .ok (.iconst 0, 1) := by decide +kernel
theorem dX6_assign_200 : decode cX6_assign 200 = .ok (.istore 10, 2) := by decide +kernel
theorem dX6_assign_202 : decode cX6_assign 202 = .ok (.iload 10, 2) := by decide +kernel
theorem dX6_assign_204 : decode cX6_assign 204 = .ok (.aload_n 1, 1) := by decide +kernel
theorem dX6_assign_205 : decode cX6_assign 205 = .ok (.iconst 4, 1) := by decide +kernel
theorem dX6_assign_206 : decode cX6_assign 206 = .ok (.iaload, 1) := by decide +kernel
theorem dX6_assign_207 : decode cX6_assign 207 = .ok (.if_icmp .ge 23, 3) := by decide +kernel
theorem dX6_assign_210 : decode cX6_assign 210 = .ok (.aload_n 0, 1) := by decide +kernel
theorem dX6_assign_211 : decode cX6_assign 211 = .ok (.getfield 32, 3) := by decide +kernel
theorem dX6_assign_214 : decode cX6_assign 214 = .ok (.iload 10, 2) := by decide +kernel
theorem dX6_assign_216 : decode cX6_assign 216 = .ok (.aload_n 0, 1) := by decide +kernel
theorem dX6_assign_217 : decode cX6_assign 217 = .ok (.getfield 29, 3) := by decide +kernel
theorem dX6_assign_220 : decode cX6_assign 220 = .ok (.iload 10, 2) := by decide +kernel
theorem dX6_assign_222 : decode cX6_assign 222 = .ok (.iaload, 1) := by decide +kernel
theorem dX6_assign_223 : decode cX6_assign 223 = .ok (.iastore, 1) := by decide +kernel
theorem dX6_assign_224 : decode cX6_assign 224 = .ok (.iinc 10 1, 3) := by decide +kernel
theorem dX6_assign_227 : decode cX6_assign 227 = .ok (.goto (-25), 3) := by decide +kernel
theorem dX6_assign_230 : decode cX6_assign 230 = .ok (.iinc 6 1, 3) := by decide +kernel
theorem dX6_assign_233 : decode cX6_assign 233 = .ok (.goto (-201), 3) := by decide +kernel
theorem dX6_assign_236 : decode cX6_assign 236 = .ok (.iload 4, 2) := by decide +kernel
theorem dX6_assign_238 : decode cX6_assign 238 = .ok (.ireturn, 1) := by decide +kernel
theorem dX6_append_0 : decode cX6_append 0 = .ok (.aload_n 0, 1) := by decide +kernel
theorem dX6_append_1 : decode cX6_append 1 = .ok (.iload_n 1, 1) := by decide +kernel
theorem dX6_append_2 : decode cX6_append 2 = .ok (.i2l, 1) := by decide +kernel
theorem dX6_append_3 : decode cX6_append 3 = .ok (.lconst 0, 1) := by decide +kernel
theorem dX6_append_4 : decode cX6_append 4 = .ok (.ldc2_w 98, 3) := by decide +kernel
theorem dX6_append_7 : decode cX6_append 7 = .ok (.invokestatic 45, 3) := by decide +kernel
theorem dX6_append_10 : decode cX6_append 10 = .ok (.ifCond .ne 7, 3) := by decide +kernel
theorem dX6_append_13 : decode cX6_append 13 = .ok (.iconst 1, 1) := by decide +kernel
theorem dX6_append_14 : decode cX6_append 14 = .ok (.goto 17, 3) := by decide +kernel
theorem dX6_append_17 : decode cX6_append 17 = .ok (.aload_n 0, 1) := by decide +kernel
theorem dX6_append_18 : decode cX6_append 18 = .ok (.getfield 100, 3) := by decide +kernel
theorem dX6_append_21 : decode cX6_append 21 = .ok (.bipush 120, 2) := by decide +kernel
theorem dX6_append_23 : decode cX6_append 23 = .ok (.if_icmp .ne 7, 3) := by decide +kernel
theorem dX6_append_26 : decode cX6_append 26 = .ok (.iconst 2, 1) := by decide +kernel
theorem dX6_append_27 : decode cX6_append 27 = .ok (.goto 4, 3) := by decide +kernel
theorem dX6_append_30 : decode cX6_append 30 = .ok (.iconst 0, 1) := by decide +kernel
theorem dX6_append_31 : decode cX6_append 31 = .ok (.invokevirtual 103, 3) := by decide +kernel
theorem dX6_append_34 : decode cX6_append 34 = .ok (.ifCond .eq 5, 3) := by decide +kernel
theorem dX6_append_37 : decode cX6_append 37 = .ok (.iconst 0, 1) := by decide +kernel
theorem dX6_append_38 : decode cX6_append 38 = .ok (.ireturn, 1) := by decide +kernel
theorem dX6_append_39 : decode cX6_append 39 = .ok (.aload_n 0, 1) := by decide +kernel
theorem dX6_append_40 : decode cX6_append 40 = .ok (.getfield 7, 3) := by decide +kernel
theorem dX6_append_43 : decode cX6_append 43 = .ok (.aload_n 0, 1) := by decide +kernel
theorem dX6_append_44 : decode cX6_append 44 = .ok (.getfield 100, 3) := by decide +kernel
theorem dX6_append_47 : decode cX6_append 47 = .ok (.iload_n 1, 1) := by decide +kernel
theorem dX6_append_48 : decode cX6_append 48 = .ok (.iastore, 1) := by decide +kernel
theorem dX6_append_49 : decode cX6_append 49 = .ok (.aload_n 0, 1) := by decide +kernel
theorem dX6_append_50 : decode cX6_append 50 = .ok (.dup, 1) := by decide +kernel
theorem dX6_append_51 : decode cX6_append 51 = .ok (.getfield 100, 3) := by decide +kernel
theorem dX6_append_54 : decode cX6_append 54 = .ok (.iconst 1, 1) := by decide +kernel
theorem dX6_append_55 : decode cX6_append 55 = .ok (.iadd, 1) := by decide +kernel
theorem dX6_append_56 : decode cX6_append 56 = .ok (.putfield 100, 3) := by decide +kernel
theorem dX6_append_59 : decode cX6_append 59 = .ok (.aload_n 0, 1) := by decide +kernel
theorem dX6_append_60 : decode cX6_append 60 = .ok (.getfield 100, 3) := by decide +kernel
theorem dX6_append_63 : decode cX6_append 63 = .ok (.ireturn, 1) := by decide +kernel
theorem dX6_clearText_0 : decode cX6_clearText 0 = .ok (.aload_n 0, 1) := by decide +kernel
theorem dX6_clearText_1 : decode cX6_clearText 1 = .ok (.iconst 0, 1) := by decide +kernel
theorem dX6_clearText_2 : decode cX6_clearText 2 = .ok (.putfield 39, 3) := by decide +kernel
theorem dX6_clearText_5 : decode cX6_clearText 5 = .ok (.aload_n 0, 1) := by decide +kernel
theorem dX6_clearText_6 : decode cX6_clearText 6 = .ok (.getfield 100, 3) := by decide +kernel
theorem dX6_clearText_9 : decode cX6_clearText 9 = .ok (.istore_n 1, 1) := by decide +kernel
theorem dX6_clearText_10 : decode cX6_clearText 10 = .ok (.aload_n 0, 1) := by decide +kernel
theorem dX6_clearText_11 : decode cX6_clearText 11 = .ok (.iconst 0, 1) := by decide +kernel
theorem dX6_clearText_12 : decode cX6_clearText 12 = .ok (.putfield 100, 3) := by decide +kernel
theorem dX6_clearText_15 : decode cX6_clearText 15 = .ok (.iload_n 1, 1) := by decide +kernel
theorem dX6_clearText_16 : decode cX6_clearText 16 = .ok (.ireturn, 1) := by decide +kernel
theorem dX6_figure_0 : decode cX6_figure 0 = .ok (.aload_n 0, 1) := by decide +kernel
theorem dX6_figure_1 : decode cX6_figure 1 = .ok (.getfield 106, 3) := by decide +kernel
theorem dX6_figure_4 : decode cX6_figure 4 = .ok (.aload_n 0, 1) := by decide +kernel
theorem dX6_figure_5 : decode cX6_figure 5 = .ok (.getfield 100, 3) := by decide +kernel
theorem dX6_figure_8 : decode cX6_figure 8 = .ok (.if_icmp .ge 18, 3) := by decide +kernel
theorem dX6_figure_11 : decode cX6_figure 11 = .ok (.aload_n 0, 1) := by decide +kernel
theorem dX6_figure_12 : decode cX6_figure 12 = .ok (.getfield 7, 3) := by decide +kernel
theorem dX6_figure_15 : decode cX6_figure 15 = .ok (.aload_n 0, 1) := by decide +kernel
theorem dX6_figure_16 : decode cX6_figure 16 = .ok (.getfield 106, 3) := by decide +kernel
theorem dX6_figure_19 : decode cX6_figure 19 = .ok (.iaload, 1) := by decide +kernel
theorem dX6_figure_20 : decode cX6_figure 20 = .ok (.bipush 48, 2) := by decide +kernel
theorem dX6_figure_22 : decode cX6_figure 22 = .ok (.isub, 1) := by decide +kernel
theorem dX6_figure_23 : decode cX6_figure 23 = .ok (.goto 4, 3) := by decide +kernel
theorem dX6_figure_26 : decode cX6_figure 26 = .ok (.iconst (-1), 1) := by decide +kernel
theorem dX6_figure_27 : decode cX6_figure 27 = .ok (.istore_n 3, 1) := by decide +kernel
theorem dX6_figure_28 : decode cX6_figure 28 = .ok (.iload_n 3, 1) := by decide +kernel
theorem dX6_figure_29 : decode cX6_figure 29 = .ok (.i2l, 1) := by decide +kernel
theorem dX6_figure_30 : decode cX6_figure 30 = .ok (.iload_n 1, 1) := by decide +kernel
theorem dX6_figure_31 : decode cX6_figure 31 = .ok (.i2l, 1) := by decide +kernel
theorem dX6_figure_32 : decode cX6_figure 32 = .ok (.iload_n 2, 1) := by decide +kernel
theorem dX6_figure_33 : decode cX6_figure 33 = .ok (.i2l, 1) := by decide +kernel
theorem dX6_figure_34 : decode cX6_figure 34 = .ok (.invokestatic 45, 3) := by decide +kernel
theorem dX6_figure_37 : decode cX6_figure 37 = .ok (.ifCond .ne 5, 3) := by decide +kernel
theorem dX6_figure_40 : decode cX6_figure 40 = .ok (.iconst (-1), 1) := by decide +kernel
theorem dX6_figure_41 : decode cX6_figure 41 = .ok (.ireturn, 1) := by decide +kernel
theorem dX6_figure_42 : decode cX6_figure 42 = .ok (.aload_n 0, 1) := by decide +kernel
theorem dX6_figure_43 : decode cX6_figure 43 = .ok (.dup, 1) := by decide +kernel
theorem dX6_figure_44 : decode cX6_figure 44 = .ok (.getfield 106, 3) := by decide +kernel
theorem dX6_figure_47 : decode cX6_figure 47 = .ok (.iconst 1, 1) := by decide +kernel
theorem dX6_figure_48 : decode cX6_figure 48 = .ok (.iadd, 1) := by decide +kernel
theorem dX6_figure_49 : decode cX6_figure 49 = .ok (.putfield 106, 3) := by decide +kernel
theorem dX6_figure_52 : decode cX6_figure 52 = .ok (.iload_n 3, 1) := by decide +kernel
theorem dX6_figure_53 : decode cX6_figure 53 = .ok (.ireturn, 1) := by decide +kernel
theorem dX6_figures_0 : decode cX6_figures 0 = .ok (.iload_n 1, 1) := by decide +kernel
theorem dX6_figures_1 : decode cX6_figures 1 = .ok (.iconst (-1), 1) := by decide +kernel
theorem dX6_figures_2 : decode cX6_figures 2 = .ok (.if_icmp .ne 7, 3) := by decide +kernel
theorem dX6_figures_5 : decode cX6_figures 5 = .ok (.iconst (-1), 1) := by decide +kernel
theorem dX6_figures_6 : decode cX6_figures 6 = .ok (.goto 4, 3) := by decide +kernel
theorem dX6_figures_9 : decode cX6_figures 9 = .ok (.iconst 0, 1) := by decide +kernel
theorem dX6_figures_10 : decode cX6_figures 10 = .ok (.istore_n 3, 1) := by decide +kernel
theorem dX6_figures_11 : decode cX6_figures 11 = .ok (.iconst 0, 1) := by decide +kernel
theorem dX6_figures_12 : decode cX6_figures 12 = .ok (.istore 4, 2) := by decide +kernel
theorem dX6_figures_14 : decode cX6_figures 14 = .ok (.iload 4, 2) := by decide +kernel
theorem dX6_figures_16 : decode cX6_figures 16 = .ok (.iload_n 2, 1) := by decide +kernel
theorem dX6_figures_17 : decode cX6_figures 17 = .ok (.if_icmp .ge 41, 3) := by decide +kernel
theorem dX6_figures_20 : decode cX6_figures 20 = .ok (.iload_n 3, 1) := by decide +kernel
theorem dX6_figures_21 : decode cX6_figures 21 = .ok (.iconst (-1), 1) := by decide +kernel
theorem dX6_figures_22 : decode cX6_figures 22 = .ok (.if_icmp .eq 36, 3) := by decide +kernel
theorem dX6_figures_25 : decode cX6_figures 25 = .ok (.aload_n 0, 1) := by decide +kernel
theorem dX6_figures_26 : decode cX6_figures 26 = .ok (.iconst 0, 1) := by decide +kernel
theorem dX6_figures_27 : decode cX6_figures 27 = .ok (.bipush 9, 2) := by decide +kernel
theorem dX6_figures_29 : decode cX6_figures 29 = .ok (.invokevirtual 109, 3) := by decide +kernel
theorem dX6_figures_32 : decode cX6_figures 32 = .ok (.istore 5, 2) := by decide +kernel
theorem dX6_figures_34 : decode cX6_figures 34 = .ok (.iload 5, 2) := by decide +kernel
theorem dX6_figures_36 : decode cX6_figures 36 = .ok (.iconst (-1), 1) := by decide +kernel
theorem dX6_figures_37 : decode cX6_figures 37 = .ok (.if_icmp .ne 7, 3) := by decide +kernel
theorem dX6_figures_40 : decode cX6_figures 40 = .ok (.iconst (-1), 1) := by decide +kernel
theorem dX6_figures_41 : decode cX6_figures 41 = .ok (.goto 10, 3) := by decide +kernel
theorem dX6_figures_44 : decode cX6_figures 44 = .ok (.bipush 10, 2) := by decide +kernel
theorem dX6_figures_46 : decode cX6_figures 46 = .ok (.iload_n 3, 1) := by decide +kernel
theorem dX6_figures_47 : decode cX6_figures 47 = .ok (.imul, 1) := by decide +kernel
theorem dX6_figures_48 : decode cX6_figures 48 = .ok (.iload 5, 2) := by decide +kernel
theorem dX6_figures_50 : decode cX6_figures 50 = .ok (.iadd, 1) := by decide +kernel
theorem dX6_figures_51 : decode cX6_figures 51 = .ok (.istore_n 3, 1) := by decide +kernel
theorem dX6_figures_52 : decode cX6_figures 52 = .ok (.iinc 4 1, 3) := by decide +kernel
theorem dX6_figures_55 : decode cX6_figures 55 = .ok (.goto (-41), 3) := by decide +kernel
theorem dX6_figures_58 : decode cX6_figures 58 = .ok (.iload_n 3, 1) := by decide +kernel
theorem dX6_figures_59 : decode cX6_figures 59 = .ok (.ireturn, 1) := by decide +kernel
theorem dX6_does_0 : decode cX6_does 0 = .ok (.iload_n 1, 1) := by decide +kernel
theorem dX6_does_1 : decode cX6_does 1 = .ok (.lookupswitch 186 #[(98, 81), (113, 133), (115, 51), (118, 105), (119, 161)], 51) := by decide +kernel
theorem dX6_does_52 : decode cX6_does 52 = .ok (.aload_n 0, 1) := by decide +kernel
theorem dX6_does_53 : decode cX6_does 53 = .ok (.iconst 0, 1) := by decide +kernel
theorem dX6_does_54 : decode cX6_does 54 = .ok (.iaload, 1) := by decide +kernel
theorem dX6_does_55 : decode cX6_does 55 = .ok (.ifCond .gt 9, 3) := by decide +kernel
theorem dX6_does_58 : decode cX6_does 58 = .ok (.aload_n 0, 1) := by decide +kernel
theorem dX6_does_59 : decode cX6_does 59 = .ok (.iconst 4, 1) := by decide +kernel
theorem dX6_does_60 : decode cX6_does 60 = .ok (.iaload, 1) := by decide +kernel
theorem dX6_does_61 : decode cX6_does 61 = .ok (.ifCond .le 5, 3) := by decide +kernel
theorem dX6_does_64 : decode cX6_does 64 = .ok (.iconst 0, 1) := by decide +kernel
theorem dX6_does_65 : decode cX6_does 65 = .ok (.ireturn, 1) := by decide +kernel
theorem dX6_does_66 : decode cX6_does 66 = .ok (.aload_n 0, 1) := by decide +kernel
theorem dX6_does_67 : decode cX6_does 67 = .ok (.iconst 5, 1) := by decide +kernel
theorem dX6_does_68 : decode cX6_does 68 = .ok (.iload_n 2, 1) := by decide +kernel
theorem dX6_does_69 : decode cX6_does 69 = .ok (.iadd, 1) := by decide +kernel
theorem dX6_does_70 : decode cX6_does 70 = .ok (.iload_n 3, 1) := by decide +kernel
theorem dX6_does_71 : decode cX6_does 71 = .ok (.iastore, 1) := by decide +kernel
theorem dX6_does_72 : decode cX6_does 72 = .ok (.aload_n 0, 1) := by decide +kernel
theorem dX6_does_73 : decode cX6_does 73 = .ok (.bipush 8, 2) := by decide +kernel
theorem dX6_does_75 : decode cX6_does 75 = .ok (.iload_n 2, 1) := by decide +kernel
theorem dX6_does_76 : decode cX6_does 76 = .ok (.iadd, 1) := by decide +kernel
theorem dX6_does_77 : decode cX6_does 77 = .ok (.iload 4, 2) := by decide +kernel
theorem dX6_does_79 : decode cX6_does 79 = .ok (.iastore, 1) := by decide +kernel
theorem dX6_does_80 : decode cX6_does 80 = .ok (.iconst 1, 1) := by decide +kernel
theorem dX6_does_81 : decode cX6_does 81 = .ok (.ireturn, 1) := by decide +kernel
theorem dX6_does_82 : decode cX6_does 82 = .ok (.aload_n 0, 1) := by decide +kernel
theorem dX6_does_83 : decode cX6_does 83 = .ok (.iload_n 2, 1) := by decide +kernel
theorem dX6_does_84 : decode cX6_does 84 = .ok (.iload_n 3, 1) := by decide +kernel
theorem dX6_does_85 : decode cX6_does 85 = .ok (.invokestatic 112, 3) := by decide +kernel
theorem dX6_does_88 : decode cX6_does 88 = .ok (.ifCond .ne 16, 3) := by decide +kernel
theorem dX6_does_91 : decode cX6_does 91 = .ok (.aload_n 0, 1) := by decide +kernel
theorem dX6_does_92 : decode cX6_does 92 = .ok (.iload_n 2, 1) := by decide +kernel
theorem dX6_does_93 : decode cX6_does 93 = .ok (.iload_n 3, 1) := by decide +kernel
theorem dX6_does_94 : decode cX6_does 94 = .ok (.invokestatic 116, 3) := by decide +kernel
theorem dX6_does_97 : decode cX6_does 97 = .ok (.ifCond .lt 7, 3) := by decide +kernel
theorem dX6_does_100 : decode cX6_does 100 = .ok (.iconst 1, 1) := by decide +kernel
theorem dX6_does_101 : decode cX6_does 101 = .ok (.goto 4, 3) := by decide +kernel
theorem dX6_does_104 : decode cX6_does 104 = .ok (.iconst 0, 1) := by decide +kernel
theorem dX6_does_105 : decode cX6_does 105 = .ok (.ireturn, 1) := by decide +kernel
theorem dX6_does_106 : decode cX6_does 106 = .ok (.aload_n 0, 1) := by decide +kernel
theorem dX6_does_107 : decode cX6_does 107 = .ok (.iload_n 2, 1) := by decide +kernel
theorem dX6_does_108 : decode cX6_does 108 = .ok (.iload_n 3, 1) := by decide +kernel
theorem dX6_does_109 : decode cX6_does 109 = .ok (.iload 4, 2) := by decide +kernel
theorem dX6_does_111 : decode cX6_does 111 = .ok (.invokestatic 119, 3) := by decide +kernel
theorem dX6_does_114 : decode cX6_does 114 = .ok (.ifCond .ne 18, 3) := by decide +kernel
theorem dX6_does_117 : decode cX6_does 117 = .ok (.aload_n 0, 1) := by decide +kernel
theorem dX6_does_118 : decode cX6_does 118 = .ok (.iload_n 2, 1) := by decide +kernel
theorem dX6_does_119 : decode cX6_does 119 = .ok (.iload_n 3, 1) := by decide +kernel
theorem dX6_does_120 : decode cX6_does 120 = .ok (.iload 4, 2) := by decide +kernel
theorem dX6_does_122 : decode cX6_does 122 = .ok (.invokestatic 122, 3) := by decide +kernel
theorem dX6_does_125 : decode cX6_does 125 = .ok (.ifCond .lt 7, 3) := by decide +kernel
theorem dX6_does_128 : decode cX6_does 128 = .ok (.iconst 1, 1) := by decide +kernel
theorem dX6_does_129 : decode cX6_does 129 = .ok (.goto 4, 3) := by decide +kernel
theorem dX6_does_132 : decode cX6_does 132 = .ok (.iconst 0, 1) := by decide +kernel
theorem dX6_does_133 : decode cX6_does 133 = .ok (.ireturn, 1) := by decide +kernel
theorem dX6_does_134 : decode cX6_does 134 = .ok (.aload_n 0, 1) := by decide +kernel
theorem dX6_does_135 : decode cX6_does 135 = .ok (.iload_n 2, 1) := by decide +kernel
theorem dX6_does_136 : decode cX6_does 136 = .ok (.iload_n 3, 1) := by decide +kernel
theorem dX6_does_137 : decode cX6_does 137 = .ok (.iload 4, 2) := by decide +kernel
theorem dX6_does_139 : decode cX6_does 139 = .ok (.invokestatic 125, 3) := by decide +kernel
theorem dX6_does_142 : decode cX6_does 142 = .ok (.ifCond .ne 18, 3) := by decide +kernel
theorem dX6_does_145 : decode cX6_does 145 = .ok (.aload_n 0, 1) := by decide +kernel
theorem dX6_does_146 : decode cX6_does 146 = .ok (.iload_n 2, 1) := by decide +kernel
theorem dX6_does_147 : decode cX6_does 147 = .ok (.iload_n 3, 1) := by decide +kernel
theorem dX6_does_148 : decode cX6_does 148 = .ok (.iload 4, 2) := by decide +kernel
theorem dX6_does_150 : decode cX6_does 150 = .ok (.invokestatic 128, 3) := by decide +kernel
theorem dX6_does_153 : decode cX6_does 153 = .ok (.ifCond .lt 7, 3) := by decide +kernel
theorem dX6_does_156 : decode cX6_does 156 = .ok (.iconst 1, 1) := by decide +kernel
theorem dX6_does_157 : decode cX6_does 157 = .ok (.goto 4, 3) := by decide +kernel
theorem dX6_does_160 : decode cX6_does 160 = .ok (.iconst 0, 1) := by decide +kernel
theorem dX6_does_161 : decode cX6_does 161 = .ok (.ireturn, 1) := by decide +kernel
theorem dX6_does_162 : decode cX6_does 162 = .ok (.aload_n 0, 1) := by decide +kernel
theorem dX6_does_163 : decode cX6_does 163 = .ok (.iload_n 2, 1) := by decide +kernel
theorem dX6_does_164 : decode cX6_does 164 = .ok (.invokestatic 79, 3) := by decide +kernel
theorem dX6_does_167 : decode cX6_does 167 = .ok (.ifCond .eq 10, 3) := by decide +kernel
theorem dX6_does_170 : decode cX6_does 170 = .ok (.aload_n 0, 1) := by decide +kernel
theorem dX6_does_171 : decode cX6_does 171 = .ok (.iconst 1, 1) := by decide +kernel
theorem dX6_does_172 : decode cX6_does 172 = .ok (.iaload, 1) := by decide +kernel
theorem dX6_does_173 : decode cX6_does 173 = .ok (.iconst 1, 1) := by decide +kernel
theorem dX6_does_174 : decode cX6_does 174 = .ok (.if_icmp .ne 5, 3) := by decide +kernel
theorem dX6_does_177 : decode cX6_does 177 = .ok (.iconst 0, 1) := by decide +kernel
theorem dX6_does_178 : decode cX6_does 178 = .ok (.ireturn, 1) := by decide +kernel
theorem dX6_does_179 : decode cX6_does 179 = .ok (.aload_n 0, 1) := by decide +kernel
theorem dX6_does_180 : decode cX6_does 180 = .ok (.iload_n 2, 1) := by decide +kernel
theorem dX6_does_181 : decode cX6_does 181 = .ok (.invokestatic 131, 3) := by decide +kernel
theorem dX6_does_184 : decode cX6_does 184 = .ok (.pop, 1) := by decide +kernel
theorem dX6_does_185 : decode cX6_does 185 = .ok (.iconst 1, 1) := by decide +kernel
theorem dX6_does_186 : decode cX6_does 186 = .ok (.ireturn, 1) := by decide +kernel
theorem dX6_does_187 : decode cX6_does 187 = .ok (.aload_n 0, 1) := by decide +kernel
theorem dX6_does_188 : decode cX6_does 188 = .ok (.iconst 1, 1) := by decide +kernel
theorem dX6_does_189 : decode cX6_does 189 = .ok (.iaload, 1) := by decide +kernel
theorem dX6_does_190 : decode cX6_does 190 = .ok (.ifCond .ne 14, 3) := by decide +kernel
theorem dX6_does_193 : decode cX6_does 193 = .ok (.aload_n 0, 1) := by decide +kernel
theorem dX6_does_194 : decode cX6_does 194 = .ok (.invokestatic 134, 3) := by decide +kernel
theorem dX6_does_197 : decode cX6_does 197 = .ok (.ifCond .lt 7, 3) := by decide +kernel
theorem dX6_does_200 : decode cX6_does 200 = .ok (.iconst 1, 1) := by decide +kernel
theorem dX6_does_201 : decode cX6_does 201 = .ok (.goto 4, 3) := by decide +kernel
theorem dX6_does_204 : decode cX6_does 204 = .ok (.iconst 0, 1) := by decide +kernel
theorem dX6_does_205 : decode cX6_does 205 = .ok (.ireturn, 1) := by decide +kernel
theorem dX6_readCommand_0 : decode cX6_readCommand 0 = .ok (.aload_n 0, 1) := by decide +kernel
theorem dX6_readCommand_1 : decode cX6_readCommand 1 = .ok (.getfield 7, 3) := by decide +kernel
theorem dX6_readCommand_4 : decode cX6_readCommand 4 = .ok (.aload_n 0, 1) := by decide +kernel
theorem dX6_readCommand_5 : decode cX6_readCommand 5 = .ok (.getfield 106, 3) := by decide +kernel
theorem dX6_readCommand_8 : decode cX6_readCommand 8 = .ok (.iaload, 1) := by decide +kernel
theorem dX6_readCommand_9 : decode cX6_readCommand 9 = .ok (.istore_n 2, 1) := by decide +kernel
theorem dX6_readCommand_10 : decode cX6_readCommand 10 = .ok (.aload_n 0, 1) := by decide +kernel
theorem dX6_readCommand_11 : decode cX6_readCommand 11 = .ok (.dup, 1) := by decide +kernel
theorem dX6_readCommand_12 : decode cX6_readCommand 12 = .ok (.getfield 106, 3) := by decide +kernel
theorem dX6_readCommand_15 : decode cX6_readCommand 15 = .ok (.iconst 1, 1) := by decide +kernel
theorem dX6_readCommand_16 : decode cX6_readCommand 16 = .ok (.iadd, 1) := by decide +kernel
theorem dX6_readCommand_17 : decode cX6_readCommand 17 = .ok (.putfield 106, 3) := by decide +kernel
theorem dX6_readCommand_20 : decode cX6_readCommand 20 = .ok (.iconst 0, 1) := by decide +kernel
theorem dX6_readCommand_21 : decode cX6_readCommand 21 = .ok (.istore_n 3, 1) := by decide +kernel
theorem dX6_readCommand_22 : decode cX6_readCommand 22 = .ok (.iconst 0, 1) := by decide +kernel
theorem dX6_readCommand_23 : decode cX6_readCommand 23 = .ok (.istore 4, 2) := by decide +kernel
theorem dX6_readCommand_25 : decode cX6_readCommand 25 = .ok (.iconst 0, 1) := by decide +kernel
theorem dX6_readCommand_26 : decode cX6_readCommand 26 = .ok (.istore 5, 2) := by decide +kernel
theorem dX6_readCommand_28 : decode cX6_readCommand 28 = .ok (.iload_n 2, 1) := by decide +kernel
theorem dX6_readCommand_29 : decode cX6_readCommand 29 = .ok (.lookupswitch 219 #[(98, 106), (99, 216), (113, 170), (115, 59), (118, 134), (119, 206)], 59) := by decide +kernel
theorem dX6_readCommand_88 : decode cX6_readCommand 88 = .ok (.aload_n 0, 1) := by decide +kernel
theorem dX6_readCommand_89 : decode cX6_readCommand 89 = .ok (.iconst 0, 1) := by decide +kernel
theorem dX6_readCommand_90 : decode cX6_readCommand 90 = .ok (.iconst 2, 1) := by decide +kernel
theorem dX6_readCommand_91 : decode cX6_readCommand 91 = .ok (.invokevirtual 109, 3) := by decide +kernel
theorem dX6_readCommand_94 : decode cX6_readCommand 94 = .ok (.istore_n 3, 1) := by decide +kernel
theorem dX6_readCommand_95 : decode cX6_readCommand 95 = .ok (.iload_n 3, 1) := by decide +kernel
theorem dX6_readCommand_96 : decode cX6_readCommand 96 = .ok (.iconst (-1), 1) := by decide +kernel
theorem dX6_readCommand_97 : decode cX6_readCommand 97 = .ok (.if_icmp .ne 7, 3) := by decide +kernel
theorem dX6_readCommand_100 : decode cX6_readCommand 100 = .ok (.iconst (-1), 1) := by decide +kernel
theorem dX6_readCommand_101 : decode cX6_readCommand 101 = .ok (.goto 10, 3) := by decide +kernel
theorem dX6_readCommand_104 : decode cX6_readCommand 104 = .ok (.aload_n 0, 1) := by decide +kernel
theorem dX6_readCommand_105 : decode cX6_readCommand 105 = .ok (.iconst 1, 1) := by decide +kernel
theorem dX6_readCommand_106 : decode cX6_readCommand 106 = .ok (.bipush 9, 2) := by decide +kernel
theorem dX6_readCommand_108 : decode cX6_readCommand 108 = .ok (.invokevirtual 109, 3) := by decide +kernel
theorem dX6_readCommand_111 : decode cX6_readCommand 111 = .ok (.istore 4, 2) := by decide +kernel
theorem dX6_readCommand_113 : decode cX6_readCommand 113 = .ok (.iload 4, 2) := by decide +kernel
theorem dX6_readCommand_115 : decode cX6_readCommand 115 = .ok (.iconst (-1), 1) := by decide +kernel
theorem dX6_readCommand_116 : decode cX6_readCommand 116 = .ok (.if_icmp .ne 7, 3) := by decide +kernel
theorem dX6_readCommand_119 : decode cX6_readCommand 119 = .ok (.iconst (-1), 1) := by decide +kernel
theorem dX6_readCommand_120 : decode cX6_readCommand 120 = .ok (.goto 10, 3) := by decide +kernel
theorem dX6_readCommand_123 : decode cX6_readCommand 123 = .ok (.aload_n 0, 1) := by decide +kernel
theorem dX6_readCommand_124 : decode cX6_readCommand 124 = .ok (.iconst 1, 1) := by decide +kernel
theorem dX6_readCommand_125 : decode cX6_readCommand 125 = .ok (.bipush 9, 2) := by decide +kernel
theorem dX6_readCommand_127 : decode cX6_readCommand 127 = .ok (.invokevirtual 109, 3) := by decide +kernel
theorem dX6_readCommand_130 : decode cX6_readCommand 130 = .ok (.istore 5, 2) := by decide +kernel
theorem dX6_readCommand_132 : decode cX6_readCommand 132 = .ok (.goto 128, 3) := by decide +kernel
theorem dX6_readCommand_135 : decode cX6_readCommand 135 = .ok (.aload_n 0, 1) := by decide +kernel
theorem dX6_readCommand_136 : decode cX6_readCommand 136 = .ok (.iconst 0, 1) := by decide +kernel
theorem dX6_readCommand_137 : decode cX6_readCommand 137 = .ok (.iconst 2, 1) := by decide +kernel
theorem dX6_readCommand_138 : decode cX6_readCommand 138 = .ok (.invokevirtual 137, 3) := by decide +kernel
theorem dX6_readCommand_141 : decode cX6_readCommand 141 = .ok (.istore_n 3, 1) := by decide +kernel
theorem dX6_readCommand_142 : decode cX6_readCommand 142 = .ok (.iload_n 3, 1) := by decide +kernel
theorem dX6_readCommand_143 : decode cX6_readCommand 143 = .ok (.iconst (-1), 1) := by decide +kernel
theorem dX6_readCommand_144 : decode cX6_readCommand 144 = .ok (.if_icmp .ne 7, 3) := by decide +kernel
theorem dX6_readCommand_147 : decode cX6_readCommand 147 = .ok (.iconst (-1), 1) := by decide +kernel
theorem dX6_readCommand_148 : decode cX6_readCommand 148 = .ok (.goto 10, 3) := by decide +kernel
theorem dX6_readCommand_151 : decode cX6_readCommand 151 = .ok (.aload_n 0, 1) := by decide +kernel
theorem dX6_readCommand_152 : decode cX6_readCommand 152 = .ok (.iconst 1, 1) := by decide +kernel
theorem dX6_readCommand_153 : decode cX6_readCommand 153 = .ok (.bipush 9, 2) := by decide +kernel
theorem dX6_readCommand_155 : decode cX6_readCommand 155 = .ok (.invokevirtual 109, 3) := by decide +kernel
theorem dX6_readCommand_158 : decode cX6_readCommand 158 = .ok (.istore 4, 2) := by decide +kernel
theorem dX6_readCommand_160 : decode cX6_readCommand 160 = .ok (.goto 100, 3) := by decide +kernel
theorem dX6_readCommand_163 : decode cX6_readCommand 163 = .ok (.aload_n 0, 1) := by decide +kernel
theorem dX6_readCommand_164 : decode cX6_readCommand 164 = .ok (.iconst 0, 1) := by decide +kernel
theorem dX6_readCommand_165 : decode cX6_readCommand 165 = .ok (.iconst 5, 1) := by decide +kernel
theorem dX6_readCommand_166 : decode cX6_readCommand 166 = .ok (.invokevirtual 109, 3) := by decide +kernel
theorem dX6_readCommand_169 : decode cX6_readCommand 169 = .ok (.istore_n 3, 1) := by decide +kernel
theorem dX6_readCommand_170 : decode cX6_readCommand 170 = .ok (.iload_n 3, 1) := by decide +kernel
theorem dX6_readCommand_171 : decode cX6_readCommand 171 = .ok (.iconst (-1), 1) := by decide +kernel
theorem dX6_readCommand_172 : decode cX6_readCommand 172 = .ok (.if_icmp .ne 7, 3) := by decide +kernel
theorem dX6_readCommand_175 : decode cX6_readCommand 175 = .ok (.iconst (-1), 1) := by decide +kernel
theorem dX6_readCommand_176 : decode cX6_readCommand 176 = .ok (.goto 9, 3) := by decide +kernel
theorem dX6_readCommand_179 : decode cX6_readCommand 179 = .ok (.aload_n 0, 1) := by decide +kernel
theorem dX6_readCommand_180 : decode cX6_readCommand 180 = .ok (.iconst 0, 1) := by decide +kernel
theorem dX6_readCommand_181 : decode cX6_readCommand 181 = .ok (.iconst 2, 1) := by decide +kernel
theorem dX6_readCommand_182 : decode cX6_readCommand 182 = .ok (.invokevirtual 109, 3) := by decide +kernel
theorem dX6_readCommand_185 : decode cX6_readCommand 185 = .ok (.istore 4, 2) := by decide +kernel
theorem dX6_readCommand_187 : decode cX6_readCommand 187 = .ok (.aload_n 0, 1) := by decide +kernel
theorem dX6_readCommand_188 : decode cX6_readCommand 188 = .ok (.iload 4, 2) := by decide +kernel
theorem dX6_readCommand_190 : decode cX6_readCommand 190 = .ok (.iconst 3, 1) := by decide +kernel
theorem dX6_readCommand_191 : decode cX6_readCommand 191 = .ok (.invokevirtual 137, 3) := by decide +kernel
theorem dX6_readCommand_194 : decode cX6_readCommand 194 = .ok (.istore 5, 2) := by decide +kernel
theorem dX6_readCommand_196 : decode cX6_readCommand 196 = .ok (.goto 64, 3) := by decide +kernel
theorem dX6_readCommand_199 : decode cX6_readCommand 199 = .ok (.aload_n 0, 1) := by decide +kernel
theorem dX6_readCommand_200 : decode cX6_readCommand 200 = .ok (.iconst 0, 1) := by decide +kernel
theorem dX6_readCommand_201 : decode cX6_readCommand 201 = .ok (.iconst 5, 1) := by decide +kernel
theorem dX6_readCommand_202 : decode cX6_readCommand 202 = .ok (.invokevirtual 109, 3) := by decide +kernel
theorem dX6_readCommand_205 : decode cX6_readCommand 205 = .ok (.istore_n 3, 1) := by decide +kernel
theorem dX6_readCommand_206 : decode cX6_readCommand 206 = .ok (.iload_n 3, 1) := by decide +kernel
theorem dX6_readCommand_207 : decode cX6_readCommand 207 = .ok (.iconst (-1), 1) := by decide +kernel
theorem dX6_readCommand_208 : decode cX6_readCommand 208 = .ok (.if_icmp .ne 7, 3) := by decide +kernel
theorem dX6_readCommand_211 : decode cX6_readCommand 211 = .ok (.iconst (-1), 1) := by decide +kernel
theorem dX6_readCommand_212 : decode cX6_readCommand 212 = .ok (.goto 9, 3) := by decide +kernel
theorem dX6_readCommand_215 : decode cX6_readCommand 215 = .ok (.aload_n 0, 1) := by decide +kernel
theorem dX6_readCommand_216 : decode cX6_readCommand 216 = .ok (.iconst 0, 1) := by decide +kernel
theorem dX6_readCommand_217 : decode cX6_readCommand 217 = .ok (.iconst 2, 1) := by decide +kernel
theorem dX6_readCommand_218 : decode cX6_readCommand 218 = .ok (.invokevirtual 109, 3) := by decide +kernel
theorem dX6_readCommand_221 : decode cX6_readCommand 221 = .ok (.istore 4, 2) := by decide +kernel
theorem dX6_readCommand_223 : decode cX6_readCommand 223 = .ok (.aload_n 0, 1) := by decide +kernel
theorem dX6_readCommand_224 : decode cX6_readCommand 224 = .ok (.iload 4, 2) := by decide +kernel
theorem dX6_readCommand_226 : decode cX6_readCommand 226 = .ok (.iconst 1, 1) := by decide +kernel
theorem dX6_readCommand_227 : decode cX6_readCommand 227 = .ok (.invokevirtual 137, 3) := by decide +kernel
theorem dX6_readCommand_230 : decode cX6_readCommand 230 = .ok (.istore 5, 2) := by decide +kernel
theorem dX6_readCommand_232 : decode cX6_readCommand 232 = .ok (.goto 28, 3) := by decide +kernel
theorem dX6_readCommand_235 : decode cX6_readCommand 235 = .ok (.aload_n 0, 1) := by decide +kernel
theorem dX6_readCommand_236 : decode cX6_readCommand 236 = .ok (.iconst 0, 1) := by decide +kernel
theorem dX6_readCommand_237 : decode cX6_readCommand 237 = .ok (.iconst 5, 1) := by decide +kernel
theorem dX6_readCommand_238 : decode cX6_readCommand 238 = .ok (.invokevirtual 109, 3) := by decide +kernel
theorem dX6_readCommand_241 : decode cX6_readCommand 241 = .ok (.istore_n 3, 1) := by decide +kernel
theorem dX6_readCommand_242 : decode cX6_readCommand 242 = .ok (.goto 18, 3) := by decide +kernel
theorem dX6_readCommand_245 : decode cX6_readCommand 245 = .ok (.goto 15, 3) := by decide +kernel
theorem dX6_readCommand_248 : decode cX6_readCommand 248 = .ok (.aload_n 0, 1) := by decide +kernel
theorem dX6_readCommand_249 : decode cX6_readCommand 249 = .ok (.dup, 1) := by decide +kernel
theorem dX6_readCommand_250 : decode cX6_readCommand 250 = .ok (.getfield 106, 3) := by decide +kernel
theorem dX6_readCommand_253 : decode cX6_readCommand 253 = .ok (.iconst 1, 1) := by decide +kernel
theorem dX6_readCommand_254 : decode cX6_readCommand 254 = .ok (.isub, 1) := by decide +kernel
theorem dX6_readCommand_255 : decode cX6_readCommand 255 = .ok (.putfield 106, 3) := by decide +kernel
theorem dX6_readCommand_258 : decode cX6_readCommand 258 = .ok (.iconst 0, 1) := by decide +kernel
theorem dX6_readCommand_259 : decode cX6_readCommand 259 = .ok (.ireturn, 1) := by decide +kernel
theorem dX6_readCommand_260 : decode cX6_readCommand 260 = .ok (.iload_n 3, 1) := by decide +kernel
theorem dX6_readCommand_261 : decode cX6_readCommand 261 = .ok (.iconst (-1), 1) := by decide +kernel
theorem dX6_readCommand_262 : decode cX6_readCommand 262 = .ok (.if_icmp .eq 15, 3) := by decide +kernel
theorem dX6_readCommand_265 : decode cX6_readCommand 265 = .ok (.iload 4, 2) := by decide +kernel
theorem dX6_readCommand_267 : decode cX6_readCommand 267 = .ok (.iconst (-1), 1) := by decide +kernel
theorem dX6_readCommand_268 : decode cX6_readCommand 268 = .ok (.if_icmp .eq 9, 3) := by decide +kernel
theorem dX6_readCommand_271 : decode cX6_readCommand 271 = .ok (.iload 5, 2) := by decide +kernel
theorem dX6_readCommand_273 : decode cX6_readCommand 273 = .ok (.iconst (-1), 1) := by decide +kernel
theorem dX6_readCommand_274 : decode cX6_readCommand 274 = .ok (.if_icmp .ne 5, 3) := by decide +kernel
theorem dX6_readCommand_277 : decode cX6_readCommand 277 = .ok (.iconst 0, 1) := by decide +kernel
theorem dX6_readCommand_278 : decode cX6_readCommand 278 = .ok (.ireturn, 1) := by decide +kernel
theorem dX6_readCommand_279 : decode cX6_readCommand 279 = .ok (.aload_n 0, 1) := by decide +kernel
theorem dX6_readCommand_280 : decode cX6_readCommand 280 = .ok (.dup, 1) := by decide +kernel
theorem dX6_readCommand_281 : decode cX6_readCommand 281 = .ok (.getfield 140, 3) := by decide +kernel
theorem dX6_readCommand_284 : decode cX6_readCommand 284 = .ok (.aload_n 1, 1) := by decide +kernel
theorem dX6_readCommand_285 : decode cX6_readCommand 285 = .ok (.iload_n 2, 1) := by decide +kernel
theorem dX6_readCommand_286 : decode cX6_readCommand 286 = .ok (.iload_n 3, 1) := by decide +kernel
theorem dX6_readCommand_287 : decode cX6_readCommand 287 = .ok (.iload 4, 2) := by decide +kernel
theorem dX6_readCommand_289 : decode cX6_readCommand 289 = .ok (.iload 5, 2) := by decide +kernel
theorem dX6_readCommand_291 : decode cX6_readCommand 291 = .ok (.invokestatic 143, 3) := by decide +kernel
theorem dX6_readCommand_294 : decode cX6_readCommand 294 = .ok (.ifCond .eq 7, 3) := by decide +kernel
theorem dX6_readCommand_297 : decode cX6_readCommand 297 = .ok (.iconst 0, 1) := by decide +kernel
theorem dX6_readCommand_298 : decode cX6_readCommand 298 = .ok (.goto 4, 3) := by decide +kernel
theorem dX6_readCommand_301 : decode cX6_readCommand 301 = .ok (.iconst 1, 1) := by decide +kernel
theorem dX6_readCommand_302 : decode cX6_readCommand 302 = .ok (.iadd, 1) := by decide +kernel
theorem dX6_readCommand_303 : decode cX6_readCommand 303 = .ok (.putfield 140, 3) := by decide +kernel
theorem dX6_readCommand_306 : decode cX6_readCommand 306 = .ok (.iconst 1, 1) := by decide +kernel
theorem dX6_readCommand_307 : decode cX6_readCommand 307 = .ok (.ireturn, 1) := by decide +kernel
theorem dX6_readText_0 : decode cX6_readText 0 = .ok (.aload_n 1, 1) := by decide +kernel
theorem dX6_readText_1 : decode cX6_readText 1 = .ok (.invokestatic 35, 3) := by decide +kernel
theorem dX6_readText_4 : decode cX6_readText 4 = .ok (.aload_n 0, 1) := by decide +kernel
theorem dX6_readText_5 : decode cX6_readText 5 = .ok (.iconst 0, 1) := by decide +kernel
theorem dX6_readText_6 : decode cX6_readText 6 = .ok (.putfield 140, 3) := by decide +kernel
theorem dX6_readText_9 : decode cX6_readText 9 = .ok (.aload_n 0, 1) := by decide +kernel
theorem dX6_readText_10 : decode cX6_readText 10 = .ok (.iconst 0, 1) := by decide +kernel
theorem dX6_readText_11 : decode cX6_readText 11 = .ok (.putfield 106, 3) := by decide +kernel
theorem dX6_readText_14 : decode cX6_readText 14 = .ok (.aload_n 0, 1) := by decide +kernel
theorem dX6_readText_15 : decode cX6_readText 15 = .ok (.getfield 100, 3) := by decide +kernel
theorem dX6_readText_18 : decode cX6_readText 18 = .ok (.ifCond .eq 14, 3) := by decide +kernel
theorem dX6_readText_21 : decode cX6_readText 21 = .ok (.aload_n 0, 1) := by decide +kernel
theorem dX6_readText_22 : decode cX6_readText 22 = .ok (.getfield 7, 3) := by decide +kernel
theorem dX6_readText_25 : decode cX6_readText 25 = .ok (.iconst 0, 1) := by decide +kernel
theorem dX6_readText_26 : decode cX6_readText 26 = .ok (.iaload, 1) := by decide +kernel
theorem dX6_readText_27 : decode cX6_readText 27 = .ok (.bipush 76, 2) := by decide +kernel
theorem dX6_readText_29 : decode cX6_readText 29 = .ok (.if_icmp .eq 5, 3) := by decide +kernel
theorem dX6_readText_32 : decode cX6_readText 32 = .ok (.iconst 0, 1) := by decide +kernel
theorem dX6_readText_33 : decode cX6_readText 33 = .ok (.ireturn, 1) := by decide +kernel
theorem dX6_readText_34 : decode cX6_readText 34 = .ok (.aload_n 0, 1) := by decide +kernel
theorem dX6_readText_35 : decode cX6_readText 35 = .ok (.iconst 1, 1) := by decide +kernel
theorem dX6_readText_36 : decode cX6_readText 36 = .ok (.putfield 106, 3) := by decide +kernel
theorem dX6_readText_39 : decode cX6_readText 39 = .ok (.aload_n 0, 1) := by decide +kernel
theorem dX6_readText_40 : decode cX6_readText 40 = .ok (.getfield 106, 3) := by decide +kernel
theorem dX6_readText_43 : decode cX6_readText 43 = .ok (.aload_n 0, 1) := by decide +kernel
theorem dX6_readText_44 : decode cX6_readText 44 = .ok (.getfield 100, 3) := by decide +kernel
theorem dX6_readText_47 : decode cX6_readText 47 = .ok (.if_icmp .ge 16, 3) := by decide +kernel
theorem dX6_readText_50 : decode cX6_readText 50 = .ok (.aload_n 0, 1) := by decide +kernel
theorem dX6_readText_51 : decode cX6_readText 51 = .ok (.aload_n 1, 1) := by decide +kernel
theorem dX6_readText_52 : decode cX6_readText 52 = .ok (.invokevirtual 147, 3) := by decide +kernel
theorem dX6_readText_55 : decode cX6_readText 55 = .ok (.ifCond .ne (-16), 3) := by decide +kernel
theorem dX6_readText_58 : decode cX6_readText 58 = .ok (.aload_n 0, 1) := by decide +kernel
theorem dX6_readText_59 : decode cX6_readText 59 = .ok (.getfield 106, 3) := by decide +kernel
theorem dX6_readText_62 : decode cX6_readText 62 = .ok (.ireturn, 1) := by decide +kernel
theorem dX6_readText_63 : decode cX6_readText 63 = .ok (.iconst (-1), 1) := by decide +kernel
theorem dX6_readText_64 : decode cX6_readText 64 = .ok (.ireturn, 1) := by decide +kernel
theorem dX6_errorPosition_0 : decode cX6_errorPosition 0 = .ok (.aload_n 0, 1) := by decide +kernel
theorem dX6_errorPosition_1 : decode cX6_errorPosition 1 = .ok (.iconst 0, 1) := by decide +kernel
theorem dX6_errorPosition_2 : decode cX6_errorPosition 2 = .ok (.putfield 39, 3) := by decide +kernel
theorem dX6_errorPosition_5 : decode cX6_errorPosition 5 = .ok (.aload_n 0, 1) := by decide +kernel
theorem dX6_errorPosition_6 : decode cX6_errorPosition 6 = .ok (.aload_n 0, 1) := by decide +kernel
theorem dX6_errorPosition_7 : decode cX6_errorPosition 7 = .ok (.getfield 16, 3) := by decide +kernel
theorem dX6_errorPosition_10 : decode cX6_errorPosition 10 = .ok (.invokevirtual 151, 3) := by decide +kernel
theorem dX6_errorPosition_13 : decode cX6_errorPosition 13 = .ok (.ireturn, 1) := by decide +kernel
theorem dX6_load_0 : decode cX6_load 0 = .ok (.aload_n 0, 1) := by decide +kernel
theorem dX6_load_1 : decode cX6_load 1 = .ok (.aload_n 0, 1) := by decide +kernel
theorem dX6_load_2 : decode cX6_load 2 = .ok (.aload_n 0, 1) := by decide +kernel
theorem dX6_load_3 : decode cX6_load 3 = .ok (.getfield 16, 3) := by decide +kernel
theorem dX6_load_6 : decode cX6_load 6 = .ok (.invokevirtual 151, 3) := by decide +kernel
theorem dX6_load_9 : decode cX6_load 9 = .ok (.iconst (-1), 1) := by decide +kernel
theorem dX6_load_10 : decode cX6_load 10 = .ok (.if_icmp .ne 7, 3) := by decide +kernel
theorem dX6_load_13 : decode cX6_load 13 = .ok (.iconst 0, 1) := by decide +kernel
theorem dX6_load_14 : decode cX6_load 14 = .ok (.goto 4, 3) := by decide +kernel
theorem dX6_load_17 : decode cX6_load 17 = .ok (.iconst 1, 1) := by decide +kernel
theorem dX6_load_18 : decode cX6_load 18 = .ok (.invokevirtual 103, 3) := by decide +kernel
theorem dX6_load_21 : decode cX6_load 21 = .ok (.ifCond .eq 5, 3) := by decide +kernel
theorem dX6_load_24 : decode cX6_load 24 = .ok (.iconst 0, 1) := by decide +kernel
theorem dX6_load_25 : decode cX6_load 25 = .ok (.ireturn, 1) := by decide +kernel
theorem dX6_load_26 : decode cX6_load 26 = .ok (.aload_n 0, 1) := by decide +kernel
theorem dX6_load_27 : decode cX6_load 27 = .ok (.getfield 16, 3) := by decide +kernel
theorem dX6_load_30 : decode cX6_load 30 = .ok (.iconst 0, 1) := by decide +kernel
theorem dX6_load_31 : decode cX6_load 31 = .ok (.aload_n 0, 1) := by decide +kernel
theorem dX6_load_32 : decode cX6_load 32 = .ok (.getfield 13, 3) := by decide +kernel
theorem dX6_load_35 : decode cX6_load 35 = .ok (.iconst 0, 1) := by decide +kernel
theorem dX6_load_36 : decode cX6_load 36 = .ok (.invokestatic 154, 3) := by decide +kernel
theorem dX6_load_39 : decode cX6_load 39 = .ok (.aload_n 0, 1) := by decide +kernel
theorem dX6_load_40 : decode cX6_load 40 = .ok (.iconst 0, 1) := by decide +kernel
theorem dX6_load_41 : decode cX6_load 41 = .ok (.putfield 158, 3) := by decide +kernel
theorem dX6_load_44 : decode cX6_load 44 = .ok (.aload_n 0, 1) := by decide +kernel
theorem dX6_load_45 : decode cX6_load 45 = .ok (.getfield 25, 3) := by decide +kernel
theorem dX6_load_48 : decode cX6_load 48 = .ok (.iconst 0, 1) := by decide +kernel
theorem dX6_load_49 : decode cX6_load 49 = .ok (.iconst 0, 1) := by decide +kernel
theorem dX6_load_50 : decode cX6_load 50 = .ok (.bastore, 1) := by decide +kernel
theorem dX6_load_51 : decode cX6_load 51 = .ok (.aload_n 0, 1) := by decide +kernel
theorem dX6_load_52 : decode cX6_load 52 = .ok (.getfield 25, 3) := by decide +kernel
theorem dX6_load_55 : decode cX6_load 55 = .ok (.iconst 1, 1) := by decide +kernel
theorem dX6_load_56 : decode cX6_load 56 = .ok (.iconst 0, 1) := by decide +kernel
theorem dX6_load_57 : decode cX6_load 57 = .ok (.bastore, 1) := by decide +kernel
theorem dX6_load_58 : decode cX6_load 58 = .ok (.aload_n 0, 1) := by decide +kernel
theorem dX6_load_59 : decode cX6_load 59 = .ok (.getfield 140, 3) := by decide +kernel
theorem dX6_load_62 : decode cX6_load 62 = .ok (.ireturn, 1) := by decide +kernel
theorem dX6_about_0 : decode cX6_about 0 = .ok (.aload_n 0, 1) := by decide +kernel
theorem dX6_about_1 : decode cX6_about 1 = .ok (.iload_n 1, 1) := by decide +kernel
theorem dX6_about_2 : decode cX6_about 2 = .ok (.i2l, 1) := by decide +kernel
theorem dX6_about_3 : decode cX6_about 3 = .ok (.lconst 0, 1) := by decide +kernel
theorem dX6_about_4 : decode cX6_about 4 = .ok (.ldc2_w 161, 3) := by decide +kernel
theorem dX6_about_7 : decode cX6_about 7 = .ok (.invokestatic 45, 3) := by decide +kernel
theorem dX6_about_10 : decode cX6_about 10 = .ok (.ifCond .eq 7, 3) := by decide +kernel
theorem dX6_about_13 : decode cX6_about 13 = .ok (.iconst 0, 1) := by decide +kernel
theorem dX6_about_14 : decode cX6_about 14 = .ok (.goto 4, 3) := by decide +kernel
theorem dX6_about_17 : decode cX6_about 17 = .ok (.iconst 1, 1) := by decide +kernel
theorem dX6_about_18 : decode cX6_about 18 = .ok (.invokevirtual 103, 3) := by decide +kernel
theorem dX6_about_21 : decode cX6_about 21 = .ok (.ifCond .eq 5, 3) := by decide +kernel
theorem dX6_about_24 : decode cX6_about 24 = .ok (.iconst 0, 1) := by decide +kernel
theorem dX6_about_25 : decode cX6_about 25 = .ok (.ireturn, 1) := by decide +kernel
theorem dX6_about_26 : decode cX6_about 26 = .ok (.iconst 0, 1) := by decide +kernel
theorem dX6_about_27 : decode cX6_about 27 = .ok (.istore_n 2, 1) := by decide +kernel
theorem dX6_about_28 : decode cX6_about 28 = .ok (.iconst 0, 1) := by decide +kernel
theorem dX6_about_29 : decode cX6_about 29 = .ok (.istore_n 3, 1) := by decide +kernel
theorem dX6_about_30 : decode cX6_about 30 = .ok (.iconst 0, 1) := by decide +kernel
theorem dX6_about_31 : decode cX6_about 31 = .ok (.istore 4, 2) := by decide +kernel
theorem dX6_about_33 : decode cX6_about 33 = .ok (.iload 4, 2) := by decide +kernel
theorem dX6_about_35 : decode cX6_about 35 = .ok (.aload_n 0, 1) := by decide +kernel
theorem dX6_about_36 : decode cX6_about 36 = .ok (.getfield 13, 3) := by decide +kernel
theorem dX6_about_39 : decode cX6_about 39 = .ok (.iconst 4, 1) := by decide +kernel
theorem dX6_about_40 : decode cX6_about 40 = .ok (.iaload, 1) := by decide +kernel
theorem dX6_about_41 : decode cX6_about 41 = .ok (.if_icmp .ge 39, 3) := by decide +kernel
theorem dX6_about_44 : decode cX6_about 44 = .ok (.iload_n 2, 1) := by decide +kernel
theorem dX6_about_45 : decode cX6_about 45 = .ok (.aload_n 0, 1) := by decide +kernel
theorem dX6_about_46 : decode cX6_about 46 = .ok (.getfield 13, 3) := by decide +kernel
theorem dX6_about_49 : decode cX6_about 49 = .ok (.iload 4, 2) := by decide +kernel
theorem dX6_about_51 : decode cX6_about 51 = .ok (.invokestatic 49, 3) := by decide +kernel
theorem dX6_about_54 : decode cX6_about 54 = .ok (.bipush 8, 2) := by decide +kernel
theorem dX6_about_56 : decode cX6_about 56 = .ok (.iadd, 1) := by decide +kernel
theorem dX6_about_57 : decode cX6_about 57 = .ok (.iaload, 1) := by decide +kernel
theorem dX6_about_58 : decode cX6_about 58 = .ok (.iadd, 1) := by decide +kernel
theorem dX6_about_59 : decode cX6_about 59 = .ok (.istore_n 2, 1) := by decide +kernel
theorem dX6_about_60 : decode cX6_about 60 = .ok (.iload_n 3, 1) := by decide +kernel
theorem dX6_about_61 : decode cX6_about 61 = .ok (.aload_n 0, 1) := by decide +kernel
theorem dX6_about_62 : decode cX6_about 62 = .ok (.getfield 13, 3) := by decide +kernel
theorem dX6_about_65 : decode cX6_about 65 = .ok (.iload 4, 2) := by decide +kernel
theorem dX6_about_67 : decode cX6_about 67 = .ok (.iconst 0, 1) := by decide +kernel
theorem dX6_about_68 : decode cX6_about 68 = .ok (.iconst 3, 1) := by decide +kernel
theorem dX6_about_69 : decode cX6_about 69 = .ok (.invokestatic 91, 3) := by decide +kernel
theorem dX6_about_72 : decode cX6_about 72 = .ok (.iadd, 1) := by decide +kernel
theorem dX6_about_73 : decode cX6_about 73 = .ok (.istore_n 3, 1) := by decide +kernel
theorem dX6_about_74 : decode cX6_about 74 = .ok (.iinc 4 1, 3) := by decide +kernel
theorem dX6_about_77 : decode cX6_about 77 = .ok (.goto (-44), 3) := by decide +kernel
theorem dX6_about_80 : decode cX6_about 80 = .ok (.iload_n 1, 1) := by decide +kernel
theorem dX6_about_81 : decode cX6_about 81 = .ok (.ifCond .ne 12, 3) := by decide +kernel
theorem dX6_about_84 : decode cX6_about 84 = .ok (.aload_n 0, 1) := by decide +kernel
theorem dX6_about_85 : decode cX6_about 85 = .ok (.getfield 13, 3) := by decide +kernel
theorem dX6_about_88 : decode cX6_about 88 = .ok (.iconst 4, 1) := by decide +kernel
theorem dX6_about_89 : decode cX6_about 89 = .ok (.iaload, 1) := by decide +kernel
theorem dX6_about_90 : decode cX6_about 90 = .ok (.goto 56, 3) := by decide +kernel
theorem dX6_about_93 : decode cX6_about 93 = .ok (.iload_n 1, 1) := by decide +kernel
theorem dX6_about_94 : decode cX6_about 94 = .ok (.iconst 1, 1) := by decide +kernel
theorem dX6_about_95 : decode cX6_about 95 = .ok (.if_icmp .ne 12, 3) := by decide +kernel
theorem dX6_about_98 : decode cX6_about 98 = .ok (.aload_n 0, 1) := by decide +kernel
theorem dX6_about_99 : decode cX6_about 99 = .ok (.getfield 13, 3) := by decide +kernel
theorem dX6_about_102 : decode cX6_about 102 = .ok (.iconst 0, 1) := by decide +kernel
theorem dX6_about_103 : decode cX6_about 103 = .ok (.iaload, 1) := by decide +kernel
theorem dX6_about_104 : decode cX6_about 104 = .ok (.goto 42, 3) := by decide +kernel
theorem dX6_about_107 : decode cX6_about 107 = .ok (.iload_n 1, 1) := by decide +kernel
theorem dX6_about_108 : decode cX6_about 108 = .ok (.iconst 2, 1) := by decide +kernel
theorem dX6_about_109 : decode cX6_about 109 = .ok (.if_icmp .ne 12, 3) := by decide +kernel
theorem dX6_about_112 : decode cX6_about 112 = .ok (.aload_n 0, 1) := by decide +kernel
theorem dX6_about_113 : decode cX6_about 113 = .ok (.getfield 13, 3) := by decide +kernel
theorem dX6_about_116 : decode cX6_about 116 = .ok (.iconst 1, 1) := by decide +kernel
theorem dX6_about_117 : decode cX6_about 117 = .ok (.iaload, 1) := by decide +kernel
theorem dX6_about_118 : decode cX6_about 118 = .ok (.goto 28, 3) := by decide +kernel
theorem dX6_about_121 : decode cX6_about 121 = .ok (.iload_n 1, 1) := by decide +kernel
theorem dX6_about_122 : decode cX6_about 122 = .ok (.iconst 3, 1) := by decide +kernel
theorem dX6_about_123 : decode cX6_about 123 = .ok (.if_icmp .ne 13, 3) := by decide +kernel
theorem dX6_about_126 : decode cX6_about 126 = .ok (.aload_n 0, 1) := by decide +kernel
theorem dX6_about_127 : decode cX6_about 127 = .ok (.getfield 13, 3) := by decide +kernel
theorem dX6_about_130 : decode cX6_about 130 = .ok (.invokestatic 70, 3) := by decide +kernel
theorem dX6_about_133 : decode cX6_about 133 = .ok (.goto 13, 3) := by decide +kernel
theorem dX6_about_136 : decode cX6_about 136 = .ok (.iload_n 1, 1) := by decide +kernel
theorem dX6_about_137 : decode cX6_about 137 = .ok (.iconst 4, 1) := by decide +kernel
theorem dX6_about_138 : decode cX6_about 138 = .ok (.if_icmp .ne 7, 3) := by decide +kernel
theorem dX6_about_141 : decode cX6_about 141 = .ok (.iload_n 2, 1) := by decide +kernel
theorem dX6_about_142 : decode cX6_about 142 = .ok (.goto 4, 3) := by decide +kernel
theorem dX6_about_145 : decode cX6_about 145 = .ok (.iload_n 3, 1) := by decide +kernel
theorem dX6_about_146 : decode cX6_about 146 = .ok (.ireturn, 1) := by decide +kernel
theorem dX6_kind_0 : decode cX6_kind 0 = .ok (.aload_n 0, 1) := by decide +kernel
theorem dX6_kind_1 : decode cX6_kind 1 = .ok (.iload_n 1, 1) := by decide +kernel
theorem dX6_kind_2 : decode cX6_kind 2 = .ok (.invokestatic 83, 3) := by decide +kernel
theorem dX6_kind_5 : decode cX6_kind 5 = .ok (.ifCond .ne 7, 3) := by decide +kernel
theorem dX6_kind_8 : decode cX6_kind 8 = .ok (.iconst 1, 1) := by decide +kernel
theorem dX6_kind_9 : decode cX6_kind 9 = .ok (.goto 20, 3) := by decide +kernel
theorem dX6_kind_12 : decode cX6_kind 12 = .ok (.iload_n 2, 1) := by decide +kernel
theorem dX6_kind_13 : decode cX6_kind 13 = .ok (.i2l, 1) := by decide +kernel
theorem dX6_kind_14 : decode cX6_kind 14 = .ok (.lconst 0, 1) := by decide +kernel
theorem dX6_kind_15 : decode cX6_kind 15 = .ok (.ldc2_w 163, 3) := by decide +kernel
theorem dX6_kind_18 : decode cX6_kind 18 = .ok (.invokestatic 45, 3) := by decide +kernel
theorem dX6_kind_21 : decode cX6_kind 21 = .ok (.ifCond .eq 7, 3) := by decide +kernel
theorem dX6_kind_24 : decode cX6_kind 24 = .ok (.iconst 0, 1) := by decide +kernel
theorem dX6_kind_25 : decode cX6_kind 25 = .ok (.goto 4, 3) := by decide +kernel
theorem dX6_kind_28 : decode cX6_kind 28 = .ok (.iconst 2, 1) := by decide +kernel
theorem dX6_kind_29 : decode cX6_kind 29 = .ok (.invokevirtual 103, 3) := by decide +kernel
theorem dX6_kind_32 : decode cX6_kind 32 = .ok (.ifCond .eq 5, 3) := by decide +kernel
theorem dX6_kind_35 : decode cX6_kind 35 = .ok (.iconst 0, 1) := by decide +kernel
theorem dX6_kind_36 : decode cX6_kind 36 = .ok (.ireturn, 1) := by decide +kernel
theorem dX6_kind_37 : decode cX6_kind 37 = .ok (.iload_n 2, 1) := by decide +kernel
theorem dX6_kind_38 : decode cX6_kind 38 = .ok (.iconst 3, 1) := by decide +kernel
theorem dX6_kind_39 : decode cX6_kind 39 = .ok (.if_icmp .ne 14, 3) := by decide +kernel
theorem dX6_kind_42 : decode cX6_kind 42 = .ok (.aload_n 0, 1) := by decide +kernel
theorem dX6_kind_43 : decode cX6_kind 43 = .ok (.getfield 13, 3) := by decide +kernel
theorem dX6_kind_46 : decode cX6_kind 46 = .ok (.iload_n 1, 1) := by decide +kernel
theorem dX6_kind_47 : decode cX6_kind 47 = .ok (.invokestatic 53, 3) := by decide +kernel
theorem dX6_kind_50 : decode cX6_kind 50 = .ok (.goto 15, 3) := by decide +kernel
theorem dX6_kind_53 : decode cX6_kind 53 = .ok (.aload_n 0, 1) := by decide +kernel
theorem dX6_kind_54 : decode cX6_kind 54 = .ok (.getfield 13, 3) := by decide +kernel
theorem dX6_kind_57 : decode cX6_kind 57 = .ok (.iconst 5, 1) := by decide +kernel
theorem dX6_kind_58 : decode cX6_kind 58 = .ok (.iconst 3, 1) := by decide +kernel
theorem dX6_kind_59 : decode cX6_kind 59 = .ok (.iload_n 2, 1) := by decide +kernel
theorem dX6_kind_60 : decode cX6_kind 60 = .ok (.imul, 1) := by decide +kernel
theorem dX6_kind_61 : decode cX6_kind 61 = .ok (.iadd, 1) := by decide +kernel
theorem dX6_kind_62 : decode cX6_kind 62 = .ok (.iload_n 1, 1) := by decide +kernel
theorem dX6_kind_63 : decode cX6_kind 63 = .ok (.iadd, 1) := by decide +kernel
theorem dX6_kind_64 : decode cX6_kind 64 = .ok (.iaload, 1) := by decide +kernel
theorem dX6_kind_65 : decode cX6_kind 65 = .ok (.ireturn, 1) := by decide +kernel
theorem dX6_bidder_0 : decode cX6_bidder 0 = .ok (.aload_n 0, 1) := by decide +kernel
theorem dX6_bidder_1 : decode cX6_bidder 1 = .ok (.aload_n 0, 1) := by decide +kernel
theorem dX6_bidder_2 : decode cX6_bidder 2 = .ok (.getfield 13, 3) := by decide +kernel
theorem dX6_bidder_5 : decode cX6_bidder 5 = .ok (.iload_n 1, 1) := by decide +kernel
theorem dX6_bidder_6 : decode cX6_bidder 6 = .ok (.invokestatic 79, 3) := by decide +kernel
theorem dX6_bidder_9 : decode cX6_bidder 9 = .ok (.ifCond .ne 7, 3) := by decide +kernel
theorem dX6_bidder_12 : decode cX6_bidder 12 = .ok (.iconst 1, 1) := by decide +kernel
theorem dX6_bidder_13 : decode cX6_bidder 13 = .ok (.goto 20, 3) := by decide +kernel
theorem dX6_bidder_16 : decode cX6_bidder 16 = .ok (.iload_n 2, 1) := by decide +kernel
theorem dX6_bidder_17 : decode cX6_bidder 17 = .ok (.i2l, 1) := by decide +kernel
theorem dX6_bidder_18 : decode cX6_bidder 18 = .ok (.lconst 0, 1) := by decide +kernel
theorem dX6_bidder_19 : decode cX6_bidder 19 = .ok (.ldc2_w 165, 3) := by decide +kernel
theorem dX6_bidder_22 : decode cX6_bidder 22 = .ok (.invokestatic 45, 3) := by decide +kernel
theorem dX6_bidder_25 : decode cX6_bidder 25 = .ok (.ifCond .eq 7, 3) := by decide +kernel
theorem dX6_bidder_28 : decode cX6_bidder 28 = .ok (.iconst 0, 1) := by decide +kernel
theorem dX6_bidder_29 : decode cX6_bidder 29 = .ok (.goto 4, 3) := by decide +kernel
theorem dX6_bidder_32 : decode cX6_bidder 32 = .ok (.iconst 2, 1) := by decide +kernel
theorem dX6_bidder_33 : decode cX6_bidder 33 = .ok (.invokevirtual 103, 3) := by decide +kernel
theorem dX6_bidder_36 : decode cX6_bidder 36 = .ok (.ifCond .eq 5, 3) := by decide +kernel
theorem dX6_bidder_39 : decode cX6_bidder 39 = .ok (.iconst 0, 1) := by decide +kernel
theorem dX6_bidder_40 : decode cX6_bidder 40 = .ok (.ireturn, 1) := by decide +kernel
theorem dX6_bidder_41 : decode cX6_bidder 41 = .ok (.iload_n 2, 1) := by decide +kernel
theorem dX6_bidder_42 : decode cX6_bidder 42 = .ok (.iconst 2, 1) := by decide +kernel
theorem dX6_bidder_43 : decode cX6_bidder 43 = .ok (.if_icmp .ge 17, 3) := by decide +kernel
theorem dX6_bidder_46 : decode cX6_bidder 46 = .ok (.aload_n 0, 1) := by decide +kernel
theorem dX6_bidder_47 : decode cX6_bidder 47 = .ok (.getfield 13, 3) := by decide +kernel
theorem dX6_bidder_50 : decode cX6_bidder 50 = .ok (.iload_n 1, 1) := by decide +kernel
theorem dX6_bidder_51 : decode cX6_bidder 51 = .ok (.invokestatic 49, 3) := by decide +kernel
theorem dX6_bidder_54 : decode cX6_bidder 54 = .ok (.iload_n 2, 1) := by decide +kernel
theorem dX6_bidder_55 : decode cX6_bidder 55 = .ok (.iadd, 1) := by decide +kernel
theorem dX6_bidder_56 : decode cX6_bidder 56 = .ok (.iaload, 1) := by decide +kernel
theorem dX6_bidder_57 : decode cX6_bidder 57 = .ok (.goto 47, 3) := by decide +kernel
theorem dX6_bidder_60 : decode cX6_bidder 60 = .ok (.iload_n 2, 1) := by decide +kernel
theorem dX6_bidder_61 : decode cX6_bidder 61 = .ok (.iconst 2, 1) := by decide +kernel
theorem dX6_bidder_62 : decode cX6_bidder 62 = .ok (.if_icmp .ne 14, 3) := by decide +kernel
theorem dX6_bidder_65 : decode cX6_bidder 65 = .ok (.aload_n 0, 1) := by decide +kernel
theorem dX6_bidder_66 : decode cX6_bidder 66 = .ok (.getfield 13, 3) := by decide +kernel
theorem dX6_bidder_69 : decode cX6_bidder 69 = .ok (.iload_n 1, 1) := by decide +kernel
theorem dX6_bidder_70 : decode cX6_bidder 70 = .ok (.invokestatic 67, 3) := by decide +kernel
theorem dX6_bidder_73 : decode cX6_bidder 73 = .ok (.goto 31, 3) := by decide +kernel
theorem dX6_bidder_76 : decode cX6_bidder 76 = .ok (.iload_n 2, 1) := by decide +kernel
theorem dX6_bidder_77 : decode cX6_bidder 77 = .ok (.iconst 3, 1) := by decide +kernel
theorem dX6_bidder_78 : decode cX6_bidder 78 = .ok (.if_icmp .ne 18, 3) := by decide +kernel
theorem dX6_bidder_81 : decode cX6_bidder 81 = .ok (.aload_n 0, 1) := by decide +kernel
theorem dX6_bidder_82 : decode cX6_bidder 82 = .ok (.getfield 13, 3) := by decide +kernel
theorem dX6_bidder_85 : decode cX6_bidder 85 = .ok (.iload_n 1, 1) := by decide +kernel
theorem dX6_bidder_86 : decode cX6_bidder 86 = .ok (.invokestatic 49, 3) := by decide +kernel
theorem dX6_bidder_89 : decode cX6_bidder 89 = .ok (.bipush 8, 2) := by decide +kernel
theorem dX6_bidder_91 : decode cX6_bidder 91 = .ok (.iadd, 1) := by decide +kernel
theorem dX6_bidder_92 : decode cX6_bidder 92 = .ok (.iaload, 1) := by decide +kernel
theorem dX6_bidder_93 : decode cX6_bidder 93 = .ok (.goto 11, 3) := by decide +kernel
theorem dX6_bidder_96 : decode cX6_bidder 96 = .ok (.aload_n 0, 1) := by decide +kernel
theorem dX6_bidder_97 : decode cX6_bidder 97 = .ok (.getfield 13, 3) := by decide +kernel
theorem dX6_bidder_100 : decode cX6_bidder 100 = .ok (.iload_n 1, 1) := by decide +kernel
theorem dX6_bidder_101 : decode cX6_bidder 101 = .ok (.invokestatic 64, 3) := by decide +kernel
theorem dX6_bidder_104 : decode cX6_bidder 104 = .ok (.ireturn, 1) := by decide +kernel
theorem dX6_demand_0 : decode cX6_demand 0 = .ok (.aload_n 0, 1) := by decide +kernel
theorem dX6_demand_1 : decode cX6_demand 1 = .ok (.aload_n 0, 1) := by decide +kernel
theorem dX6_demand_2 : decode cX6_demand 2 = .ok (.getfield 13, 3) := by decide +kernel
theorem dX6_demand_5 : decode cX6_demand 5 = .ok (.iload_n 1, 1) := by decide +kernel
theorem dX6_demand_6 : decode cX6_demand 6 = .ok (.invokestatic 79, 3) := by decide +kernel
theorem dX6_demand_9 : decode cX6_demand 9 = .ok (.ifCond .eq 14, 3) := by decide +kernel
theorem dX6_demand_12 : decode cX6_demand 12 = .ok (.iload_n 2, 1) := by decide +kernel
theorem dX6_demand_13 : decode cX6_demand 13 = .ok (.invokestatic 83, 3) := by decide +kernel
theorem dX6_demand_16 : decode cX6_demand 16 = .ok (.ifCond .eq 7, 3) := by decide +kernel
theorem dX6_demand_19 : decode cX6_demand 19 = .ok (.iconst 0, 1) := by decide +kernel
theorem dX6_demand_20 : decode cX6_demand 20 = .ok (.goto 4, 3) := by decide +kernel
theorem dX6_demand_23 : decode cX6_demand 23 = .ok (.iconst 1, 1) := by decide +kernel
theorem dX6_demand_24 : decode cX6_demand 24 = .ok (.invokevirtual 103, 3) := by decide +kernel
theorem dX6_demand_27 : decode cX6_demand 27 = .ok (.ifCond .eq 5, 3) := by decide +kernel
theorem dX6_demand_30 : decode cX6_demand 30 = .ok (.iconst 0, 1) := by decide +kernel
theorem dX6_demand_31 : decode cX6_demand 31 = .ok (.ireturn, 1) := by decide +kernel
theorem dX6_demand_32 : decode cX6_demand 32 = .ok (.aload_n 0, 1) := by decide +kernel
theorem dX6_demand_33 : decode cX6_demand 33 = .ok (.getfield 13, 3) := by decide +kernel
theorem dX6_demand_36 : decode cX6_demand 36 = .ok (.iload_n 1, 1) := by decide +kernel
theorem dX6_demand_37 : decode cX6_demand 37 = .ok (.invokestatic 49, 3) := by decide +kernel
theorem dX6_demand_40 : decode cX6_demand 40 = .ok (.iconst 5, 1) := by decide +kernel
theorem dX6_demand_41 : decode cX6_demand 41 = .ok (.iadd, 1) := by decide +kernel
theorem dX6_demand_42 : decode cX6_demand 42 = .ok (.iload_n 2, 1) := by decide +kernel
theorem dX6_demand_43 : decode cX6_demand 43 = .ok (.iadd, 1) := by decide +kernel
theorem dX6_demand_44 : decode cX6_demand 44 = .ok (.iaload, 1) := by decide +kernel
theorem dX6_demand_45 : decode cX6_demand 45 = .ok (.ireturn, 1) := by decide +kernel
theorem dX6_pack_0 : decode cX6_pack 0 = .ok (.aload_n 0, 1) := by decide +kernel
theorem dX6_pack_1 : decode cX6_pack 1 = .ok (.aload_n 0, 1) := by decide +kernel
theorem dX6_pack_2 : decode cX6_pack 2 = .ok (.getfield 13, 3) := by decide +kernel
theorem dX6_pack_5 : decode cX6_pack 5 = .ok (.iload_n 1, 1) := by decide +kernel
theorem dX6_pack_6 : decode cX6_pack 6 = .ok (.invokestatic 79, 3) := by decide +kernel
theorem dX6_pack_9 : decode cX6_pack 9 = .ok (.ifCond .eq 25, 3) := by decide +kernel
theorem dX6_pack_12 : decode cX6_pack 12 = .ok (.iload_n 2, 1) := by decide +kernel
theorem dX6_pack_13 : decode cX6_pack 13 = .ok (.i2l, 1) := by decide +kernel
theorem dX6_pack_14 : decode cX6_pack 14 = .ok (.lconst 0, 1) := by decide +kernel
theorem dX6_pack_15 : decode cX6_pack 15 = .ok (.aload_n 0, 1) := by decide +kernel
theorem dX6_pack_16 : decode cX6_pack 16 = .ok (.getfield 13, 3) := by decide +kernel
theorem dX6_pack_19 : decode cX6_pack 19 = .ok (.iload_n 1, 1) := by decide +kernel
theorem dX6_pack_20 : decode cX6_pack 20 = .ok (.invokestatic 49, 3) := by decide +kernel
theorem dX6_pack_23 : decode cX6_pack 23 = .ok (.bipush 8, 2) := by decide +kernel
theorem dX6_pack_25 : decode cX6_pack 25 = .ok (.iadd, 1) := by decide +kernel
theorem dX6_pack_26 : decode cX6_pack 26 = .ok (.iaload, 1) := by decide +kernel
theorem dX6_pack_27 : decode cX6_pack 27 = .ok (.i2l, 1) := by decide +kernel
theorem dX6_pack_28 : decode cX6_pack 28 = .ok (.invokestatic 45, 3) := by decide +kernel
theorem dX6_pack_31 : decode cX6_pack 31 = .ok (.ifCond .ne 7, 3) := by decide +kernel
theorem dX6_pack_34 : decode cX6_pack 34 = .ok (.iconst 1, 1) := by decide +kernel
theorem dX6_pack_35 : decode cX6_pack 35 = .ok (.goto 20, 3) := by decide +kernel
theorem dX6_pack_38 : decode cX6_pack 38 = .ok (.iload_n 3, 1) := by decide +kernel
theorem dX6_pack_39 : decode cX6_pack 39 = .ok (.i2l, 1) := by decide +kernel
theorem dX6_pack_40 : decode cX6_pack 40 = .ok (.lconst 0, 1) := by decide +kernel
theorem dX6_pack_41 : decode cX6_pack 41 = .ok (.ldc2_w 163, 3) := by decide +kernel
theorem dX6_pack_44 : decode cX6_pack 44 = .ok (.invokestatic 45, 3) := by decide +kernel
theorem dX6_pack_47 : decode cX6_pack 47 = .ok (.ifCond .eq 7, 3) := by decide +kernel
theorem dX6_pack_50 : decode cX6_pack 50 = .ok (.iconst 0, 1) := by decide +kernel
theorem dX6_pack_51 : decode cX6_pack 51 = .ok (.goto 4, 3) := by decide +kernel
theorem dX6_pack_54 : decode cX6_pack 54 = .ok (.iconst 2, 1) := by decide +kernel
theorem dX6_pack_55 : decode cX6_pack 55 = .ok (.invokevirtual 103, 3) := by decide +kernel
theorem dX6_pack_58 : decode cX6_pack 58 = .ok (.ifCond .eq 5, 3) := by decide +kernel
theorem dX6_pack_61 : decode cX6_pack 61 = .ok (.iconst 0, 1) := by decide +kernel
theorem dX6_pack_62 : decode cX6_pack 62 = .ok (.ireturn, 1) := by decide +kernel
theorem dX6_pack_63 : decode cX6_pack 63 = .ok (.aload_n 0, 1) := by decide +kernel
theorem dX6_pack_64 : decode cX6_pack 64 = .ok (.getfield 13, 3) := by decide +kernel
theorem dX6_pack_67 : decode cX6_pack 67 = .ok (.iload_n 1, 1) := by decide +kernel
theorem dX6_pack_68 : decode cX6_pack 68 = .ok (.iload_n 2, 1) := by decide +kernel
theorem dX6_pack_69 : decode cX6_pack 69 = .ok (.iload_n 3, 1) := by decide +kernel
theorem dX6_pack_70 : decode cX6_pack 70 = .ok (.invokestatic 91, 3) := by decide +kernel
theorem dX6_pack_73 : decode cX6_pack 73 = .ok (.ireturn, 1) := by decide +kernel
theorem dX6_setting_0 : decode cX6_setting 0 = .ok (.aload_n 0, 1) := by decide +kernel
theorem dX6_setting_1 : decode cX6_setting 1 = .ok (.iload_n 1, 1) := by decide +kernel
theorem dX6_setting_2 : decode cX6_setting 2 = .ok (.i2l, 1) := by decide +kernel
theorem dX6_setting_3 : decode cX6_setting 3 = .ok (.lconst 0, 1) := by decide +kernel
theorem dX6_setting_4 : decode cX6_setting 4 = .ok (.lconst 1, 1) := by decide +kernel
theorem dX6_setting_5 : decode cX6_setting 5 = .ok (.invokestatic 45, 3) := by decide +kernel
theorem dX6_setting_8 : decode cX6_setting 8 = .ok (.ifCond .eq 7, 3) := by decide +kernel
theorem dX6_setting_11 : decode cX6_setting 11 = .ok (.iconst 0, 1) := by decide +kernel
theorem dX6_setting_12 : decode cX6_setting 12 = .ok (.goto 4, 3) := by decide +kernel
theorem dX6_setting_15 : decode cX6_setting 15 = .ok (.iconst 1, 1) := by decide +kernel
theorem dX6_setting_16 : decode cX6_setting 16 = .ok (.invokevirtual 103, 3) := by decide +kernel
theorem dX6_setting_19 : decode cX6_setting 19 = .ok (.ifCond .eq 5, 3) := by decide +kernel
theorem dX6_setting_22 : decode cX6_setting 22 = .ok (.iconst 0, 1) := by decide +kernel
theorem dX6_setting_23 : decode cX6_setting 23 = .ok (.ireturn, 1) := by decide +kernel
theorem dX6_setting_24 : decode cX6_setting 24 = .ok (.aload_n 0, 1) := by decide +kernel
theorem dX6_setting_25 : decode cX6_setting 25 = .ok (.getfield 13, 3) := by decide +kernel
theorem dX6_setting_28 : decode cX6_setting 28 = .ok (.iconst 2, 1) := by decide +kernel
theorem dX6_setting_29 : decode cX6_setting 29 = .ok (.iload_n 1, 1) := by decide +kernel
theorem dX6_setting_30 : decode cX6_setting 30 = .ok (.iadd, 1) := by decide +kernel
theorem dX6_setting_31 : decode cX6_setting 31 = .ok (.iaload, 1) := by decide +kernel
theorem dX6_setting_32 : decode cX6_setting 32 = .ok (.ireturn, 1) := by decide +kernel
theorem dX6_remember_0 : decode cX6_remember 0 = .ok (.aload_n 0, 1) := by decide +kernel
theorem dX6_remember_1 : decode cX6_remember 1 = .ok (.getfield 158, 3) := by decide +kernel
theorem dX6_remember_4 : decode cX6_remember 4 = .ok (.bipush 14, 2) := by decide +kernel
theorem dX6_remember_6 : decode cX6_remember 6 = .ok (.if_icmp .ne 44, 3) := by decide +kernel
theorem dX6_remember_9 : decode cX6_remember 9 = .ok (.iconst 0, 1) := by decide +kernel
theorem dX6_remember_10 : decode cX6_remember 10 = .ok (.istore_n 1, 1) := by decide +kernel
theorem dX6_remember_11 : decode cX6_remember 11 = .ok (.iload_n 1, 1) := by decide +kernel
theorem dX6_remember_12 : decode cX6_remember 12 = .ok (.sipush 1820, 3) := by decide +kernel
theorem dX6_remember_15 : decode cX6_remember 15 = .ok (.if_icmp .ge 25, 3) := by decide +kernel
theorem dX6_remember_18 : decode cX6_remember 18 = .ok (.aload_n 0, 1) := by decide +kernel
theorem dX6_remember_19 : decode cX6_remember 19 = .ok (.getfield 19, 3) := by decide +kernel
theorem dX6_remember_22 : decode cX6_remember 22 = .ok (.iload_n 1, 1) := by decide +kernel
theorem dX6_remember_23 : decode cX6_remember 23 = .ok (.aload_n 0, 1) := by decide +kernel
theorem dX6_remember_24 : decode cX6_remember 24 = .ok (.getfield 19, 3) := by decide +kernel
theorem dX6_remember_27 : decode cX6_remember 27 = .ok (.iload_n 1, 1) := by decide +kernel
theorem dX6_remember_28 : decode cX6_remember 28 = .ok (.sipush 140, 3) := by decide +kernel
theorem dX6_remember_31 : decode cX6_remember 31 = .ok (.iadd, 1) := by decide +kernel
theorem dX6_remember_32 : decode cX6_remember 32 = .ok (.iaload, 1) := by decide +kernel
theorem dX6_remember_33 : decode cX6_remember 33 = .ok (.iastore, 1) := by decide +kernel
theorem dX6_remember_34 : decode cX6_remember 34 = .ok (.iinc 1 1, 3) := by decide +kernel
theorem dX6_remember_37 : decode cX6_remember 37 = .ok (.goto (-26), 3) := by decide +kernel
theorem dX6_remember_40 : decode cX6_remember 40 = .ok (.aload_n 0, 1) := by decide +kernel
theorem dX6_remember_41 : decode cX6_remember 41 = .ok (.dup, 1) := by decide +kernel
theorem dX6_remember_42 : decode cX6_remember 42 = .ok (.getfield 158, 3) := by decide +kernel
theorem dX6_remember_45 : decode cX6_remember 45 = .ok (.iconst 1, 1) := by decide +kernel
theorem dX6_remember_46 : decode cX6_remember 46 = .ok (.isub, 1) := by decide +kernel
theorem dX6_remember_47 : decode cX6_remember 47 = .ok (.putfield 158, 3) := by decide +kernel
theorem dX6_remember_50 : decode cX6_remember 50 = .ok (.aload_n 0, 1) := by decide +kernel
theorem dX6_remember_51 : decode cX6_remember 51 = .ok (.getfield 13, 3) := by decide +kernel
theorem dX6_remember_54 : decode cX6_remember 54 = .ok (.iconst 0, 1) := by decide +kernel
theorem dX6_remember_55 : decode cX6_remember 55 = .ok (.aload_n 0, 1) := by decide +kernel
theorem dX6_remember_56 : decode cX6_remember 56 = .ok (.getfield 19, 3) := by decide +kernel
theorem dX6_remember_59 : decode cX6_remember 59 = .ok (.sipush 140, 3) := by decide +kernel
theorem dX6_remember_62 : decode cX6_remember 62 = .ok (.aload_n 0, 1) := by decide +kernel
theorem dX6_remember_63 : decode cX6_remember 63 = .ok (.getfield 158, 3) := by decide +kernel
theorem dX6_remember_66 : decode cX6_remember 66 = .ok (.imul, 1) := by decide +kernel
theorem dX6_remember_67 : decode cX6_remember 67 = .ok (.invokestatic 154, 3) := by decide +kernel
theorem dX6_remember_70 : decode cX6_remember 70 = .ok (.aload_n 0, 1) := by decide +kernel
theorem dX6_remember_71 : decode cX6_remember 71 = .ok (.dup, 1) := by decide +kernel
theorem dX6_remember_72 : decode cX6_remember 72 = .ok (.getfield 158, 3) := by decide +kernel
theorem dX6_remember_75 : decode cX6_remember 75 = .ok (.iconst 1, 1) := by decide +kernel
theorem dX6_remember_76 : decode cX6_remember 76 = .ok (.iadd, 1) := by decide +kernel
theorem dX6_remember_77 : decode cX6_remember 77 = .ok (.putfield 158, 3) := by decide +kernel
theorem dX6_remember_80 : decode cX6_remember 80 = .ok (.return_, 1) := by decide +kernel
theorem dX6_offer_0 : decode cX6_offer 0 = .ok (.aload_n 0, 1) := by decide +kernel
theorem dX6_offer_1 : decode cX6_offer 1 = .ok (.iload_n 1, 1) := by decide +kernel
theorem dX6_offer_2 : decode cX6_offer 2 = .ok (.invokestatic 83, 3) := by decide +kernel
theorem dX6_offer_5 : decode cX6_offer 5 = .ok (.ifCond .ne 7, 3) := by decide +kernel
theorem dX6_offer_8 : decode cX6_offer 8 = .ok (.iconst 1, 1) := by decide +kernel
theorem dX6_offer_9 : decode cX6_offer 9 = .ok (.goto 54, 3) := by decide +kernel
theorem dX6_offer_12 : decode cX6_offer 12 = .ok (.iload_n 2, 1) := by decide +kernel
theorem dX6_offer_13 : decode cX6_offer 13 = .ok (.i2l, 1) := by decide +kernel
theorem dX6_offer_14 : decode cX6_offer 14 = .ok (.lconst 1, 1) := by decide +kernel
theorem dX6_offer_15 : decode cX6_offer 15 = .ok (.ldc2_w 77, 3) := by decide +kernel
theorem dX6_offer_18 : decode cX6_offer 18 = .ok (.invokestatic 45, 3) := by decide +kernel
theorem dX6_offer_21 : decode cX6_offer 21 = .ok (.ifCond .eq 15, 3) := by decide +kernel
theorem dX6_offer_24 : decode cX6_offer 24 = .ok (.iload_n 3, 1) := by decide +kernel
theorem dX6_offer_25 : decode cX6_offer 25 = .ok (.i2l, 1) := by decide +kernel
theorem dX6_offer_26 : decode cX6_offer 26 = .ok (.lconst 1, 1) := by decide +kernel
theorem dX6_offer_27 : decode cX6_offer 27 = .ok (.ldc2_w 77, 3) := by decide +kernel
theorem dX6_offer_30 : decode cX6_offer 30 = .ok (.invokestatic 45, 3) := by decide +kernel
theorem dX6_offer_33 : decode cX6_offer 33 = .ok (.ifCond .ne 7, 3) := by decide +kernel
theorem dX6_offer_36 : decode cX6_offer 36 = .ok (.iconst 2, 1) := by decide +kernel
theorem dX6_offer_37 : decode cX6_offer 37 = .ok (.goto 26, 3) := by decide +kernel
theorem dX6_offer_40 : decode cX6_offer 40 = .ok (.aload_n 0, 1) := by decide +kernel
theorem dX6_offer_41 : decode cX6_offer 41 = .ok (.getfield 13, 3) := by decide +kernel
theorem dX6_offer_44 : decode cX6_offer 44 = .ok (.iconst 0, 1) := by decide +kernel
theorem dX6_offer_45 : decode cX6_offer 45 = .ok (.iaload, 1) := by decide +kernel
theorem dX6_offer_46 : decode cX6_offer 46 = .ok (.ifCond .gt 12, 3) := by decide +kernel
theorem dX6_offer_49 : decode cX6_offer 49 = .ok (.aload_n 0, 1) := by decide +kernel
theorem dX6_offer_50 : decode cX6_offer 50 = .ok (.getfield 13, 3) := by decide +kernel
theorem dX6_offer_53 : decode cX6_offer 53 = .ok (.iconst 4, 1) := by decide +kernel
theorem dX6_offer_54 : decode cX6_offer 54 = .ok (.iaload, 1) := by decide +kernel
theorem dX6_offer_55 : decode cX6_offer 55 = .ok (.ifCond .le 7, 3) := by decide +kernel
theorem dX6_offer_58 : decode cX6_offer 58 = .ok (.iconst 3, 1) := by decide +kernel
theorem dX6_offer_59 : decode cX6_offer 59 = .ok (.goto 4, 3) := by decide +kernel
theorem dX6_offer_62 : decode cX6_offer 62 = .ok (.iconst 0, 1) := by decide +kernel
theorem dX6_offer_63 : decode cX6_offer 63 = .ok (.invokevirtual 103, 3) := by decide +kernel
theorem dX6_offer_66 : decode cX6_offer 66 = .ok (.ifCond .eq 5, 3) := by decide +kernel
theorem dX6_offer_69 : decode cX6_offer 69 = .ok (.iconst 0, 1) := by decide +kernel
theorem dX6_offer_70 : decode cX6_offer 70 = .ok (.ireturn, 1) := by decide +kernel
theorem dX6_offer_71 : decode cX6_offer 71 = .ok (.aload_n 0, 1) := by decide +kernel
theorem dX6_offer_72 : decode cX6_offer 72 = .ok (.invokevirtual 167, 3) := by decide +kernel
theorem dX6_offer_75 : decode cX6_offer 75 = .ok (.aload_n 0, 1) := by decide +kernel
theorem dX6_offer_76 : decode cX6_offer 76 = .ok (.getfield 13, 3) := by decide +kernel
theorem dX6_offer_79 : decode cX6_offer 79 = .ok (.iconst 5, 1) := by decide +kernel
theorem dX6_offer_80 : decode cX6_offer 80 = .ok (.iload_n 1, 1) := by decide +kernel
theorem dX6_offer_81 : decode cX6_offer 81 = .ok (.iadd, 1) := by decide +kernel
theorem dX6_offer_82 : decode cX6_offer 82 = .ok (.iaload, 1) := by decide +kernel
theorem dX6_offer_83 : decode cX6_offer 83 = .ok (.istore 4, 2) := by decide +kernel
theorem dX6_offer_85 : decode cX6_offer 85 = .ok (.aload_n 0, 1) := by decide +kernel
theorem dX6_offer_86 : decode cX6_offer 86 = .ok (.getfield 13, 3) := by decide +kernel
theorem dX6_offer_89 : decode cX6_offer 89 = .ok (.iconst 5, 1) := by decide +kernel
theorem dX6_offer_90 : decode cX6_offer 90 = .ok (.iload_n 1, 1) := by decide +kernel
theorem dX6_offer_91 : decode cX6_offer 91 = .ok (.iadd, 1) := by decide +kernel
theorem dX6_offer_92 : decode cX6_offer 92 = .ok (.iload_n 2, 1) := by decide +kernel
theorem dX6_offer_93 : decode cX6_offer 93 = .ok (.iastore, 1) := by decide +kernel
theorem dX6_offer_94 : decode cX6_offer 94 = .ok (.aload_n 0, 1) := by decide +kernel
theorem dX6_offer_95 : decode cX6_offer 95 = .ok (.getfield 13, 3) := by decide +kernel
theorem dX6_offer_98 : decode cX6_offer 98 = .ok (.bipush 8, 2) := by decide +kernel
theorem dX6_offer_100 : decode cX6_offer 100 = .ok (.iload_n 1, 1) := by decide +kernel
theorem dX6_offer_101 : decode cX6_offer 101 = .ok (.iadd, 1) := by decide +kernel
theorem dX6_offer_102 : decode cX6_offer 102 = .ok (.iload_n 3, 1) := by decide +kernel
theorem dX6_offer_103 : decode cX6_offer 103 = .ok (.iastore, 1) := by decide +kernel
theorem dX6_offer_104 : decode cX6_offer 104 = .ok (.iload 4, 2) := by decide +kernel
theorem dX6_offer_106 : decode cX6_offer 106 = .ok (.ireturn, 1) := by decide +kernel
theorem dX6_price_0 : decode cX6_price 0 = .ok (.aload_n 0, 1) := by decide +kernel
theorem dX6_price_1 : decode cX6_price 1 = .ok (.iload_n 1, 1) := by decide +kernel
theorem dX6_price_2 : decode cX6_price 2 = .ok (.invokestatic 83, 3) := by decide +kernel
theorem dX6_price_5 : decode cX6_price 5 = .ok (.ifCond .ne 7, 3) := by decide +kernel
theorem dX6_price_8 : decode cX6_price 8 = .ok (.iconst 1, 1) := by decide +kernel
theorem dX6_price_9 : decode cX6_price 9 = .ok (.goto 33, 3) := by decide +kernel
theorem dX6_price_12 : decode cX6_price 12 = .ok (.iload_n 2, 1) := by decide +kernel
theorem dX6_price_13 : decode cX6_price 13 = .ok (.i2l, 1) := by decide +kernel
theorem dX6_price_14 : decode cX6_price 14 = .ok (.lconst 1, 1) := by decide +kernel
theorem dX6_price_15 : decode cX6_price 15 = .ok (.ldc2_w 87, 3) := by decide +kernel
theorem dX6_price_18 : decode cX6_price 18 = .ok (.invokestatic 45, 3) := by decide +kernel
theorem dX6_price_21 : decode cX6_price 21 = .ok (.ifCond .ne 7, 3) := by decide +kernel
theorem dX6_price_24 : decode cX6_price 24 = .ok (.iconst 2, 1) := by decide +kernel
theorem dX6_price_25 : decode cX6_price 25 = .ok (.goto 17, 3) := by decide +kernel
theorem dX6_price_28 : decode cX6_price 28 = .ok (.aload_n 0, 1) := by decide +kernel
theorem dX6_price_29 : decode cX6_price 29 = .ok (.getfield 13, 3) := by decide +kernel
theorem dX6_price_32 : decode cX6_price 32 = .ok (.iconst 0, 1) := by decide +kernel
theorem dX6_price_33 : decode cX6_price 33 = .ok (.iaload, 1) := by decide +kernel
theorem dX6_price_34 : decode cX6_price 34 = .ok (.ifCond .le 7, 3) := by decide +kernel
theorem dX6_price_37 : decode cX6_price 37 = .ok (.iconst 3, 1) := by decide +kernel
theorem dX6_price_38 : decode cX6_price 38 = .ok (.goto 4, 3) := by decide +kernel
theorem dX6_price_41 : decode cX6_price 41 = .ok (.iconst 0, 1) := by decide +kernel
theorem dX6_price_42 : decode cX6_price 42 = .ok (.invokevirtual 103, 3) := by decide +kernel
theorem dX6_price_45 : decode cX6_price 45 = .ok (.ifCond .eq 5, 3) := by decide +kernel
theorem dX6_price_48 : decode cX6_price 48 = .ok (.iconst 0, 1) := by decide +kernel
theorem dX6_price_49 : decode cX6_price 49 = .ok (.ireturn, 1) := by decide +kernel
theorem dX6_price_50 : decode cX6_price 50 = .ok (.aload_n 0, 1) := by decide +kernel
theorem dX6_price_51 : decode cX6_price 51 = .ok (.invokevirtual 167, 3) := by decide +kernel
theorem dX6_price_54 : decode cX6_price 54 = .ok (.aload_n 0, 1) := by decide +kernel
theorem dX6_price_55 : decode cX6_price 55 = .ok (.getfield 13, 3) := by decide +kernel
theorem dX6_price_58 : decode cX6_price 58 = .ok (.bipush 11, 2) := by decide +kernel
theorem dX6_price_60 : decode cX6_price 60 = .ok (.iload_n 1, 1) := by decide +kernel
theorem dX6_price_61 : decode cX6_price 61 = .ok (.iadd, 1) := by decide +kernel
theorem dX6_price_62 : decode cX6_price 62 = .ok (.iaload, 1) := by decide +kernel
theorem dX6_price_63 : decode cX6_price 63 = .ok (.istore_n 3, 1) := by decide +kernel
theorem dX6_price_64 : decode cX6_price 64 = .ok (.aload_n 0, 1) := by decide +kernel
theorem dX6_price_65 : decode cX6_price 65 = .ok (.getfield 13, 3) := by decide +kernel
theorem dX6_price_68 : decode cX6_price 68 = .ok (.bipush 11, 2) := by decide +kernel
theorem dX6_price_70 : decode cX6_price 70 = .ok (.iload_n 1, 1) := by decide +kernel
theorem dX6_price_71 : decode cX6_price 71 = .ok (.iadd, 1) := by decide +kernel
theorem dX6_price_72 : decode cX6_price 72 = .ok (.iload_n 2, 1) := by decide +kernel
theorem dX6_price_73 : decode cX6_price 73 = .ok (.iastore, 1) := by decide +kernel
theorem dX6_price_74 : decode cX6_price 74 = .ok (.iload_n 3, 1) := by decide +kernel
theorem dX6_price_75 : decode cX6_price 75 = .ok (.ireturn, 1) := by decide +kernel
theorem dX6_join_0 : decode cX6_join 0 = .ok (.aload_n 0, 1) := by decide +kernel
theorem dX6_join_1 : decode cX6_join 1 = .ok (.aload_n 0, 1) := by decide +kernel
theorem dX6_join_2 : decode cX6_join 2 = .ok (.getfield 13, 3) := by decide +kernel
theorem dX6_join_5 : decode cX6_join 5 = .ok (.iload_n 1, 1) := by decide +kernel
theorem dX6_join_6 : decode cX6_join 6 = .ok (.iload_n 2, 1) := by decide +kernel
theorem dX6_join_7 : decode cX6_join 7 = .ok (.invokestatic 112, 3) := by decide +kernel
theorem dX6_join_10 : decode cX6_join 10 = .ok (.invokevirtual 103, 3) := by decide +kernel
theorem dX6_join_13 : decode cX6_join 13 = .ok (.ifCond .eq 5, 3) := by decide +kernel
theorem dX6_join_16 : decode cX6_join 16 = .ok (.iconst 0, 1) := by decide +kernel
theorem dX6_join_17 : decode cX6_join 17 = .ok (.ireturn, 1) := by decide +kernel
theorem dX6_join_18 : decode cX6_join 18 = .ok (.aload_n 0, 1) := by decide +kernel
theorem dX6_join_19 : decode cX6_join 19 = .ok (.invokevirtual 167, 3) := by decide +kernel
theorem dX6_join_22 : decode cX6_join 22 = .ok (.aload_n 0, 1) := by decide +kernel
theorem dX6_join_23 : decode cX6_join 23 = .ok (.getfield 13, 3) := by decide +kernel
theorem dX6_join_26 : decode cX6_join 26 = .ok (.iload_n 1, 1) := by decide +kernel
theorem dX6_join_27 : decode cX6_join 27 = .ok (.iload_n 2, 1) := by decide +kernel
theorem dX6_join_28 : decode cX6_join 28 = .ok (.invokestatic 116, 3) := by decide +kernel
theorem dX6_join_31 : decode cX6_join 31 = .ok (.ireturn, 1) := by decide +kernel
theorem dX6_value_0 : decode cX6_value 0 = .ok (.aload_n 0, 1) := by decide +kernel
theorem dX6_value_1 : decode cX6_value 1 = .ok (.aload_n 0, 1) := by decide +kernel
theorem dX6_value_2 : decode cX6_value 2 = .ok (.getfield 13, 3) := by decide +kernel
theorem dX6_value_5 : decode cX6_value 5 = .ok (.iload_n 1, 1) := by decide +kernel
theorem dX6_value_6 : decode cX6_value 6 = .ok (.iload_n 2, 1) := by decide +kernel
theorem dX6_value_7 : decode cX6_value 7 = .ok (.iload_n 3, 1) := by decide +kernel
theorem dX6_value_8 : decode cX6_value 8 = .ok (.invokestatic 119, 3) := by decide +kernel
theorem dX6_value_11 : decode cX6_value 11 = .ok (.invokevirtual 103, 3) := by decide +kernel
theorem dX6_value_14 : decode cX6_value 14 = .ok (.ifCond .eq 5, 3) := by decide +kernel
theorem dX6_value_17 : decode cX6_value 17 = .ok (.iconst 0, 1) := by decide +kernel
theorem dX6_value_18 : decode cX6_value 18 = .ok (.ireturn, 1) := by decide +kernel
theorem dX6_value_19 : decode cX6_value 19 = .ok (.aload_n 0, 1) := by decide +kernel
theorem dX6_value_20 : decode cX6_value 20 = .ok (.invokevirtual 167, 3) := by decide +kernel
theorem dX6_value_23 : decode cX6_value 23 = .ok (.aload_n 0, 1) := by decide +kernel
theorem dX6_value_24 : decode cX6_value 24 = .ok (.getfield 13, 3) := by decide +kernel
theorem dX6_value_27 : decode cX6_value 27 = .ok (.iload_n 1, 1) := by decide +kernel
theorem dX6_value_28 : decode cX6_value 28 = .ok (.iload_n 2, 1) := by decide +kernel
theorem dX6_value_29 : decode cX6_value 29 = .ok (.iload_n 3, 1) := by decide +kernel
theorem dX6_value_30 : decode cX6_value 30 = .ok (.invokestatic 122, 3) := by decide +kernel
theorem dX6_value_33 : decode cX6_value 33 = .ok (.ireturn, 1) := by decide +kernel
theorem dX6_ask_0 : decode cX6_ask 0 = .ok (.aload_n 0, 1) := by decide +kernel
theorem dX6_ask_1 : decode cX6_ask 1 = .ok (.aload_n 0, 1) := by decide +kernel
theorem dX6_ask_2 : decode cX6_ask 2 = .ok (.getfield 13, 3) := by decide +kernel
theorem dX6_ask_5 : decode cX6_ask 5 = .ok (.iload_n 1, 1) := by decide +kernel
theorem dX6_ask_6 : decode cX6_ask 6 = .ok (.iload_n 2, 1) := by decide +kernel
theorem dX6_ask_7 : decode cX6_ask 7 = .ok (.iload_n 3, 1) := by decide +kernel
theorem dX6_ask_8 : decode cX6_ask 8 = .ok (.invokestatic 125, 3) := by decide +kernel
theorem dX6_ask_11 : decode cX6_ask 11 = .ok (.invokevirtual 103, 3) := by decide +kernel
theorem dX6_ask_14 : decode cX6_ask 14 = .ok (.ifCond .eq 5, 3) := by decide +kernel
theorem dX6_ask_17 : decode cX6_ask 17 = .ok (.iconst 0, 1) := by decide +kernel
theorem dX6_ask_18 : decode cX6_ask 18 = .ok (.ireturn, 1) := by decide +kernel
theorem dX6_ask_19 : decode cX6_ask 19 = .ok (.aload_n 0, 1) := by decide +kernel
theorem dX6_ask_20 : decode cX6_ask 20 = .ok (.invokevirtual 167, 3) := by decide +kernel
theorem dX6_ask_23 : decode cX6_ask 23 = .ok (.aload_n 0, 1) := by decide +kernel
theorem dX6_ask_24 : decode cX6_ask 24 = .ok (.getfield 13, 3) := by decide +kernel
theorem dX6_ask_27 : decode cX6_ask 27 = .ok (.iload_n 1, 1) := by decide +kernel
theorem dX6_ask_28 : decode cX6_ask 28 = .ok (.iload_n 2, 1) := by decide +kernel
theorem dX6_ask_29 : decode cX6_ask 29 = .ok (.iload_n 3, 1) := by decide +kernel
theorem dX6_ask_30 : decode cX6_ask 30 = .ok (.invokestatic 128, 3) := by decide +kernel
theorem dX6_ask_33 : decode cX6_ask 33 = .ok (.ireturn, 1) := by decide +kernel
theorem dX6_bid_0 : decode cX6_bid 0 = .ok (.aload_n 0, 1) := by decide +kernel
theorem dX6_bid_1 : decode cX6_bid 1 = .ok (.aload_n 0, 1) := by decide +kernel
theorem dX6_bid_2 : decode cX6_bid 2 = .ok (.getfield 13, 3) := by decide +kernel
theorem dX6_bid_5 : decode cX6_bid 5 = .ok (.iload_n 1, 1) := by decide +kernel
theorem dX6_bid_6 : decode cX6_bid 6 = .ok (.invokestatic 79, 3) := by decide +kernel
theorem dX6_bid_9 : decode cX6_bid 9 = .ok (.ifCond .ne 7, 3) := by decide +kernel
theorem dX6_bid_12 : decode cX6_bid 12 = .ok (.iconst 1, 1) := by decide +kernel
theorem dX6_bid_13 : decode cX6_bid 13 = .ok (.goto 18, 3) := by decide +kernel
theorem dX6_bid_16 : decode cX6_bid 16 = .ok (.aload_n 0, 1) := by decide +kernel
theorem dX6_bid_17 : decode cX6_bid 17 = .ok (.getfield 13, 3) := by decide +kernel
theorem dX6_bid_20 : decode cX6_bid 20 = .ok (.iconst 1, 1) := by decide +kernel
theorem dX6_bid_21 : decode cX6_bid 21 = .ok (.iaload, 1) := by decide +kernel
theorem dX6_bid_22 : decode cX6_bid 22 = .ok (.iconst 1, 1) := by decide +kernel
theorem dX6_bid_23 : decode cX6_bid 23 = .ok (.if_icmp .ne 7, 3) := by decide +kernel
theorem dX6_bid_26 : decode cX6_bid 26 = .ok (.iconst 2, 1) := by decide +kernel
theorem dX6_bid_27 : decode cX6_bid 27 = .ok (.goto 4, 3) := by decide +kernel
theorem dX6_bid_30 : decode cX6_bid 30 = .ok (.iconst 0, 1) := by decide +kernel
theorem dX6_bid_31 : decode cX6_bid 31 = .ok (.invokevirtual 103, 3) := by decide +kernel
theorem dX6_bid_34 : decode cX6_bid 34 = .ok (.ifCond .eq 5, 3) := by decide +kernel
theorem dX6_bid_37 : decode cX6_bid 37 = .ok (.iconst 0, 1) := by decide +kernel
theorem dX6_bid_38 : decode cX6_bid 38 = .ok (.ireturn, 1) := by decide +kernel
theorem dX6_bid_39 : decode cX6_bid 39 = .ok (.aload_n 0, 1) := by decide +kernel
theorem dX6_bid_40 : decode cX6_bid 40 = .ok (.invokevirtual 167, 3) := by decide +kernel
theorem dX6_bid_43 : decode cX6_bid 43 = .ok (.aload_n 0, 1) := by decide +kernel
theorem dX6_bid_44 : decode cX6_bid 44 = .ok (.getfield 13, 3) := by decide +kernel
theorem dX6_bid_47 : decode cX6_bid 47 = .ok (.iload_n 1, 1) := by decide +kernel
theorem dX6_bid_48 : decode cX6_bid 48 = .ok (.invokestatic 131, 3) := by decide +kernel
theorem dX6_bid_51 : decode cX6_bid 51 = .ok (.ireturn, 1) := by decide +kernel
theorem dX6_close_0 : decode cX6_close 0 = .ok (.aload_n 0, 1) := by decide +kernel
theorem dX6_close_1 : decode cX6_close 1 = .ok (.aload_n 0, 1) := by decide +kernel
theorem dX6_close_2 : decode cX6_close 2 = .ok (.getfield 13, 3) := by decide +kernel
theorem dX6_close_5 : decode cX6_close 5 = .ok (.iconst 1, 1) := by decide +kernel
theorem dX6_close_6 : decode cX6_close 6 = .ok (.iaload, 1) := by decide +kernel
theorem dX6_close_7 : decode cX6_close 7 = .ok (.iconst 1, 1) := by decide +kernel
theorem dX6_close_8 : decode cX6_close 8 = .ok (.if_icmp .ne 7, 3) := by decide +kernel
theorem dX6_close_11 : decode cX6_close 11 = .ok (.iconst 1, 1) := by decide +kernel
theorem dX6_close_12 : decode cX6_close 12 = .ok (.goto 4, 3) := by decide +kernel
theorem dX6_close_15 : decode cX6_close 15 = .ok (.iconst 0, 1) := by decide +kernel
theorem dX6_close_16 : decode cX6_close 16 = .ok (.invokevirtual 103, 3) := by decide +kernel
theorem dX6_close_19 : decode cX6_close 19 = .ok (.ifCond .eq 5, 3) := by decide +kernel
theorem dX6_close_22 : decode cX6_close 22 = .ok (.iconst 0, 1) := by decide +kernel
theorem dX6_close_23 : decode cX6_close 23 = .ok (.ireturn, 1) := by decide +kernel
theorem dX6_close_24 : decode cX6_close 24 = .ok (.aload_n 0, 1) := by decide +kernel
theorem dX6_close_25 : decode cX6_close 25 = .ok (.invokevirtual 167, 3) := by decide +kernel
theorem dX6_close_28 : decode cX6_close 28 = .ok (.aload_n 0, 1) := by decide +kernel
theorem dX6_close_29 : decode cX6_close 29 = .ok (.getfield 13, 3) := by decide +kernel
theorem dX6_close_32 : decode cX6_close 32 = .ok (.invokestatic 134, 3) := by decide +kernel
theorem dX6_close_35 : decode cX6_close 35 = .ok (.ireturn, 1) := by decide +kernel
theorem dX6_add_0 : decode cX6_add 0 = .ok (.aload_n 0, 1) := by decide +kernel
theorem dX6_add_1 : decode cX6_add 1 = .ok (.aload_n 0, 1) := by decide +kernel
theorem dX6_add_2 : decode cX6_add 2 = .ok (.getfield 13, 3) := by decide +kernel
theorem dX6_add_5 : decode cX6_add 5 = .ok (.iload_n 1, 1) := by decide +kernel
theorem dX6_add_6 : decode cX6_add 6 = .ok (.iload_n 2, 1) := by decide +kernel
theorem dX6_add_7 : decode cX6_add 7 = .ok (.iload_n 3, 1) := by decide +kernel
theorem dX6_add_8 : decode cX6_add 8 = .ok (.iload 4, 2) := by decide +kernel
theorem dX6_add_10 : decode cX6_add 10 = .ok (.iload 5, 2) := by decide +kernel
theorem dX6_add_12 : decode cX6_add 12 = .ok (.invokestatic 170, 3) := by decide +kernel
theorem dX6_add_15 : decode cX6_add 15 = .ok (.invokevirtual 103, 3) := by decide +kernel
theorem dX6_add_18 : decode cX6_add 18 = .ok (.ifCond .eq 5, 3) := by decide +kernel
theorem dX6_add_21 : decode cX6_add 21 = .ok (.iconst 0, 1) := by decide +kernel
theorem dX6_add_22 : decode cX6_add 22 = .ok (.ireturn, 1) := by decide +kernel
theorem dX6_add_23 : decode cX6_add 23 = .ok (.aload_n 0, 1) := by decide +kernel
theorem dX6_add_24 : decode cX6_add 24 = .ok (.invokevirtual 167, 3) := by decide +kernel
theorem dX6_add_27 : decode cX6_add 27 = .ok (.aload_n 0, 1) := by decide +kernel
theorem dX6_add_28 : decode cX6_add 28 = .ok (.getfield 13, 3) := by decide +kernel
theorem dX6_add_31 : decode cX6_add 31 = .ok (.iload_n 1, 1) := by decide +kernel
theorem dX6_add_32 : decode cX6_add 32 = .ok (.iload_n 2, 1) := by decide +kernel
theorem dX6_add_33 : decode cX6_add 33 = .ok (.iload_n 3, 1) := by decide +kernel
theorem dX6_add_34 : decode cX6_add 34 = .ok (.iload 4, 2) := by decide +kernel
theorem dX6_add_36 : decode cX6_add 36 = .ok (.iload 5, 2) := by decide +kernel
theorem dX6_add_38 : decode cX6_add 38 = .ok (.invokestatic 174, 3) := by decide +kernel
theorem dX6_add_41 : decode cX6_add 41 = .ok (.ireturn, 1) := by decide +kernel
theorem dX6_drop_0 : decode cX6_drop 0 = .ok (.aload_n 0, 1) := by decide +kernel
theorem dX6_drop_1 : decode cX6_drop 1 = .ok (.aload_n 0, 1) := by decide +kernel
theorem dX6_drop_2 : decode cX6_drop 2 = .ok (.getfield 13, 3) := by decide +kernel
theorem dX6_drop_5 : decode cX6_drop 5 = .ok (.iload_n 1, 1) := by decide +kernel
theorem dX6_drop_6 : decode cX6_drop 6 = .ok (.iload_n 2, 1) := by decide +kernel
theorem dX6_drop_7 : decode cX6_drop 7 = .ok (.invokestatic 177, 3) := by decide +kernel
theorem dX6_drop_10 : decode cX6_drop 10 = .ok (.ifCond .eq 7, 3) := by decide +kernel
theorem dX6_drop_13 : decode cX6_drop 13 = .ok (.iconst 0, 1) := by decide +kernel
theorem dX6_drop_14 : decode cX6_drop 14 = .ok (.goto 4, 3) := by decide +kernel
theorem dX6_drop_17 : decode cX6_drop 17 = .ok (.iconst 1, 1) := by decide +kernel
theorem dX6_drop_18 : decode cX6_drop 18 = .ok (.invokevirtual 103, 3) := by decide +kernel
theorem dX6_drop_21 : decode cX6_drop 21 = .ok (.ifCond .eq 5, 3) := by decide +kernel
theorem dX6_drop_24 : decode cX6_drop 24 = .ok (.iconst 0, 1) := by decide +kernel
theorem dX6_drop_25 : decode cX6_drop 25 = .ok (.ireturn, 1) := by decide +kernel
theorem dX6_drop_26 : decode cX6_drop 26 = .ok (.aload_n 0, 1) := by decide +kernel
theorem dX6_drop_27 : decode cX6_drop 27 = .ok (.invokevirtual 167, 3) := by decide +kernel
theorem dX6_drop_30 : decode cX6_drop 30 = .ok (.aload_n 0, 1) := by decide +kernel
theorem dX6_drop_31 : decode cX6_drop 31 = .ok (.getfield 13, 3) := by decide +kernel
theorem dX6_drop_34 : decode cX6_drop 34 = .ok (.iload_n 1, 1) := by decide +kernel
theorem dX6_drop_35 : decode cX6_drop 35 = .ok (.iload_n 2, 1) := by decide +kernel
theorem dX6_drop_36 : decode cX6_drop 36 = .ok (.invokestatic 181, 3) := by decide +kernel
theorem dX6_drop_39 : decode cX6_drop 39 = .ok (.ireturn, 1) := by decide +kernel
theorem dX6_isSetting_0 : decode cX6_isSetting 0 = .ok (.iload_n 0, 1) := by decide +kernel
theorem dX6_isSetting_1 : decode cX6_isSetting 1 = .ok (.ifCond .ne 17, 3) := by decide +kernel
theorem dX6_isSetting_4 : decode cX6_isSetting 4 = .ok (.iload_n 1, 1) := by decide +kernel
theorem dX6_isSetting_5 : decode cX6_isSetting 5 = .ok (.i2l, 1) := by decide +kernel
theorem dX6_isSetting_6 : decode cX6_isSetting 6 = .ok (.ldc2_w 184, 3) := by decide +kernel
theorem dX6_isSetting_9 : decode cX6_isSetting 9 = .ok (.ldc2_w 186, 3) := by decide +kernel
theorem dX6_isSetting_12 : decode cX6_isSetting 12 = .ok (.invokestatic 45, 3) := by decide +kernel
theorem dX6_isSetting_15 : decode cX6_isSetting 15 = .ok (.ifCond .ne 20, 3) := by decide +kernel
theorem dX6_isSetting_18 : decode cX6_isSetting 18 = .ok (.iload_n 0, 1) := by decide +kernel
theorem dX6_isSetting_19 : decode cX6_isSetting 19 = .ok (.iconst 1, 1) := by decide +kernel
theorem dX6_isSetting_20 : decode cX6_isSetting 20 = .ok (.if_icmp .ne 19, 3) := by decide +kernel
theorem dX6_isSetting_23 : decode cX6_isSetting 23 = .ok (.iload_n 1, 1) := by decide +kernel
theorem dX6_isSetting_24 : decode cX6_isSetting 24 = .ok (.i2l, 1) := by decide +kernel
theorem dX6_isSetting_25 : decode cX6_isSetting 25 = .ok (.lconst 1, 1) := by decide +kernel
theorem dX6_isSetting_26 : decode cX6_isSetting 26 = .ok (.ldc2_w 184, 3) := by decide +kernel
theorem dX6_isSetting_29 : decode cX6_isSetting 29 = .ok (.invokestatic 45, 3) := by decide +kernel
theorem dX6_isSetting_32 : decode cX6_isSetting 32 = .ok (.ifCond .eq 7, 3) := by decide +kernel
theorem dX6_isSetting_35 : decode cX6_isSetting 35 = .ok (.iconst 1, 1) := by decide +kernel
theorem dX6_isSetting_36 : decode cX6_isSetting 36 = .ok (.goto 4, 3) := by decide +kernel
theorem dX6_isSetting_39 : decode cX6_isSetting 39 = .ok (.iconst 0, 1) := by decide +kernel
theorem dX6_isSetting_40 : decode cX6_isSetting 40 = .ok (.ireturn, 1) := by decide +kernel
theorem dX6_set_0 : decode cX6_set 0 = .ok (.aload_n 0, 1) := by decide +kernel
theorem dX6_set_1 : decode cX6_set 1 = .ok (.iload_n 1, 1) := by decide +kernel
theorem dX6_set_2 : decode cX6_set 2 = .ok (.iload_n 2, 1) := by decide +kernel
theorem dX6_set_3 : decode cX6_set 3 = .ok (.invokestatic 188, 3) := by decide +kernel
theorem dX6_set_6 : decode cX6_set 6 = .ok (.ifCond .eq 7, 3) := by decide +kernel
theorem dX6_set_9 : decode cX6_set 9 = .ok (.iconst 0, 1) := by decide +kernel
theorem dX6_set_10 : decode cX6_set 10 = .ok (.goto 4, 3) := by decide +kernel
theorem dX6_set_13 : decode cX6_set 13 = .ok (.iconst 1, 1) := by decide +kernel
theorem dX6_set_14 : decode cX6_set 14 = .ok (.invokevirtual 103, 3) := by decide +kernel
theorem dX6_set_17 : decode cX6_set 17 = .ok (.ifCond .eq 5, 3) := by decide +kernel
theorem dX6_set_20 : decode cX6_set 20 = .ok (.iconst 0, 1) := by decide +kernel
theorem dX6_set_21 : decode cX6_set 21 = .ok (.ireturn, 1) := by decide +kernel
theorem dX6_set_22 : decode cX6_set 22 = .ok (.aload_n 0, 1) := by decide +kernel
theorem dX6_set_23 : decode cX6_set 23 = .ok (.invokevirtual 167, 3) := by decide +kernel
theorem dX6_set_26 : decode cX6_set 26 = .ok (.aload_n 0, 1) := by decide +kernel
theorem dX6_set_27 : decode cX6_set 27 = .ok (.getfield 13, 3) := by decide +kernel
theorem dX6_set_30 : decode cX6_set 30 = .ok (.iconst 2, 1) := by decide +kernel
theorem dX6_set_31 : decode cX6_set 31 = .ok (.iload_n 1, 1) := by decide +kernel
theorem dX6_set_32 : decode cX6_set 32 = .ok (.iadd, 1) := by decide +kernel
theorem dX6_set_33 : decode cX6_set 33 = .ok (.iaload, 1) := by decide +kernel
theorem dX6_set_34 : decode cX6_set 34 = .ok (.istore_n 3, 1) := by decide +kernel
theorem dX6_set_35 : decode cX6_set 35 = .ok (.aload_n 0, 1) := by decide +kernel
theorem dX6_set_36 : decode cX6_set 36 = .ok (.getfield 13, 3) := by decide +kernel
theorem dX6_set_39 : decode cX6_set 39 = .ok (.iconst 2, 1) := by decide +kernel
theorem dX6_set_40 : decode cX6_set 40 = .ok (.iload_n 1, 1) := by decide +kernel
theorem dX6_set_41 : decode cX6_set 41 = .ok (.iadd, 1) := by decide +kernel
theorem dX6_set_42 : decode cX6_set 42 = .ok (.iload_n 2, 1) := by decide +kernel
theorem dX6_set_43 : decode cX6_set 43 = .ok (.iastore, 1) := by decide +kernel
theorem dX6_set_44 : decode cX6_set 44 = .ok (.iload_n 3, 1) := by decide +kernel
theorem dX6_set_45 : decode cX6_set 45 = .ok (.ireturn, 1) := by decide +kernel
theorem dX6_undo_0 : decode cX6_undo 0 = .ok (.aload_n 0, 1) := by decide +kernel
theorem dX6_undo_1 : decode cX6_undo 1 = .ok (.aload_n 0, 1) := by decide +kernel
theorem dX6_undo_2 : decode cX6_undo 2 = .ok (.getfield 158, 3) := by decide +kernel
theorem dX6_undo_5 : decode cX6_undo 5 = .ok (.ifCond .ne 7, 3) := by decide +kernel
theorem dX6_undo_8 : decode cX6_undo 8 = .ok (.iconst 1, 1) := by decide +kernel
theorem dX6_undo_9 : decode cX6_undo 9 = .ok (.goto 4, 3) := by decide +kernel
theorem dX6_undo_12 : decode cX6_undo 12 = .ok (.iconst 0, 1) := by decide +kernel
theorem dX6_undo_13 : decode cX6_undo 13 = .ok (.invokevirtual 103, 3) := by decide +kernel
theorem dX6_undo_16 : decode cX6_undo 16 = .ok (.ifCond .eq 5, 3) := by decide +kernel
theorem dX6_undo_19 : decode cX6_undo 19 = .ok (.iconst 0, 1) := by decide +kernel
theorem dX6_undo_20 : decode cX6_undo 20 = .ok (.ireturn, 1) := by decide +kernel
theorem dX6_undo_21 : decode cX6_undo 21 = .ok (.aload_n 0, 1) := by decide +kernel
theorem dX6_undo_22 : decode cX6_undo 22 = .ok (.dup, 1) := by decide +kernel
theorem dX6_undo_23 : decode cX6_undo 23 = .ok (.getfield 158, 3) := by decide +kernel
theorem dX6_undo_26 : decode cX6_undo 26 = .ok (.iconst 1, 1) := by decide +kernel
theorem dX6_undo_27 : decode cX6_undo 27 = .ok (.isub, 1) := by decide +kernel
theorem dX6_undo_28 : decode cX6_undo 28 = .ok (.putfield 158, 3) := by decide +kernel
theorem dX6_undo_31 : decode cX6_undo 31 = .ok (.aload_n 0, 1) := by decide +kernel
theorem dX6_undo_32 : decode cX6_undo 32 = .ok (.getfield 19, 3) := by decide +kernel
theorem dX6_undo_35 : decode cX6_undo 35 = .ok (.sipush 140, 3) := by decide +kernel
theorem dX6_undo_38 : decode cX6_undo 38 = .ok (.aload_n 0, 1) := by decide +kernel
theorem dX6_undo_39 : decode cX6_undo 39 = .ok (.getfield 158, 3) := by decide +kernel
theorem dX6_undo_42 : decode cX6_undo 42 = .ok (.imul, 1) := by decide +kernel
theorem dX6_undo_43 : decode cX6_undo 43 = .ok (.aload_n 0, 1) := by decide +kernel
theorem dX6_undo_44 : decode cX6_undo 44 = .ok (.getfield 13, 3) := by decide +kernel
theorem dX6_undo_47 : decode cX6_undo 47 = .ok (.iconst 0, 1) := by decide +kernel
theorem dX6_undo_48 : decode cX6_undo 48 = .ok (.invokestatic 154, 3) := by decide +kernel
theorem dX6_undo_51 : decode cX6_undo 51 = .ok (.aload_n 0, 1) := by decide +kernel
theorem dX6_undo_52 : decode cX6_undo 52 = .ok (.getfield 158, 3) := by decide +kernel
theorem dX6_undo_55 : decode cX6_undo 55 = .ok (.ireturn, 1) := by decide +kernel
theorem dX6_best_0 : decode cX6_best 0 = .ok (.aload_n 0, 1) := by decide +kernel
theorem dX6_best_1 : decode cX6_best 1 = .ok (.iconst 0, 1) := by decide +kernel
theorem dX6_best_2 : decode cX6_best 2 = .ok (.putfield 39, 3) := by decide +kernel
theorem dX6_best_5 : decode cX6_best 5 = .ok (.aload_n 0, 1) := by decide +kernel
theorem dX6_best_6 : decode cX6_best 6 = .ok (.aload_n 0, 1) := by decide +kernel
theorem dX6_best_7 : decode cX6_best 7 = .ok (.getfield 13, 3) := by decide +kernel
theorem dX6_best_10 : decode cX6_best 10 = .ok (.iconst (-1), 1) := by decide +kernel
theorem dX6_best_11 : decode cX6_best 11 = .ok (.iconst (-1), 1) := by decide +kernel
theorem dX6_best_12 : decode cX6_best 12 = .ok (.invokevirtual 192, 3) := by decide +kernel
theorem dX6_best_15 : decode cX6_best 15 = .ok (.ireturn, 1) := by decide +kernel
theorem dX6_gets_0 : decode cX6_gets 0 = .ok (.aload_n 0, 1) := by decide +kernel
theorem dX6_gets_1 : decode cX6_gets 1 = .ok (.aload_n 0, 1) := by decide +kernel
theorem dX6_gets_2 : decode cX6_gets 2 = .ok (.getfield 13, 3) := by decide +kernel
theorem dX6_gets_5 : decode cX6_gets 5 = .ok (.iload_n 1, 1) := by decide +kernel
theorem dX6_gets_6 : decode cX6_gets 6 = .ok (.invokestatic 79, 3) := by decide +kernel
theorem dX6_gets_9 : decode cX6_gets 9 = .ok (.ifCond .eq 7, 3) := by decide +kernel
theorem dX6_gets_12 : decode cX6_gets 12 = .ok (.iconst 0, 1) := by decide +kernel
theorem dX6_gets_13 : decode cX6_gets 13 = .ok (.goto 4, 3) := by decide +kernel
theorem dX6_gets_16 : decode cX6_gets 16 = .ok (.iconst 1, 1) := by decide +kernel
theorem dX6_gets_17 : decode cX6_gets 17 = .ok (.invokevirtual 103, 3) := by decide +kernel
theorem dX6_gets_20 : decode cX6_gets 20 = .ok (.ifCond .eq 5, 3) := by decide +kernel
theorem dX6_gets_23 : decode cX6_gets 23 = .ok (.iconst 0, 1) := by decide +kernel
theorem dX6_gets_24 : decode cX6_gets 24 = .ok (.ireturn, 1) := by decide +kernel
theorem dX6_gets_25 : decode cX6_gets 25 = .ok (.aload_n 0, 1) := by decide +kernel
theorem dX6_gets_26 : decode cX6_gets 26 = .ok (.aload_n 0, 1) := by decide +kernel
theorem dX6_gets_27 : decode cX6_gets 27 = .ok (.getfield 13, 3) := by decide +kernel
theorem dX6_gets_30 : decode cX6_gets 30 = .ok (.iconst (-1), 1) := by decide +kernel
theorem dX6_gets_31 : decode cX6_gets 31 = .ok (.iconst (-1), 1) := by decide +kernel
theorem dX6_gets_32 : decode cX6_gets 32 = .ok (.invokevirtual 192, 3) := by decide +kernel
theorem dX6_gets_35 : decode cX6_gets 35 = .ok (.pop, 1) := by decide +kernel
theorem dX6_gets_36 : decode cX6_gets 36 = .ok (.aload_n 0, 1) := by decide +kernel
theorem dX6_gets_37 : decode cX6_gets 37 = .ok (.getfield 32, 3) := by decide +kernel
theorem dX6_gets_40 : decode cX6_gets 40 = .ok (.iload_n 1, 1) := by decide +kernel
theorem dX6_gets_41 : decode cX6_gets 41 = .ok (.iaload, 1) := by decide +kernel
theorem dX6_gets_42 : decode cX6_gets 42 = .ok (.iconst 1, 1) := by decide +kernel
theorem dX6_gets_43 : decode cX6_gets 43 = .ok (.isub, 1) := by decide +kernel
theorem dX6_gets_44 : decode cX6_gets 44 = .ok (.ireturn, 1) := by decide +kernel
theorem dX6_pays_0 : decode cX6_pays 0 = .ok (.aload_n 0, 1) := by decide +kernel
theorem dX6_pays_1 : decode cX6_pays 1 = .ok (.aload_n 0, 1) := by decide +kernel
theorem dX6_pays_2 : decode cX6_pays 2 = .ok (.getfield 13, 3) := by decide +kernel
theorem dX6_pays_5 : decode cX6_pays 5 = .ok (.iload_n 1, 1) := by decide +kernel
theorem dX6_pays_6 : decode cX6_pays 6 = .ok (.invokestatic 79, 3) := by decide +kernel
theorem dX6_pays_9 : decode cX6_pays 9 = .ok (.ifCond .eq 7, 3) := by decide +kernel
theorem dX6_pays_12 : decode cX6_pays 12 = .ok (.iconst 0, 1) := by decide +kernel
theorem dX6_pays_13 : decode cX6_pays 13 = .ok (.goto 4, 3) := by decide +kernel
theorem dX6_pays_16 : decode cX6_pays 16 = .ok (.iconst 1, 1) := by decide +kernel
theorem dX6_pays_17 : decode cX6_pays 17 = .ok (.invokevirtual 103, 3) := by decide +kernel
theorem dX6_pays_20 : decode cX6_pays 20 = .ok (.ifCond .eq 5, 3) := by decide +kernel
theorem dX6_pays_23 : decode cX6_pays 23 = .ok (.iconst 0, 1) := by decide +kernel
theorem dX6_pays_24 : decode cX6_pays 24 = .ok (.ireturn, 1) := by decide +kernel
theorem dX6_pays_25 : decode cX6_pays 25 = .ok (.aload_n 0, 1) := by decide +kernel
theorem dX6_pays_26 : decode cX6_pays 26 = .ok (.aload_n 0, 1) := by decide +kernel
theorem dX6_pays_27 : decode cX6_pays 27 = .ok (.getfield 13, 3) := by decide +kernel
theorem dX6_pays_30 : decode cX6_pays 30 = .ok (.iconst (-1), 1) := by decide +kernel
theorem dX6_pays_31 : decode cX6_pays 31 = .ok (.iconst (-1), 1) := by decide +kernel
theorem dX6_pays_32 : decode cX6_pays 32 = .ok (.invokevirtual 192, 3) := by decide +kernel
theorem dX6_pays_35 : decode cX6_pays 35 = .ok (.istore_n 2, 1) := by decide +kernel
theorem dX6_pays_36 : decode cX6_pays 36 = .ok (.iload_n 2, 1) := by decide +kernel
theorem dX6_pays_37 : decode cX6_pays 37 = .ok (.aload_n 0, 1) := by decide +kernel
theorem dX6_pays_38 : decode cX6_pays 38 = .ok (.getfield 32, 3) := by decide +kernel
theorem dX6_pays_41 : decode cX6_pays 41 = .ok (.iload_n 1, 1) := by decide +kernel
theorem dX6_pays_42 : decode cX6_pays 42 = .ok (.iaload, 1) := by decide +kernel
theorem dX6_pays_43 : decode cX6_pays 43 = .ok (.ifCond .ne 7, 3) := by decide +kernel
theorem dX6_pays_46 : decode cX6_pays 46 = .ok (.iconst 0, 1) := by decide +kernel
theorem dX6_pays_47 : decode cX6_pays 47 = .ok (.goto 20, 3) := by decide +kernel
theorem dX6_pays_50 : decode cX6_pays 50 = .ok (.aload_n 0, 1) := by decide +kernel
theorem dX6_pays_51 : decode cX6_pays 51 = .ok (.getfield 13, 3) := by decide +kernel
theorem dX6_pays_54 : decode cX6_pays 54 = .ok (.iload_n 1, 1) := by decide +kernel
theorem dX6_pays_55 : decode cX6_pays 55 = .ok (.aload_n 0, 1) := by decide +kernel
theorem dX6_pays_56 : decode cX6_pays 56 = .ok (.getfield 32, 3) := by decide +kernel
theorem dX6_pays_59 : decode cX6_pays 59 = .ok (.iload_n 1, 1) := by decide +kernel
theorem dX6_pays_60 : decode cX6_pays 60 = .ok (.iaload, 1) := by decide +kernel
theorem dX6_pays_61 : decode cX6_pays 61 = .ok (.iconst 1, 1) := by decide +kernel
theorem dX6_pays_62 : decode cX6_pays 62 = .ok (.isub, 1) := by decide +kernel
theorem dX6_pays_63 : decode cX6_pays 63 = .ok (.iconst 3, 1) := by decide +kernel
theorem dX6_pays_64 : decode cX6_pays 64 = .ok (.invokestatic 91, 3) := by decide +kernel
theorem dX6_pays_67 : decode cX6_pays 67 = .ok (.isub, 1) := by decide +kernel
theorem dX6_pays_68 : decode cX6_pays 68 = .ok (.istore_n 3, 1) := by decide +kernel
theorem dX6_pays_69 : decode cX6_pays 69 = .ok (.aload_n 0, 1) := by decide +kernel
theorem dX6_pays_70 : decode cX6_pays 70 = .ok (.aload_n 0, 1) := by decide +kernel
theorem dX6_pays_71 : decode cX6_pays 71 = .ok (.getfield 13, 3) := by decide +kernel
theorem dX6_pays_74 : decode cX6_pays 74 = .ok (.iload_n 1, 1) := by decide +kernel
theorem dX6_pays_75 : decode cX6_pays 75 = .ok (.iconst (-1), 1) := by decide +kernel
theorem dX6_pays_76 : decode cX6_pays 76 = .ok (.invokevirtual 192, 3) := by decide +kernel
theorem dX6_pays_79 : decode cX6_pays 79 = .ok (.iload_n 3, 1) := by decide +kernel
theorem dX6_pays_80 : decode cX6_pays 80 = .ok (.isub, 1) := by decide +kernel
theorem dX6_pays_81 : decode cX6_pays 81 = .ok (.ireturn, 1) := by decide +kernel
theorem dX6_oneMore_0 : decode cX6_oneMore 0 = .ok (.aload_n 0, 1) := by decide +kernel
theorem dX6_oneMore_1 : decode cX6_oneMore 1 = .ok (.iload_n 1, 1) := by decide +kernel
theorem dX6_oneMore_2 : decode cX6_oneMore 2 = .ok (.invokestatic 83, 3) := by decide +kernel
theorem dX6_oneMore_5 : decode cX6_oneMore 5 = .ok (.ifCond .eq 7, 3) := by decide +kernel
theorem dX6_oneMore_8 : decode cX6_oneMore 8 = .ok (.iconst 0, 1) := by decide +kernel
theorem dX6_oneMore_9 : decode cX6_oneMore 9 = .ok (.goto 4, 3) := by decide +kernel
theorem dX6_oneMore_12 : decode cX6_oneMore 12 = .ok (.iconst 1, 1) := by decide +kernel
theorem dX6_oneMore_13 : decode cX6_oneMore 13 = .ok (.invokevirtual 103, 3) := by decide +kernel
theorem dX6_oneMore_16 : decode cX6_oneMore 16 = .ok (.ifCond .eq 5, 3) := by decide +kernel
theorem dX6_oneMore_19 : decode cX6_oneMore 19 = .ok (.iconst 0, 1) := by decide +kernel
theorem dX6_oneMore_20 : decode cX6_oneMore 20 = .ok (.ireturn, 1) := by decide +kernel
theorem dX6_oneMore_21 : decode cX6_oneMore 21 = .ok (.aload_n 0, 1) := by decide +kernel
theorem dX6_oneMore_22 : decode cX6_oneMore 22 = .ok (.aload_n 0, 1) := by decide +kernel
theorem dX6_oneMore_23 : decode cX6_oneMore 23 = .ok (.getfield 13, 3) := by decide +kernel
theorem dX6_oneMore_26 : decode cX6_oneMore 26 = .ok (.iconst (-1), 1) := by decide +kernel
theorem dX6_oneMore_27 : decode cX6_oneMore 27 = .ok (.iload_n 1, 1) := by decide +kernel
theorem dX6_oneMore_28 : decode cX6_oneMore 28 = .ok (.invokevirtual 192, 3) := by decide +kernel
theorem dX6_oneMore_31 : decode cX6_oneMore 31 = .ok (.aload_n 0, 1) := by decide +kernel
theorem dX6_oneMore_32 : decode cX6_oneMore 32 = .ok (.aload_n 0, 1) := by decide +kernel
theorem dX6_oneMore_33 : decode cX6_oneMore 33 = .ok (.getfield 13, 3) := by decide +kernel
theorem dX6_oneMore_36 : decode cX6_oneMore 36 = .ok (.iconst (-1), 1) := by decide +kernel
theorem dX6_oneMore_37 : decode cX6_oneMore 37 = .ok (.iconst (-1), 1) := by decide +kernel
theorem dX6_oneMore_38 : decode cX6_oneMore 38 = .ok (.invokevirtual 192, 3) := by decide +kernel
theorem dX6_oneMore_41 : decode cX6_oneMore 41 = .ok (.isub, 1) := by decide +kernel
theorem dX6_oneMore_42 : decode cX6_oneMore 42 = .ok (.ireturn, 1) := by decide +kernel
theorem dX6_leastMissed_0 : decode cX6_leastMissed 0 = .ok (.aload_n 0, 1) := by decide +kernel
theorem dX6_leastMissed_1 : decode cX6_leastMissed 1 = .ok (.iconst 0, 1) := by decide +kernel
theorem dX6_leastMissed_2 : decode cX6_leastMissed 2 = .ok (.putfield 39, 3) := by decide +kernel
theorem dX6_leastMissed_5 : decode cX6_leastMissed 5 = .ok (.iconst (-1), 1) := by decide +kernel
theorem dX6_leastMissed_6 : decode cX6_leastMissed 6 = .ok (.istore_n 1, 1) := by decide +kernel
theorem dX6_leastMissed_7 : decode cX6_leastMissed 7 = .ok (.iconst (-1), 1) := by decide +kernel
theorem dX6_leastMissed_8 : decode cX6_leastMissed 8 = .ok (.istore_n 2, 1) := by decide +kernel
theorem dX6_leastMissed_9 : decode cX6_leastMissed 9 = .ok (.iconst 0, 1) := by decide +kernel
theorem dX6_leastMissed_10 : decode cX6_leastMissed 10 = .ok (.istore_n 3, 1) := by decide +kernel
theorem dX6_leastMissed_11 : decode cX6_leastMissed 11 = .ok (.iload_n 3, 1) := by decide +kernel
theorem dX6_leastMissed_12 : decode cX6_leastMissed 12 = .ok (.aload_n 0, 1) := by decide +kernel
theorem dX6_leastMissed_13 : decode cX6_leastMissed 13 = .ok (.getfield 13, 3) := by decide +kernel
theorem dX6_leastMissed_16 : decode cX6_leastMissed 16 = .ok (.iconst 4, 1) := by decide +kernel
theorem dX6_leastMissed_17 : decode cX6_leastMissed 17 = .ok (.iaload, 1) := by decide +kernel
theorem dX6_leastMissed_18 : decode cX6_leastMissed 18 = .ok (.if_icmp .ge 46, 3) := by decide +kernel
theorem dX6_leastMissed_21 : decode cX6_leastMissed 21 = .ok (.aload_n 0, 1) := by decide +kernel
theorem dX6_leastMissed_22 : decode cX6_leastMissed 22 = .ok (.aload_n 0, 1) := by decide +kernel
theorem dX6_leastMissed_23 : decode cX6_leastMissed 23 = .ok (.getfield 13, 3) := by decide +kernel
theorem dX6_leastMissed_26 : decode cX6_leastMissed 26 = .ok (.iload_n 3, 1) := by decide +kernel
theorem dX6_leastMissed_27 : decode cX6_leastMissed 27 = .ok (.iconst (-1), 1) := by decide +kernel
theorem dX6_leastMissed_28 : decode cX6_leastMissed 28 = .ok (.invokevirtual 192, 3) := by decide +kernel
theorem dX6_leastMissed_31 : decode cX6_leastMissed 31 = .ok (.istore 4, 2) := by decide +kernel
theorem dX6_leastMissed_33 : decode cX6_leastMissed 33 = .ok (.iload 4, 2) := by decide +kernel
theorem dX6_leastMissed_35 : decode cX6_leastMissed 35 = .ok (.iload_n 2, 1) := by decide +kernel
theorem dX6_leastMissed_36 : decode cX6_leastMissed 36 = .ok (.if_icmp .le 7, 3) := by decide +kernel
theorem dX6_leastMissed_39 : decode cX6_leastMissed 39 = .ok (.iload_n 3, 1) := by decide +kernel
theorem dX6_leastMissed_40 : decode cX6_leastMissed 40 = .ok (.goto 4, 3) := by decide +kernel
theorem dX6_leastMissed_43 : decode cX6_leastMissed 43 = .ok (.iload_n 1, 1) := by decide +kernel
theorem dX6_leastMissed_44 : decode cX6_leastMissed 44 = .ok (.istore_n 1, 1) := by decide +kernel
theorem dX6_leastMissed_45 : decode cX6_leastMissed 45 = .ok (.iload 4, 2) := by decide +kernel
theorem dX6_leastMissed_47 : decode cX6_leastMissed 47 = .ok (.iload_n 2, 1) := by decide +kernel
theorem dX6_leastMissed_48 : decode cX6_leastMissed 48 = .ok (.if_icmp .le 8, 3) := by decide +kernel
theorem dX6_leastMissed_51 : decode cX6_leastMissed 51 = .ok (.iload 4, 2) := by decide +kernel
theorem dX6_leastMissed_53 : decode cX6_leastMissed 53 = .ok (.goto 4, 3) := by decide +kernel
theorem dX6_leastMissed_56 : decode cX6_leastMissed 56 = .ok (.iload_n 2, 1) := by decide +kernel
theorem dX6_leastMissed_57 : decode cX6_leastMissed 57 = .ok (.istore_n 2, 1) := by decide +kernel
theorem dX6_leastMissed_58 : decode cX6_leastMissed 58 = .ok (.iinc 3 1, 3) := by decide +kernel
theorem dX6_leastMissed_61 : decode cX6_leastMissed 61 = .ok (.goto (-50), 3) := by decide +kernel
theorem dX6_leastMissed_64 : decode cX6_leastMissed 64 = .ok (.iload_n 1, 1) := by decide +kernel
theorem dX6_leastMissed_65 : decode cX6_leastMissed 65 = .ok (.ireturn, 1) := by decide +kernel
theorem dX6_wouldAsk_0 : decode cX6_wouldAsk 0 = .ok (.aload_n 0, 1) := by decide +kernel
theorem dX6_wouldAsk_1 : decode cX6_wouldAsk 1 = .ok (.aload_n 0, 1) := by decide +kernel
theorem dX6_wouldAsk_2 : decode cX6_wouldAsk 2 = .ok (.getfield 13, 3) := by decide +kernel
theorem dX6_wouldAsk_5 : decode cX6_wouldAsk 5 = .ok (.iload_n 1, 1) := by decide +kernel
theorem dX6_wouldAsk_6 : decode cX6_wouldAsk 6 = .ok (.invokestatic 79, 3) := by decide +kernel
theorem dX6_wouldAsk_9 : decode cX6_wouldAsk 9 = .ok (.ifCond .eq 14, 3) := by decide +kernel
theorem dX6_wouldAsk_12 : decode cX6_wouldAsk 12 = .ok (.iload_n 2, 1) := by decide +kernel
theorem dX6_wouldAsk_13 : decode cX6_wouldAsk 13 = .ok (.invokestatic 83, 3) := by decide +kernel
theorem dX6_wouldAsk_16 : decode cX6_wouldAsk 16 = .ok (.ifCond .eq 7, 3) := by decide +kernel
theorem dX6_wouldAsk_19 : decode cX6_wouldAsk 19 = .ok (.iconst 0, 1) := by decide +kernel
theorem dX6_wouldAsk_20 : decode cX6_wouldAsk 20 = .ok (.goto 4, 3) := by decide +kernel
theorem dX6_wouldAsk_23 : decode cX6_wouldAsk 23 = .ok (.iconst 1, 1) := by decide +kernel
theorem dX6_wouldAsk_24 : decode cX6_wouldAsk 24 = .ok (.invokevirtual 103, 3) := by decide +kernel
theorem dX6_wouldAsk_27 : decode cX6_wouldAsk 27 = .ok (.ifCond .eq 5, 3) := by decide +kernel
theorem dX6_wouldAsk_30 : decode cX6_wouldAsk 30 = .ok (.iconst 0, 1) := by decide +kernel
theorem dX6_wouldAsk_31 : decode cX6_wouldAsk 31 = .ok (.ireturn, 1) := by decide +kernel
theorem dX6_wouldAsk_32 : decode cX6_wouldAsk 32 = .ok (.aload_n 0, 1) := by decide +kernel
theorem dX6_wouldAsk_33 : decode cX6_wouldAsk 33 = .ok (.getfield 13, 3) := by decide +kernel
theorem dX6_wouldAsk_36 : decode cX6_wouldAsk 36 = .ok (.iconst 0, 1) := by decide +kernel
theorem dX6_wouldAsk_37 : decode cX6_wouldAsk 37 = .ok (.aload_n 0, 1) := by decide +kernel
theorem dX6_wouldAsk_38 : decode cX6_wouldAsk 38 = .ok (.getfield 16, 3) := by decide +kernel
theorem dX6_wouldAsk_41 : decode cX6_wouldAsk 41 = .ok (.iconst 0, 1) := by decide +kernel
theorem dX6_wouldAsk_42 : decode cX6_wouldAsk 42 = .ok (.invokestatic 154, 3) := by decide +kernel
theorem dX6_wouldAsk_45 : decode cX6_wouldAsk 45 = .ok (.aload_n 0, 1) := by decide +kernel
theorem dX6_wouldAsk_46 : decode cX6_wouldAsk 46 = .ok (.getfield 16, 3) := by decide +kernel
theorem dX6_wouldAsk_49 : decode cX6_wouldAsk 49 = .ok (.iload_n 1, 1) := by decide +kernel
theorem dX6_wouldAsk_50 : decode cX6_wouldAsk 50 = .ok (.invokestatic 131, 3) := by decide +kernel
theorem dX6_wouldAsk_53 : decode cX6_wouldAsk 53 = .ok (.pop, 1) := by decide +kernel
theorem dX6_wouldAsk_54 : decode cX6_wouldAsk 54 = .ok (.aload_n 0, 1) := by decide +kernel
theorem dX6_wouldAsk_55 : decode cX6_wouldAsk 55 = .ok (.getfield 16, 3) := by decide +kernel
theorem dX6_wouldAsk_58 : decode cX6_wouldAsk 58 = .ok (.iload_n 1, 1) := by decide +kernel
theorem dX6_wouldAsk_59 : decode cX6_wouldAsk 59 = .ok (.invokestatic 49, 3) := by decide +kernel
theorem dX6_wouldAsk_62 : decode cX6_wouldAsk 62 = .ok (.iconst 5, 1) := by decide +kernel
theorem dX6_wouldAsk_63 : decode cX6_wouldAsk 63 = .ok (.iadd, 1) := by decide +kernel
theorem dX6_wouldAsk_64 : decode cX6_wouldAsk 64 = .ok (.iload_n 2, 1) := by decide +kernel
theorem dX6_wouldAsk_65 : decode cX6_wouldAsk 65 = .ok (.iadd, 1) := by decide +kernel
theorem dX6_wouldAsk_66 : decode cX6_wouldAsk 66 = .ok (.iaload, 1) := by decide +kernel
theorem dX6_wouldAsk_67 : decode cX6_wouldAsk 67 = .ok (.ireturn, 1) := by decide +kernel
theorem dX6_goOn_0 : decode cX6_goOn 0 = .ok (.aload_n 0, 1) := by decide +kernel
theorem dX6_goOn_1 : decode cX6_goOn 1 = .ok (.getfield 13, 3) := by decide +kernel
theorem dX6_goOn_4 : decode cX6_goOn 4 = .ok (.iconst 0, 1) := by decide +kernel
theorem dX6_goOn_5 : decode cX6_goOn 5 = .ok (.aload_n 0, 1) := by decide +kernel
theorem dX6_goOn_6 : decode cX6_goOn 6 = .ok (.getfield 16, 3) := by decide +kernel
theorem dX6_goOn_9 : decode cX6_goOn 9 = .ok (.iconst 0, 1) := by decide +kernel
theorem dX6_goOn_10 : decode cX6_goOn 10 = .ok (.invokestatic 154, 3) := by decide +kernel
theorem dX6_goOn_13 : decode cX6_goOn 13 = .ok (.iconst 0, 1) := by decide +kernel
theorem dX6_goOn_14 : decode cX6_goOn 14 = .ok (.istore_n 1, 1) := by decide +kernel
theorem dX6_goOn_15 : decode cX6_goOn 15 = .ok (.aload_n 0, 1) := by decide +kernel
theorem dX6_goOn_16 : decode cX6_goOn 16 = .ok (.getfield 16, 3) := by decide +kernel
theorem dX6_goOn_19 : decode cX6_goOn 19 = .ok (.iconst 1, 1) := by decide +kernel
theorem dX6_goOn_20 : decode cX6_goOn 20 = .ok (.iaload, 1) := by decide +kernel
theorem dX6_goOn_21 : decode cX6_goOn 21 = .ok (.ifCond .ne 51, 3) := by decide +kernel
theorem dX6_goOn_24 : decode cX6_goOn 24 = .ok (.iload_n 1, 1) := by decide +kernel
theorem dX6_goOn_25 : decode cX6_goOn 25 = .ok (.sipush 200, 3) := by decide +kernel
theorem dX6_goOn_28 : decode cX6_goOn 28 = .ok (.if_icmp .ge 44, 3) := by decide +kernel
theorem dX6_goOn_31 : decode cX6_goOn 31 = .ok (.iconst 0, 1) := by decide +kernel
theorem dX6_goOn_32 : decode cX6_goOn 32 = .ok (.istore_n 2, 1) := by decide +kernel
theorem dX6_goOn_33 : decode cX6_goOn 33 = .ok (.iload_n 2, 1) := by decide +kernel
theorem dX6_goOn_34 : decode cX6_goOn 34 = .ok (.aload_n 0, 1) := by decide +kernel
theorem dX6_goOn_35 : decode cX6_goOn 35 = .ok (.getfield 16, 3) := by decide +kernel
theorem dX6_goOn_38 : decode cX6_goOn 38 = .ok (.iconst 4, 1) := by decide +kernel
theorem dX6_goOn_39 : decode cX6_goOn 39 = .ok (.iaload, 1) := by decide +kernel
theorem dX6_goOn_40 : decode cX6_goOn 40 = .ok (.if_icmp .ge 18, 3) := by decide +kernel
theorem dX6_goOn_43 : decode cX6_goOn 43 = .ok (.aload_n 0, 1) := by decide +kernel
theorem dX6_goOn_44 : decode cX6_goOn 44 = .ok (.getfield 16, 3) := by decide +kernel
theorem dX6_goOn_47 : decode cX6_goOn 47 = .ok (.iload_n 2, 1) := by decide +kernel
theorem dX6_goOn_48 : decode cX6_goOn 48 = .ok (.invokestatic 131, 3) := by decide +kernel
theorem dX6_goOn_51 : decode cX6_goOn 51 = .ok (.pop, 1) := by decide +kernel
theorem dX6_goOn_52 : decode cX6_goOn 52 = .ok (.iinc 2 1, 3) := by decide +kernel
theorem dX6_goOn_55 : decode cX6_goOn 55 = .ok (.goto (-22), 3) := by decide +kernel
theorem dX6_goOn_58 : decode cX6_goOn 58 = .ok (.aload_n 0, 1) := by decide +kernel
theorem dX6_goOn_59 : decode cX6_goOn 59 = .ok (.getfield 16, 3) := by decide +kernel
theorem dX6_goOn_62 : decode cX6_goOn 62 = .ok (.invokestatic 134, 3) := by decide +kernel
theorem dX6_goOn_65 : decode cX6_goOn 65 = .ok (.pop, 1) := by decide +kernel
theorem dX6_goOn_66 : decode cX6_goOn 66 = .ok (.iinc 1 1, 3) := by decide +kernel
theorem dX6_goOn_69 : decode cX6_goOn 69 = .ok (.goto (-54), 3) := by decide +kernel
theorem dX6_goOn_72 : decode cX6_goOn 72 = .ok (.iload_n 1, 1) := by decide +kernel
theorem dX6_goOn_73 : decode cX6_goOn 73 = .ok (.ireturn, 1) := by decide +kernel
theorem dX6_roundsLeft_0 : decode cX6_roundsLeft 0 = .ok (.aload_n 0, 1) := by decide +kernel
theorem dX6_roundsLeft_1 : decode cX6_roundsLeft 1 = .ok (.iconst 0, 1) := by decide +kernel
theorem dX6_roundsLeft_2 : decode cX6_roundsLeft 2 = .ok (.putfield 39, 3) := by decide +kernel
theorem dX6_roundsLeft_5 : decode cX6_roundsLeft 5 = .ok (.aload_n 0, 1) := by decide +kernel
theorem dX6_roundsLeft_6 : decode cX6_roundsLeft 6 = .ok (.invokevirtual 195, 3) := by decide +kernel
theorem dX6_roundsLeft_9 : decode cX6_roundsLeft 9 = .ok (.istore_n 1, 1) := by decide +kernel
theorem dX6_roundsLeft_10 : decode cX6_roundsLeft 10 = .ok (.aload_n 0, 1) := by decide +kernel
theorem dX6_roundsLeft_11 : decode cX6_roundsLeft 11 = .ok (.getfield 16, 3) := by decide +kernel
theorem dX6_roundsLeft_14 : decode cX6_roundsLeft 14 = .ok (.iconst 1, 1) := by decide +kernel
theorem dX6_roundsLeft_15 : decode cX6_roundsLeft 15 = .ok (.iaload, 1) := by decide +kernel
theorem dX6_roundsLeft_16 : decode cX6_roundsLeft 16 = .ok (.iconst 1, 1) := by decide +kernel
theorem dX6_roundsLeft_17 : decode cX6_roundsLeft 17 = .ok (.if_icmp .ne 7, 3) := by decide +kernel
theorem dX6_roundsLeft_20 : decode cX6_roundsLeft 20 = .ok (.iload_n 1, 1) := by decide +kernel
theorem dX6_roundsLeft_21 : decode cX6_roundsLeft 21 = .ok (.goto 4, 3) := by decide +kernel
theorem dX6_roundsLeft_24 : decode cX6_roundsLeft 24 = .ok (.iconst (-1), 1) := by decide +kernel
theorem dX6_roundsLeft_25 : decode cX6_roundsLeft 25 = .ok (.ireturn, 1) := by decide +kernel
theorem dX6_endPrice_0 : decode cX6_endPrice 0 = .ok (.aload_n 0, 1) := by decide +kernel
theorem dX6_endPrice_1 : decode cX6_endPrice 1 = .ok (.iload_n 1, 1) := by decide +kernel
theorem dX6_endPrice_2 : decode cX6_endPrice 2 = .ok (.invokestatic 83, 3) := by decide +kernel
theorem dX6_endPrice_5 : decode cX6_endPrice 5 = .ok (.ifCond .eq 7, 3) := by decide +kernel
theorem dX6_endPrice_8 : decode cX6_endPrice 8 = .ok (.iconst 0, 1) := by decide +kernel
theorem dX6_endPrice_9 : decode cX6_endPrice 9 = .ok (.goto 4, 3) := by decide +kernel
theorem dX6_endPrice_12 : decode cX6_endPrice 12 = .ok (.iconst 1, 1) := by decide +kernel
theorem dX6_endPrice_13 : decode cX6_endPrice 13 = .ok (.invokevirtual 103, 3) := by decide +kernel
theorem dX6_endPrice_16 : decode cX6_endPrice 16 = .ok (.ifCond .eq 5, 3) := by decide +kernel
theorem dX6_endPrice_19 : decode cX6_endPrice 19 = .ok (.iconst 0, 1) := by decide +kernel
theorem dX6_endPrice_20 : decode cX6_endPrice 20 = .ok (.ireturn, 1) := by decide +kernel
theorem dX6_endPrice_21 : decode cX6_endPrice 21 = .ok (.aload_n 0, 1) := by decide +kernel
theorem dX6_endPrice_22 : decode cX6_endPrice 22 = .ok (.invokevirtual 195, 3) := by decide +kernel
theorem dX6_endPrice_25 : decode cX6_endPrice 25 = .ok (.pop, 1) := by decide +kernel
theorem dX6_endPrice_26 : decode cX6_endPrice 26 = .ok (.aload_n 0, 1) := by decide +kernel
theorem dX6_endPrice_27 : decode cX6_endPrice 27 = .ok (.getfield 16, 3) := by decide +kernel
theorem dX6_endPrice_30 : decode cX6_endPrice 30 = .ok (.bipush 11, 2) := by decide +kernel
theorem dX6_endPrice_32 : decode cX6_endPrice 32 = .ok (.iload_n 1, 1) := by decide +kernel
theorem dX6_endPrice_33 : decode cX6_endPrice 33 = .ok (.iadd, 1) := by decide +kernel
theorem dX6_endPrice_34 : decode cX6_endPrice 34 = .ok (.iaload, 1) := by decide +kernel
theorem dX6_endPrice_35 : decode cX6_endPrice 35 = .ok (.ireturn, 1) := by decide +kernel
theorem dX6_command_0 : decode cX6_command 0 = .ok (.iload_n 1, 1) := by decide +kernel
theorem dX6_command_1 : decode cX6_command 1 = .ok (.tableswitch 351 1 9 #[51, 78, 109, 142, 165, 204, 242, 280, 323], 51) := by decide +kernel
theorem dX6_command_52 : decode cX6_command 52 = .ok (.iload 5, 2) := by decide +kernel
theorem dX6_command_54 : decode cX6_command 54 = .ok (.ifCond .ne 23, 3) := by decide +kernel
theorem dX6_command_57 : decode cX6_command 57 = .ok (.aload_n 0, 1) := by decide +kernel
theorem dX6_command_58 : decode cX6_command 58 = .ok (.getfield 16, 3) := by decide +kernel
theorem dX6_command_61 : decode cX6_command 61 = .ok (.bipush 113, 2) := by decide +kernel
theorem dX6_command_63 : decode cX6_command 63 = .ok (.iload_n 2, 1) := by decide +kernel
theorem dX6_command_64 : decode cX6_command 64 = .ok (.iload_n 3, 1) := by decide +kernel
theorem dX6_command_65 : decode cX6_command 65 = .ok (.iload 4, 2) := by decide +kernel
theorem dX6_command_67 : decode cX6_command 67 = .ok (.invokestatic 143, 3) := by decide +kernel
theorem dX6_command_70 : decode cX6_command 70 = .ok (.ifCond .eq 7, 3) := by decide +kernel
theorem dX6_command_73 : decode cX6_command 73 = .ok (.iconst 1, 1) := by decide +kernel
theorem dX6_command_74 : decode cX6_command 74 = .ok (.goto 4, 3) := by decide +kernel
theorem dX6_command_77 : decode cX6_command 77 = .ok (.iconst 0, 1) := by decide +kernel
theorem dX6_command_78 : decode cX6_command 78 = .ok (.ireturn, 1) := by decide +kernel
theorem dX6_command_79 : decode cX6_command 79 = .ok (.iload_n 3, 1) := by decide +kernel
theorem dX6_command_80 : decode cX6_command 80 = .ok (.iload 4, 2) := by decide +kernel
theorem dX6_command_82 : decode cX6_command 82 = .ok (.iadd, 1) := by decide +kernel
theorem dX6_command_83 : decode cX6_command 83 = .ok (.iload 5, 2) := by decide +kernel
theorem dX6_command_85 : decode cX6_command 85 = .ok (.iadd, 1) := by decide +kernel
theorem dX6_command_86 : decode cX6_command 86 = .ok (.ifCond .ne 22, 3) := by decide +kernel
theorem dX6_command_89 : decode cX6_command 89 = .ok (.aload_n 0, 1) := by decide +kernel
theorem dX6_command_90 : decode cX6_command 90 = .ok (.getfield 16, 3) := by decide +kernel
theorem dX6_command_93 : decode cX6_command 93 = .ok (.bipush 119, 2) := by decide +kernel
theorem dX6_command_95 : decode cX6_command 95 = .ok (.iload_n 2, 1) := by decide +kernel
theorem dX6_command_96 : decode cX6_command 96 = .ok (.iconst 0, 1) := by decide +kernel
theorem dX6_command_97 : decode cX6_command 97 = .ok (.iconst 0, 1) := by decide +kernel
theorem dX6_command_98 : decode cX6_command 98 = .ok (.invokestatic 143, 3) := by decide +kernel
theorem dX6_command_101 : decode cX6_command 101 = .ok (.ifCond .eq 7, 3) := by decide +kernel
theorem dX6_command_104 : decode cX6_command 104 = .ok (.iconst 1, 1) := by decide +kernel
theorem dX6_command_105 : decode cX6_command 105 = .ok (.goto 4, 3) := by decide +kernel
theorem dX6_command_108 : decode cX6_command 108 = .ok (.iconst 0, 1) := by decide +kernel
theorem dX6_command_109 : decode cX6_command 109 = .ok (.ireturn, 1) := by decide +kernel
theorem dX6_command_110 : decode cX6_command 110 = .ok (.iload_n 2, 1) := by decide +kernel
theorem dX6_command_111 : decode cX6_command 111 = .ok (.iload_n 3, 1) := by decide +kernel
theorem dX6_command_112 : decode cX6_command 112 = .ok (.iadd, 1) := by decide +kernel
theorem dX6_command_113 : decode cX6_command 113 = .ok (.iload 4, 2) := by decide +kernel
theorem dX6_command_115 : decode cX6_command 115 = .ok (.iadd, 1) := by decide +kernel
theorem dX6_command_116 : decode cX6_command 116 = .ok (.iload 5, 2) := by decide +kernel
theorem dX6_command_118 : decode cX6_command 118 = .ok (.iadd, 1) := by decide +kernel
theorem dX6_command_119 : decode cX6_command 119 = .ok (.ifCond .ne 22, 3) := by decide +kernel
theorem dX6_command_122 : decode cX6_command 122 = .ok (.aload_n 0, 1) := by decide +kernel
theorem dX6_command_123 : decode cX6_command 123 = .ok (.getfield 16, 3) := by decide +kernel
theorem dX6_command_126 : decode cX6_command 126 = .ok (.bipush 99, 2) := by decide +kernel
theorem dX6_command_128 : decode cX6_command 128 = .ok (.iconst 0, 1) := by decide +kernel
theorem dX6_command_129 : decode cX6_command 129 = .ok (.iconst 0, 1) := by decide +kernel
theorem dX6_command_130 : decode cX6_command 130 = .ok (.iconst 0, 1) := by decide +kernel
theorem dX6_command_131 : decode cX6_command 131 = .ok (.invokestatic 143, 3) := by decide +kernel
theorem dX6_command_134 : decode cX6_command 134 = .ok (.ifCond .eq 7, 3) := by decide +kernel
theorem dX6_command_137 : decode cX6_command 137 = .ok (.iconst 1, 1) := by decide +kernel
theorem dX6_command_138 : decode cX6_command 138 = .ok (.goto 4, 3) := by decide +kernel
theorem dX6_command_141 : decode cX6_command 141 = .ok (.iconst 0, 1) := by decide +kernel
theorem dX6_command_142 : decode cX6_command 142 = .ok (.ireturn, 1) := by decide +kernel
theorem dX6_command_143 : decode cX6_command 143 = .ok (.aload_n 0, 1) := by decide +kernel
theorem dX6_command_144 : decode cX6_command 144 = .ok (.getfield 16, 3) := by decide +kernel
theorem dX6_command_147 : decode cX6_command 147 = .ok (.bipush 118, 2) := by decide +kernel
theorem dX6_command_149 : decode cX6_command 149 = .ok (.iload_n 2, 1) := by decide +kernel
theorem dX6_command_150 : decode cX6_command 150 = .ok (.iload_n 3, 1) := by decide +kernel
theorem dX6_command_151 : decode cX6_command 151 = .ok (.bipush 10, 2) := by decide +kernel
theorem dX6_command_153 : decode cX6_command 153 = .ok (.bipush 10, 2) := by decide +kernel
theorem dX6_command_155 : decode cX6_command 155 = .ok (.iload 4, 2) := by decide +kernel
theorem dX6_command_157 : decode cX6_command 157 = .ok (.imul, 1) := by decide +kernel
theorem dX6_command_158 : decode cX6_command 158 = .ok (.iload 5, 2) := by decide +kernel
theorem dX6_command_160 : decode cX6_command 160 = .ok (.iadd, 1) := by decide +kernel
theorem dX6_command_161 : decode cX6_command 161 = .ok (.imul, 1) := by decide +kernel
theorem dX6_command_162 : decode cX6_command 162 = .ok (.invokestatic 143, 3) := by decide +kernel
theorem dX6_command_165 : decode cX6_command 165 = .ok (.ireturn, 1) := by decide +kernel
theorem dX6_command_166 : decode cX6_command 166 = .ok (.iload_n 3, 1) := by decide +kernel
theorem dX6_command_167 : decode cX6_command 167 = .ok (.ifCond .gt 18, 3) := by decide +kernel
theorem dX6_command_170 : decode cX6_command 170 = .ok (.iload_n 2, 1) := by decide +kernel
theorem dX6_command_171 : decode cX6_command 171 = .ok (.bipush 10, 2) := by decide +kernel
theorem dX6_command_173 : decode cX6_command 173 = .ok (.iload 4, 2) := by decide +kernel
theorem dX6_command_175 : decode cX6_command 175 = .ok (.imul, 1) := by decide +kernel
theorem dX6_command_176 : decode cX6_command 176 = .ok (.iload 5, 2) := by decide +kernel
theorem dX6_command_178 : decode cX6_command 178 = .ok (.iadd, 1) := by decide +kernel
theorem dX6_command_179 : decode cX6_command 179 = .ok (.invokestatic 188, 3) := by decide +kernel
theorem dX6_command_182 : decode cX6_command 182 = .ok (.ifCond .ne 5, 3) := by decide +kernel
theorem dX6_command_185 : decode cX6_command 185 = .ok (.iconst 0, 1) := by decide +kernel
theorem dX6_command_186 : decode cX6_command 186 = .ok (.ireturn, 1) := by decide +kernel
theorem dX6_command_187 : decode cX6_command 187 = .ok (.aload_n 0, 1) := by decide +kernel
theorem dX6_command_188 : decode cX6_command 188 = .ok (.getfield 16, 3) := by decide +kernel
theorem dX6_command_191 : decode cX6_command 191 = .ok (.iconst 2, 1) := by decide +kernel
theorem dX6_command_192 : decode cX6_command 192 = .ok (.iload_n 2, 1) := by decide +kernel
theorem dX6_command_193 : decode cX6_command 193 = .ok (.iadd, 1) := by decide +kernel
theorem dX6_command_194 : decode cX6_command 194 = .ok (.bipush 10, 2) := by decide +kernel
theorem dX6_command_196 : decode cX6_command 196 = .ok (.iload 4, 2) := by decide +kernel
theorem dX6_command_198 : decode cX6_command 198 = .ok (.imul, 1) := by decide +kernel
theorem dX6_command_199 : decode cX6_command 199 = .ok (.iload 5, 2) := by decide +kernel
theorem dX6_command_201 : decode cX6_command 201 = .ok (.iadd, 1) := by decide +kernel
theorem dX6_command_202 : decode cX6_command 202 = .ok (.iastore, 1) := by decide +kernel
theorem dX6_command_203 : decode cX6_command 203 = .ok (.iconst 1, 1) := by decide +kernel
theorem dX6_command_204 : decode cX6_command 204 = .ok (.ireturn, 1) := by decide +kernel
theorem dX6_command_205 : decode cX6_command 205 = .ok (.iload 4, 2) := by decide +kernel
theorem dX6_command_207 : decode cX6_command 207 = .ok (.iload 5, 2) := by decide +kernel
theorem dX6_command_209 : decode cX6_command 209 = .ok (.iadd, 1) := by decide +kernel
theorem dX6_command_210 : decode cX6_command 210 = .ok (.ifCond .ne 31, 3) := by decide +kernel
theorem dX6_command_213 : decode cX6_command 213 = .ok (.aload_n 0, 1) := by decide +kernel
theorem dX6_command_214 : decode cX6_command 214 = .ok (.getfield 16, 3) := by decide +kernel
theorem dX6_command_217 : decode cX6_command 217 = .ok (.iload_n 2, 1) := by decide +kernel
theorem dX6_command_218 : decode cX6_command 218 = .ok (.iload_n 3, 1) := by decide +kernel
theorem dX6_command_219 : decode cX6_command 219 = .ok (.invokestatic 177, 3) := by decide +kernel
theorem dX6_command_222 : decode cX6_command 222 = .ok (.ifCond .eq 19, 3) := by decide +kernel
theorem dX6_command_225 : decode cX6_command 225 = .ok (.aload_n 0, 1) := by decide +kernel
theorem dX6_command_226 : decode cX6_command 226 = .ok (.getfield 16, 3) := by decide +kernel
theorem dX6_command_229 : decode cX6_command 229 = .ok (.iload_n 2, 1) := by decide +kernel
theorem dX6_command_230 : decode cX6_command 230 = .ok (.iload_n 3, 1) := by decide +kernel
theorem dX6_command_231 : decode cX6_command 231 = .ok (.invokestatic 181, 3) := by decide +kernel
theorem dX6_command_234 : decode cX6_command 234 = .ok (.ifCond .lt 7, 3) := by decide +kernel
theorem dX6_command_237 : decode cX6_command 237 = .ok (.iconst 1, 1) := by decide +kernel
theorem dX6_command_238 : decode cX6_command 238 = .ok (.goto 4, 3) := by decide +kernel
theorem dX6_command_241 : decode cX6_command 241 = .ok (.iconst 0, 1) := by decide +kernel
theorem dX6_command_242 : decode cX6_command 242 = .ok (.ireturn, 1) := by decide +kernel
theorem dX6_command_243 : decode cX6_command 243 = .ok (.iload_n 2, 1) := by decide +kernel
theorem dX6_command_244 : decode cX6_command 244 = .ok (.invokestatic 83, 3) := by decide +kernel
theorem dX6_command_247 : decode cX6_command 247 = .ok (.ifCond .eq 32, 3) := by decide +kernel
theorem dX6_command_250 : decode cX6_command 250 = .ok (.aload_n 0, 1) := by decide +kernel
theorem dX6_command_251 : decode cX6_command 251 = .ok (.getfield 16, 3) := by decide +kernel
theorem dX6_command_254 : decode cX6_command 254 = .ok (.bipush 11, 2) := by decide +kernel
theorem dX6_command_256 : decode cX6_command 256 = .ok (.iload_n 2, 1) := by decide +kernel
theorem dX6_command_257 : decode cX6_command 257 = .ok (.iadd, 1) := by decide +kernel
theorem dX6_command_258 : decode cX6_command 258 = .ok (.iaload, 1) := by decide +kernel
theorem dX6_command_259 : decode cX6_command 259 = .ok (.bipush 100, 2) := by decide +kernel
theorem dX6_command_261 : decode cX6_command 261 = .ok (.iload_n 3, 1) := by decide +kernel
theorem dX6_command_262 : decode cX6_command 262 = .ok (.imul, 1) := by decide +kernel
theorem dX6_command_263 : decode cX6_command 263 = .ok (.bipush 10, 2) := by decide +kernel
theorem dX6_command_265 : decode cX6_command 265 = .ok (.iload 4, 2) := by decide +kernel
theorem dX6_command_267 : decode cX6_command 267 = .ok (.imul, 1) := by decide +kernel
theorem dX6_command_268 : decode cX6_command 268 = .ok (.iadd, 1) := by decide +kernel
theorem dX6_command_269 : decode cX6_command 269 = .ok (.iload 5, 2) := by decide +kernel
theorem dX6_command_271 : decode cX6_command 271 = .ok (.iadd, 1) := by decide +kernel
theorem dX6_command_272 : decode cX6_command 272 = .ok (.if_icmp .lt 7, 3) := by decide +kernel
theorem dX6_command_275 : decode cX6_command 275 = .ok (.iconst 1, 1) := by decide +kernel
theorem dX6_command_276 : decode cX6_command 276 = .ok (.goto 4, 3) := by decide +kernel
theorem dX6_command_279 : decode cX6_command 279 = .ok (.iconst 0, 1) := by decide +kernel
theorem dX6_command_280 : decode cX6_command 280 = .ok (.ireturn, 1) := by decide +kernel
theorem dX6_command_281 : decode cX6_command 281 = .ok (.iload_n 3, 1) := by decide +kernel
theorem dX6_command_282 : decode cX6_command 282 = .ok (.ifCond .ne 40, 3) := by decide +kernel
theorem dX6_command_285 : decode cX6_command 285 = .ok (.aload_n 0, 1) := by decide +kernel
theorem dX6_command_286 : decode cX6_command 286 = .ok (.getfield 16, 3) := by decide +kernel
theorem dX6_command_289 : decode cX6_command 289 = .ok (.iload_n 2, 1) := by decide +kernel
theorem dX6_command_290 : decode cX6_command 290 = .ok (.invokestatic 79, 3) := by decide +kernel
theorem dX6_command_293 : decode cX6_command 293 = .ok (.ifCond .eq 29, 3) := by decide +kernel
theorem dX6_command_296 : decode cX6_command 296 = .ok (.aload_n 0, 1) := by decide +kernel
theorem dX6_command_297 : decode cX6_command 297 = .ok (.getfield 16, 3) := by decide +kernel
theorem dX6_command_300 : decode cX6_command 300 = .ok (.iload_n 2, 1) := by decide +kernel
theorem dX6_command_301 : decode cX6_command 301 = .ok (.invokestatic 49, 3) := by decide +kernel
theorem dX6_command_304 : decode cX6_command 304 = .ok (.iconst 0, 1) := by decide +kernel
theorem dX6_command_305 : decode cX6_command 305 = .ok (.iadd, 1) := by decide +kernel
theorem dX6_command_306 : decode cX6_command 306 = .ok (.iaload, 1) := by decide +kernel
theorem dX6_command_307 : decode cX6_command 307 = .ok (.bipush 10, 2) := by decide +kernel
theorem dX6_command_309 : decode cX6_command 309 = .ok (.iload 4, 2) := by decide +kernel
theorem dX6_command_311 : decode cX6_command 311 = .ok (.imul, 1) := by decide +kernel
theorem dX6_command_312 : decode cX6_command 312 = .ok (.iload 5, 2) := by decide +kernel
theorem dX6_command_314 : decode cX6_command 314 = .ok (.iadd, 1) := by decide +kernel
theorem dX6_command_315 : decode cX6_command 315 = .ok (.if_icmp .lt 7, 3) := by decide +kernel
theorem dX6_command_318 : decode cX6_command 318 = .ok (.iconst 1, 1) := by decide +kernel
theorem dX6_command_319 : decode cX6_command 319 = .ok (.goto 4, 3) := by decide +kernel
theorem dX6_command_322 : decode cX6_command 322 = .ok (.iconst 0, 1) := by decide +kernel
theorem dX6_command_323 : decode cX6_command 323 = .ok (.ireturn, 1) := by decide +kernel
theorem dX6_command_324 : decode cX6_command 324 = .ok (.iload_n 2, 1) := by decide +kernel
theorem dX6_command_325 : decode cX6_command 325 = .ok (.iload_n 3, 1) := by decide +kernel
theorem dX6_command_326 : decode cX6_command 326 = .ok (.iadd, 1) := by decide +kernel
theorem dX6_command_327 : decode cX6_command 327 = .ok (.iload 4, 2) := by decide +kernel
theorem dX6_command_329 : decode cX6_command 329 = .ok (.iadd, 1) := by decide +kernel
theorem dX6_command_330 : decode cX6_command 330 = .ok (.iload 5, 2) := by decide +kernel
theorem dX6_command_332 : decode cX6_command 332 = .ok (.iadd, 1) := by decide +kernel
theorem dX6_command_333 : decode cX6_command 333 = .ok (.ifCond .ne 17, 3) := by decide +kernel
theorem dX6_command_336 : decode cX6_command 336 = .ok (.aload_n 0, 1) := by decide +kernel
theorem dX6_command_337 : decode cX6_command 337 = .ok (.getfield 16, 3) := by decide +kernel
theorem dX6_command_340 : decode cX6_command 340 = .ok (.iconst 1, 1) := by decide +kernel
theorem dX6_command_341 : decode cX6_command 341 = .ok (.iaload, 1) := by decide +kernel
theorem dX6_command_342 : decode cX6_command 342 = .ok (.iconst 1, 1) := by decide +kernel
theorem dX6_command_343 : decode cX6_command 343 = .ok (.if_icmp .ne 7, 3) := by decide +kernel
theorem dX6_command_346 : decode cX6_command 346 = .ok (.iconst 1, 1) := by decide +kernel
theorem dX6_command_347 : decode cX6_command 347 = .ok (.goto 4, 3) := by decide +kernel
theorem dX6_command_350 : decode cX6_command 350 = .ok (.iconst 0, 1) := by decide +kernel
theorem dX6_command_351 : decode cX6_command 351 = .ok (.ireturn, 1) := by decide +kernel
theorem dX6_command_352 : decode cX6_command 352 = .ok (.iconst 0, 1) := by decide +kernel
theorem dX6_command_353 : decode cX6_command 353 = .ok (.ireturn, 1) := by decide +kernel
theorem dX6_runScript_0 : decode cX6_runScript 0 = .ok (.lconst 1, 1) := by decide +kernel
theorem dX6_runScript_1 : decode cX6_runScript 1 = .ok (.lstore 4, 2) := by decide +kernel
theorem dX6_runScript_3 : decode cX6_runScript 3 = .ok (.iconst 0, 1) := by decide +kernel
theorem dX6_runScript_4 : decode cX6_runScript 4 = .ok (.istore 6, 2) := by decide +kernel
theorem dX6_runScript_6 : decode cX6_runScript 6 = .ok (.iload 6, 2) := by decide +kernel
theorem dX6_runScript_8 : decode cX6_runScript 8 = .ok (.iload_n 1, 1) := by decide +kernel
theorem dX6_runScript_9 : decode cX6_runScript 9 = .ok (.if_icmp .ge 23, 3) := by decide +kernel
theorem dX6_runScript_12 : decode cX6_runScript 12 = .ok (.iload 6, 2) := by decide +kernel
theorem dX6_runScript_14 : decode cX6_runScript 14 = .ok (.iconst 3, 1) := by decide +kernel
theorem dX6_runScript_15 : decode cX6_runScript 15 = .ok (.if_icmp .ge 17, 3) := by decide +kernel
theorem dX6_runScript_18 : decode cX6_runScript 18 = .ok (.lload 4, 2) := by decide +kernel
theorem dX6_runScript_20 : decode cX6_runScript 20 = .ok (.ldc2_w 199, 3) := by decide +kernel
theorem dX6_runScript_23 : decode cX6_runScript 23 = .ok (.lmul, 1) := by decide +kernel
theorem dX6_runScript_24 : decode cX6_runScript 24 = .ok (.lstore 4, 2) := by decide +kernel
theorem dX6_runScript_26 : decode cX6_runScript 26 = .ok (.iinc 6 1, 3) := by decide +kernel
theorem dX6_runScript_29 : decode cX6_runScript 29 = .ok (.goto (-23), 3) := by decide +kernel
theorem dX6_runScript_32 : decode cX6_runScript 32 = .ok (.aload_n 0, 1) := by decide +kernel
theorem dX6_runScript_33 : decode cX6_runScript 33 = .ok (.iload_n 1, 1) := by decide +kernel
theorem dX6_runScript_34 : decode cX6_runScript 34 = .ok (.i2l, 1) := by decide +kernel
theorem dX6_runScript_35 : decode cX6_runScript 35 = .ok (.lconst 1, 1) := by decide +kernel
theorem dX6_runScript_36 : decode cX6_runScript 36 = .ok (.ldc2_w 163, 3) := by decide +kernel
theorem dX6_runScript_39 : decode cX6_runScript 39 = .ok (.invokestatic 45, 3) := by decide +kernel
theorem dX6_runScript_42 : decode cX6_runScript 42 = .ok (.ifCond .eq 19, 3) := by decide +kernel
theorem dX6_runScript_45 : decode cX6_runScript 45 = .ok (.lload_n 2, 1) := by decide +kernel
theorem dX6_runScript_46 : decode cX6_runScript 46 = .ok (.lconst 0, 1) := by decide +kernel
theorem dX6_runScript_47 : decode cX6_runScript 47 = .ok (.lload 4, 2) := by decide +kernel
theorem dX6_runScript_49 : decode cX6_runScript 49 = .ok (.lconst 1, 1) := by decide +kernel
theorem dX6_runScript_50 : decode cX6_runScript 50 = .ok (.lsub, 1) := by decide +kernel
theorem dX6_runScript_51 : decode cX6_runScript 51 = .ok (.invokestatic 45, 3) := by decide +kernel
theorem dX6_runScript_54 : decode cX6_runScript 54 = .ok (.ifCond .eq 7, 3) := by decide +kernel
theorem dX6_runScript_57 : decode cX6_runScript 57 = .ok (.iconst 0, 1) := by decide +kernel
theorem dX6_runScript_58 : decode cX6_runScript 58 = .ok (.goto 4, 3) := by decide +kernel
theorem dX6_runScript_61 : decode cX6_runScript 61 = .ok (.iconst 1, 1) := by decide +kernel
theorem dX6_runScript_62 : decode cX6_runScript 62 = .ok (.invokevirtual 103, 3) := by decide +kernel
theorem dX6_runScript_65 : decode cX6_runScript 65 = .ok (.ifCond .eq 5, 3) := by decide +kernel
theorem dX6_runScript_68 : decode cX6_runScript 68 = .ok (.iconst 0, 1) := by decide +kernel
theorem dX6_runScript_69 : decode cX6_runScript 69 = .ok (.ireturn, 1) := by decide +kernel
theorem dX6_runScript_70 : decode cX6_runScript 70 = .ok (.aload_n 0, 1) := by decide +kernel
theorem dX6_runScript_71 : decode cX6_runScript 71 = .ok (.getfield 13, 3) := by decide +kernel
theorem dX6_runScript_74 : decode cX6_runScript 74 = .ok (.iconst 0, 1) := by decide +kernel
theorem dX6_runScript_75 : decode cX6_runScript 75 = .ok (.aload_n 0, 1) := by decide +kernel
theorem dX6_runScript_76 : decode cX6_runScript 76 = .ok (.getfield 16, 3) := by decide +kernel
theorem dX6_runScript_79 : decode cX6_runScript 79 = .ok (.iconst 0, 1) := by decide +kernel
theorem dX6_runScript_80 : decode cX6_runScript 80 = .ok (.invokestatic 154, 3) := by decide +kernel
theorem dX6_runScript_83 : decode cX6_runScript 83 = .ok (.iconst 0, 1) := by decide +kernel
theorem dX6_runScript_84 : decode cX6_runScript 84 = .ok (.istore 6, 2) := by decide +kernel
theorem dX6_runScript_86 : decode cX6_runScript 86 = .ok (.iload 6, 2) := by decide +kernel
theorem dX6_runScript_88 : decode cX6_runScript 88 = .ok (.iload_n 1, 1) := by decide +kernel
theorem dX6_runScript_89 : decode cX6_runScript 89 = .ok (.if_icmp .ge 74, 3) := by decide +kernel
theorem dX6_runScript_92 : decode cX6_runScript 92 = .ok (.lload 4, 2) := by decide +kernel
theorem dX6_runScript_94 : decode cX6_runScript 94 = .ok (.ldc2_w 199, 3) := by decide +kernel
theorem dX6_runScript_97 : decode cX6_runScript 97 = .ok (.ldiv, 1) := by decide +kernel
theorem dX6_runScript_98 : decode cX6_runScript 98 = .ok (.lstore 4, 2) := by decide +kernel
theorem dX6_runScript_100 : decode cX6_runScript 100 = .ok (.lload_n 2, 1) := by decide +kernel
theorem dX6_runScript_101 : decode cX6_runScript 101 = .ok (.lload 4, 2) := by decide +kernel
theorem dX6_runScript_103 : decode cX6_runScript 103 = .ok (.ldiv, 1) := by decide +kernel
theorem dX6_runScript_104 : decode cX6_runScript 104 = .ok (.ldc2_w 199, 3) := by decide +kernel
theorem dX6_runScript_107 : decode cX6_runScript 107 = .ok (.lrem, 1) := by decide +kernel
theorem dX6_runScript_108 : decode cX6_runScript 108 = .ok (.l2i, 1) := by decide +kernel
theorem dX6_runScript_109 : decode cX6_runScript 109 = .ok (.istore 7, 2) := by decide +kernel
theorem dX6_runScript_111 : decode cX6_runScript 111 = .ok (.aload_n 0, 1) := by decide +kernel
theorem dX6_runScript_112 : decode cX6_runScript 112 = .ok (.iload 7, 2) := by decide +kernel
theorem dX6_runScript_114 : decode cX6_runScript 114 = .ok (.sipush 10000, 3) := by decide +kernel
theorem dX6_runScript_117 : decode cX6_runScript 117 = .ok (.idiv, 1) := by decide +kernel
theorem dX6_runScript_118 : decode cX6_runScript 118 = .ok (.iload 7, 2) := by decide +kernel
theorem dX6_runScript_120 : decode cX6_runScript 120 = .ok (.sipush 1000, 3) := by decide +kernel
theorem dX6_runScript_123 : decode cX6_runScript 123 = .ok (.idiv, 1) := by decide +kernel
theorem dX6_runScript_124 : decode cX6_runScript 124 = .ok (.bipush 10, 2) := by decide +kernel
theorem dX6_runScript_126 : decode cX6_runScript 126 = .ok (.irem, 1) := by decide +kernel
theorem dX6_runScript_127 : decode cX6_runScript 127 = .ok (.iload 7, 2) := by decide +kernel
theorem dX6_runScript_129 : decode cX6_runScript 129 = .ok (.bipush 100, 2) := by decide +kernel
theorem dX6_runScript_131 : decode cX6_runScript 131 = .ok (.idiv, 1) := by decide +kernel
theorem dX6_runScript_132 : decode cX6_runScript 132 = .ok (.bipush 10, 2) := by decide +kernel
theorem dX6_runScript_134 : decode cX6_runScript 134 = .ok (.irem, 1) := by decide +kernel
theorem dX6_runScript_135 : decode cX6_runScript 135 = .ok (.iload 7, 2) := by decide +kernel
theorem dX6_runScript_137 : decode cX6_runScript 137 = .ok (.bipush 10, 2) := by decide +kernel
theorem dX6_runScript_139 : decode cX6_runScript 139 = .ok (.idiv, 1) := by decide +kernel
theorem dX6_runScript_140 : decode cX6_runScript 140 = .ok (.bipush 10, 2) := by decide +kernel
theorem dX6_runScript_142 : decode cX6_runScript 142 = .ok (.irem, 1) := by decide +kernel
theorem dX6_runScript_143 : decode cX6_runScript 143 = .ok (.iload 7, 2) := by decide +kernel
theorem dX6_runScript_145 : decode cX6_runScript 145 = .ok (.bipush 10, 2) := by decide +kernel
theorem dX6_runScript_147 : decode cX6_runScript 147 = .ok (.irem, 1) := by decide +kernel
theorem dX6_runScript_148 : decode cX6_runScript 148 = .ok (.invokevirtual 201, 3) := by decide +kernel
theorem dX6_runScript_151 : decode cX6_runScript 151 = .ok (.ifCond .ne 6, 3) := by decide +kernel
theorem dX6_runScript_154 : decode cX6_runScript 154 = .ok (.iload 6, 2) := by decide +kernel
theorem dX6_runScript_156 : decode cX6_runScript 156 = .ok (.ireturn, 1) := by decide +kernel
theorem dX6_runScript_157 : decode cX6_runScript 157 = .ok (.iinc 6 1, 3) := by decide +kernel
theorem dX6_runScript_160 : decode cX6_runScript 160 = .ok (.goto (-74), 3) := by decide +kernel
theorem dX6_runScript_163 : decode cX6_runScript 163 = .ok (.iconst (-1), 1) := by decide +kernel
theorem dX6_runScript_164 : decode cX6_runScript 164 = .ok (.ireturn, 1) := by decide +kernel
theorem dX6_turn_0 : decode cX6_turn 0 = .ok (.aload_n 0, 1) := by decide +kernel
theorem dX6_turn_1 : decode cX6_turn 1 = .ok (.getfield 16, 3) := by decide +kernel
theorem dX6_turn_4 : decode cX6_turn 4 = .ok (.iconst 4, 1) := by decide +kernel
theorem dX6_turn_5 : decode cX6_turn 5 = .ok (.iaload, 1) := by decide +kernel
theorem dX6_turn_6 : decode cX6_turn 6 = .ok (.ifCond .ne 7, 3) := by decide +kernel
theorem dX6_turn_9 : decode cX6_turn 9 = .ok (.iconst 1, 1) := by decide +kernel
theorem dX6_turn_10 : decode cX6_turn 10 = .ok (.goto 9, 3) := by decide +kernel
theorem dX6_turn_13 : decode cX6_turn 13 = .ok (.aload_n 0, 1) := by decide +kernel
theorem dX6_turn_14 : decode cX6_turn 14 = .ok (.getfield 16, 3) := by decide +kernel
theorem dX6_turn_17 : decode cX6_turn 17 = .ok (.iconst 4, 1) := by decide +kernel
theorem dX6_turn_18 : decode cX6_turn 18 = .ok (.iaload, 1) := by decide +kernel
theorem dX6_turn_19 : decode cX6_turn 19 = .ok (.istore_n 2, 1) := by decide +kernel
theorem dX6_turn_20 : decode cX6_turn 20 = .ok (.iload_n 1, 1) := by decide +kernel
theorem dX6_turn_21 : decode cX6_turn 21 = .ok (.bipush 16, 2) := by decide +kernel
theorem dX6_turn_23 : decode cX6_turn 23 = .ok (.idiv, 1) := by decide +kernel
theorem dX6_turn_24 : decode cX6_turn 24 = .ok (.iload_n 2, 1) := by decide +kernel
theorem dX6_turn_25 : decode cX6_turn 25 = .ok (.irem, 1) := by decide +kernel
theorem dX6_turn_26 : decode cX6_turn 26 = .ok (.istore_n 3, 1) := by decide +kernel
theorem dX6_turn_27 : decode cX6_turn 27 = .ok (.iload_n 1, 1) := by decide +kernel
theorem dX6_turn_28 : decode cX6_turn 28 = .ok (.sipush 128, 3) := by decide +kernel
theorem dX6_turn_31 : decode cX6_turn 31 = .ok (.idiv, 1) := by decide +kernel
theorem dX6_turn_32 : decode cX6_turn 32 = .ok (.iconst 3, 1) := by decide +kernel
theorem dX6_turn_33 : decode cX6_turn 33 = .ok (.irem, 1) := by decide +kernel
theorem dX6_turn_34 : decode cX6_turn 34 = .ok (.istore 4, 2) := by decide +kernel
theorem dX6_turn_36 : decode cX6_turn 36 = .ok (.iload_n 1, 1) := by decide +kernel
theorem dX6_turn_37 : decode cX6_turn 37 = .ok (.bipush 16, 2) := by decide +kernel
theorem dX6_turn_39 : decode cX6_turn 39 = .ok (.irem, 1) := by decide +kernel
theorem dX6_turn_40 : decode cX6_turn 40 = .ok (.istore 5, 2) := by decide +kernel
theorem dX6_turn_42 : decode cX6_turn 42 = .ok (.iload 5, 2) := by decide +kernel
theorem dX6_turn_44 : decode cX6_turn 44 = .ok (.ifCond .ne 33, 3) := by decide +kernel
theorem dX6_turn_47 : decode cX6_turn 47 = .ok (.aload_n 0, 1) := by decide +kernel
theorem dX6_turn_48 : decode cX6_turn 48 = .ok (.getfield 16, 3) := by decide +kernel
theorem dX6_turn_51 : decode cX6_turn 51 = .ok (.bipush 98, 2) := by decide +kernel
theorem dX6_turn_53 : decode cX6_turn 53 = .ok (.iload_n 1, 1) := by decide +kernel
theorem dX6_turn_54 : decode cX6_turn 54 = .ok (.bipush 16, 2) := by decide +kernel
theorem dX6_turn_56 : decode cX6_turn 56 = .ok (.idiv, 1) := by decide +kernel
theorem dX6_turn_57 : decode cX6_turn 57 = .ok (.bipush 20, 2) := by decide +kernel
theorem dX6_turn_59 : decode cX6_turn 59 = .ok (.irem, 1) := by decide +kernel
theorem dX6_turn_60 : decode cX6_turn 60 = .ok (.iconst 1, 1) := by decide +kernel
theorem dX6_turn_61 : decode cX6_turn 61 = .ok (.iload_n 1, 1) := by decide +kernel
theorem dX6_turn_62 : decode cX6_turn 62 = .ok (.sipush 512, 3) := by decide +kernel
theorem dX6_turn_65 : decode cX6_turn 65 = .ok (.idiv, 1) := by decide +kernel
theorem dX6_turn_66 : decode cX6_turn 66 = .ok (.iconst 5, 1) := by decide +kernel
theorem dX6_turn_67 : decode cX6_turn 67 = .ok (.irem, 1) := by decide +kernel
theorem dX6_turn_68 : decode cX6_turn 68 = .ok (.iadd, 1) := by decide +kernel
theorem dX6_turn_69 : decode cX6_turn 69 = .ok (.iconst 0, 1) := by decide +kernel
theorem dX6_turn_70 : decode cX6_turn 70 = .ok (.invokestatic 143, 3) := by decide +kernel
theorem dX6_turn_73 : decode cX6_turn 73 = .ok (.pop, 1) := by decide +kernel
theorem dX6_turn_74 : decode cX6_turn 74 = .ok (.goto 191, 3) := by decide +kernel
theorem dX6_turn_77 : decode cX6_turn 77 = .ok (.iload 5, 2) := by decide +kernel
theorem dX6_turn_79 : decode cX6_turn 79 = .ok (.iconst 4, 1) := by decide +kernel
theorem dX6_turn_80 : decode cX6_turn 80 = .ok (.if_icmp .ge 27, 3) := by decide +kernel
theorem dX6_turn_83 : decode cX6_turn 83 = .ok (.aload_n 0, 1) := by decide +kernel
theorem dX6_turn_84 : decode cX6_turn 84 = .ok (.getfield 16, 3) := by decide +kernel
theorem dX6_turn_87 : decode cX6_turn 87 = .ok (.bipush 118, 2) := by decide +kernel
theorem dX6_turn_89 : decode cX6_turn 89 = .ok (.iload_n 3, 1) := by decide +kernel
theorem dX6_turn_90 : decode cX6_turn 90 = .ok (.iload 4, 2) := by decide +kernel
theorem dX6_turn_92 : decode cX6_turn 92 = .ok (.iload_n 1, 1) := by decide +kernel
theorem dX6_turn_93 : decode cX6_turn 93 = .ok (.sipush 512, 3) := by decide +kernel
theorem dX6_turn_96 : decode cX6_turn 96 = .ok (.idiv, 1) := by decide +kernel
theorem dX6_turn_97 : decode cX6_turn 97 = .ok (.bipush 100, 2) := by decide +kernel
theorem dX6_turn_99 : decode cX6_turn 99 = .ok (.irem, 1) := by decide +kernel
theorem dX6_turn_100 : decode cX6_turn 100 = .ok (.invokestatic 143, 3) := by decide +kernel
theorem dX6_turn_103 : decode cX6_turn 103 = .ok (.pop, 1) := by decide +kernel
theorem dX6_turn_104 : decode cX6_turn 104 = .ok (.goto 161, 3) := by decide +kernel
theorem dX6_turn_107 : decode cX6_turn 107 = .ok (.iload 5, 2) := by decide +kernel
theorem dX6_turn_109 : decode cX6_turn 109 = .ok (.bipush 7, 2) := by decide +kernel
theorem dX6_turn_111 : decode cX6_turn 111 = .ok (.if_icmp .ge 26, 3) := by decide +kernel
theorem dX6_turn_114 : decode cX6_turn 114 = .ok (.aload_n 0, 1) := by decide +kernel
theorem dX6_turn_115 : decode cX6_turn 115 = .ok (.getfield 16, 3) := by decide +kernel
theorem dX6_turn_118 : decode cX6_turn 118 = .ok (.bipush 113, 2) := by decide +kernel
theorem dX6_turn_120 : decode cX6_turn 120 = .ok (.iload_n 3, 1) := by decide +kernel
theorem dX6_turn_121 : decode cX6_turn 121 = .ok (.iload 4, 2) := by decide +kernel
theorem dX6_turn_123 : decode cX6_turn 123 = .ok (.iload_n 1, 1) := by decide +kernel
theorem dX6_turn_124 : decode cX6_turn 124 = .ok (.sipush 512, 3) := by decide +kernel
theorem dX6_turn_127 : decode cX6_turn 127 = .ok (.idiv, 1) := by decide +kernel
theorem dX6_turn_128 : decode cX6_turn 128 = .ok (.iconst 4, 1) := by decide +kernel
theorem dX6_turn_129 : decode cX6_turn 129 = .ok (.irem, 1) := by decide +kernel
theorem dX6_turn_130 : decode cX6_turn 130 = .ok (.invokestatic 143, 3) := by decide +kernel
theorem dX6_turn_133 : decode cX6_turn 133 = .ok (.pop, 1) := by decide +kernel
theorem dX6_turn_134 : decode cX6_turn 134 = .ok (.goto 131, 3) := by decide +kernel
theorem dX6_turn_137 : decode cX6_turn 137 = .ok (.iload 5, 2) := by decide +kernel
theorem dX6_turn_139 : decode cX6_turn 139 = .ok (.bipush 11, 2) := by decide +kernel
theorem dX6_turn_141 : decode cX6_turn 141 = .ok (.if_icmp .ge 19, 3) := by decide +kernel
theorem dX6_turn_144 : decode cX6_turn 144 = .ok (.aload_n 0, 1) := by decide +kernel
theorem dX6_turn_145 : decode cX6_turn 145 = .ok (.getfield 16, 3) := by decide +kernel
theorem dX6_turn_148 : decode cX6_turn 148 = .ok (.bipush 119, 2) := by decide +kernel
theorem dX6_turn_150 : decode cX6_turn 150 = .ok (.iload_n 3, 1) := by decide +kernel
theorem dX6_turn_151 : decode cX6_turn 151 = .ok (.iconst 0, 1) := by decide +kernel
theorem dX6_turn_152 : decode cX6_turn 152 = .ok (.iconst 0, 1) := by decide +kernel
theorem dX6_turn_153 : decode cX6_turn 153 = .ok (.invokestatic 143, 3) := by decide +kernel
theorem dX6_turn_156 : decode cX6_turn 156 = .ok (.pop, 1) := by decide +kernel
theorem dX6_turn_157 : decode cX6_turn 157 = .ok (.goto 108, 3) := by decide +kernel
theorem dX6_turn_160 : decode cX6_turn 160 = .ok (.iload 5, 2) := by decide +kernel
theorem dX6_turn_162 : decode cX6_turn 162 = .ok (.bipush 14, 2) := by decide +kernel
theorem dX6_turn_164 : decode cX6_turn 164 = .ok (.if_icmp .ge 19, 3) := by decide +kernel
theorem dX6_turn_167 : decode cX6_turn 167 = .ok (.aload_n 0, 1) := by decide +kernel
theorem dX6_turn_168 : decode cX6_turn 168 = .ok (.getfield 16, 3) := by decide +kernel
theorem dX6_turn_171 : decode cX6_turn 171 = .ok (.bipush 99, 2) := by decide +kernel
theorem dX6_turn_173 : decode cX6_turn 173 = .ok (.iconst 0, 1) := by decide +kernel
theorem dX6_turn_174 : decode cX6_turn 174 = .ok (.iconst 0, 1) := by decide +kernel
theorem dX6_turn_175 : decode cX6_turn 175 = .ok (.iconst 0, 1) := by decide +kernel
theorem dX6_turn_176 : decode cX6_turn 176 = .ok (.invokestatic 143, 3) := by decide +kernel
theorem dX6_turn_179 : decode cX6_turn 179 = .ok (.pop, 1) := by decide +kernel
theorem dX6_turn_180 : decode cX6_turn 180 = .ok (.goto 85, 3) := by decide +kernel
theorem dX6_turn_183 : decode cX6_turn 183 = .ok (.aload_n 0, 1) := by decide +kernel
theorem dX6_turn_184 : decode cX6_turn 184 = .ok (.getfield 16, 3) := by decide +kernel
theorem dX6_turn_187 : decode cX6_turn 187 = .ok (.iload_n 3, 1) := by decide +kernel
theorem dX6_turn_188 : decode cX6_turn 188 = .ok (.iload_n 1, 1) := by decide +kernel
theorem dX6_turn_189 : decode cX6_turn 189 = .ok (.sipush 512, 3) := by decide +kernel
theorem dX6_turn_192 : decode cX6_turn 192 = .ok (.idiv, 1) := by decide +kernel
theorem dX6_turn_193 : decode cX6_turn 193 = .ok (.iconst 3, 1) := by decide +kernel
theorem dX6_turn_194 : decode cX6_turn 194 = .ok (.irem, 1) := by decide +kernel
theorem dX6_turn_195 : decode cX6_turn 195 = .ok (.iload_n 1, 1) := by decide +kernel
theorem dX6_turn_196 : decode cX6_turn 196 = .ok (.sipush 2048, 3) := by decide +kernel
theorem dX6_turn_199 : decode cX6_turn 199 = .ok (.idiv, 1) := by decide +kernel
theorem dX6_turn_200 : decode cX6_turn 200 = .ok (.iconst 3, 1) := by decide +kernel
theorem dX6_turn_201 : decode cX6_turn 201 = .ok (.irem, 1) := by decide +kernel
theorem dX6_turn_202 : decode cX6_turn 202 = .ok (.iload_n 1, 1) := by decide +kernel
theorem dX6_turn_203 : decode cX6_turn 203 = .ok (.sipush 8192, 3) := by decide +kernel
theorem dX6_turn_206 : decode cX6_turn 206 = .ok (.idiv, 1) := by decide +kernel
theorem dX6_turn_207 : decode cX6_turn 207 = .ok (.iconst 3, 1) := by decide +kernel
theorem dX6_turn_208 : decode cX6_turn 208 = .ok (.irem, 1) := by decide +kernel
theorem dX6_turn_209 : decode cX6_turn 209 = .ok (.iconst 1, 1) := by decide +kernel
theorem dX6_turn_210 : decode cX6_turn 210 = .ok (.iload_n 1, 1) := by decide +kernel
theorem dX6_turn_211 : decode cX6_turn 211 = .ok (.ldc 205, 2) := by decide +kernel
theorem dX6_turn_213 : decode cX6_turn 213 = .ok (.idiv, 1) := by decide +kernel
theorem dX6_turn_214 : decode cX6_turn 214 = .ok (.sipush 200, 3) := by decide +kernel
theorem dX6_turn_217 : decode cX6_turn 217 = .ok (.irem, 1) := by decide +kernel
theorem dX6_turn_218 : decode cX6_turn 218 = .ok (.iadd, 1) := by decide +kernel
theorem dX6_turn_219 : decode cX6_turn 219 = .ok (.invokestatic 170, 3) := by decide +kernel
theorem dX6_turn_222 : decode cX6_turn 222 = .ok (.ifCond .ne 43, 3) := by decide +kernel
theorem dX6_turn_225 : decode cX6_turn 225 = .ok (.aload_n 0, 1) := by decide +kernel
theorem dX6_turn_226 : decode cX6_turn 226 = .ok (.getfield 16, 3) := by decide +kernel
theorem dX6_turn_229 : decode cX6_turn 229 = .ok (.iload_n 3, 1) := by decide +kernel
theorem dX6_turn_230 : decode cX6_turn 230 = .ok (.iload_n 1, 1) := by decide +kernel
theorem dX6_turn_231 : decode cX6_turn 231 = .ok (.sipush 512, 3) := by decide +kernel
theorem dX6_turn_234 : decode cX6_turn 234 = .ok (.idiv, 1) := by decide +kernel
theorem dX6_turn_235 : decode cX6_turn 235 = .ok (.iconst 3, 1) := by decide +kernel
theorem dX6_turn_236 : decode cX6_turn 236 = .ok (.irem, 1) := by decide +kernel
theorem dX6_turn_237 : decode cX6_turn 237 = .ok (.iload_n 1, 1) := by decide +kernel
theorem dX6_turn_238 : decode cX6_turn 238 = .ok (.sipush 2048, 3) := by decide +kernel
theorem dX6_turn_241 : decode cX6_turn 241 = .ok (.idiv, 1) := by decide +kernel
theorem dX6_turn_242 : decode cX6_turn 242 = .ok (.iconst 3, 1) := by decide +kernel
theorem dX6_turn_243 : decode cX6_turn 243 = .ok (.irem, 1) := by decide +kernel
theorem dX6_turn_244 : decode cX6_turn 244 = .ok (.iload_n 1, 1) := by decide +kernel
theorem dX6_turn_245 : decode cX6_turn 245 = .ok (.sipush 8192, 3) := by decide +kernel
theorem dX6_turn_248 : decode cX6_turn 248 = .ok (.idiv, 1) := by decide +kernel
theorem dX6_turn_249 : decode cX6_turn 249 = .ok (.iconst 3, 1) := by decide +kernel
theorem dX6_turn_250 : decode cX6_turn 250 = .ok (.irem, 1) := by decide +kernel
theorem dX6_turn_251 : decode cX6_turn 251 = .ok (.iconst 1, 1) := by decide +kernel
theorem dX6_turn_252 : decode cX6_turn 252 = .ok (.iload_n 1, 1) := by decide +kernel
theorem dX6_turn_253 : decode cX6_turn 253 = .ok (.ldc 205, 2) := by decide +kernel
theorem dX6_turn_255 : decode cX6_turn 255 = .ok (.idiv, 1) := by decide +kernel
theorem dX6_turn_256 : decode cX6_turn 256 = .ok (.sipush 200, 3) := by decide +kernel
theorem dX6_turn_259 : decode cX6_turn 259 = .ok (.irem, 1) := by decide +kernel
theorem dX6_turn_260 : decode cX6_turn 260 = .ok (.iadd, 1) := by decide +kernel
theorem dX6_turn_261 : decode cX6_turn 261 = .ok (.invokestatic 174, 3) := by decide +kernel
theorem dX6_turn_264 : decode cX6_turn 264 = .ok (.pop, 1) := by decide +kernel
theorem dX6_turn_265 : decode cX6_turn 265 = .ok (.return_, 1) := by decide +kernel
theorem dX6_simulate_0 : decode cX6_simulate 0 = .ok (.aload_n 0, 1) := by decide +kernel
theorem dX6_simulate_1 : decode cX6_simulate 1 = .ok (.iload_n 3, 1) := by decide +kernel
theorem dX6_simulate_2 : decode cX6_simulate 2 = .ok (.i2l, 1) := by decide +kernel
theorem dX6_simulate_3 : decode cX6_simulate 3 = .ok (.lconst 1, 1) := by decide +kernel
theorem dX6_simulate_4 : decode cX6_simulate 4 = .ok (.ldc2_w 75, 3) := by decide +kernel
theorem dX6_simulate_7 : decode cX6_simulate 7 = .ok (.invokestatic 45, 3) := by decide +kernel
theorem dX6_simulate_10 : decode cX6_simulate 10 = .ok (.ifCond .eq 7, 3) := by decide +kernel
theorem dX6_simulate_13 : decode cX6_simulate 13 = .ok (.iconst 0, 1) := by decide +kernel
theorem dX6_simulate_14 : decode cX6_simulate 14 = .ok (.goto 4, 3) := by decide +kernel
theorem dX6_simulate_17 : decode cX6_simulate 17 = .ok (.iconst 1, 1) := by decide +kernel
theorem dX6_simulate_18 : decode cX6_simulate 18 = .ok (.invokevirtual 103, 3) := by decide +kernel
theorem dX6_simulate_21 : decode cX6_simulate 21 = .ok (.ifCond .eq 5, 3) := by decide +kernel
theorem dX6_simulate_24 : decode cX6_simulate 24 = .ok (.iconst 0, 1) := by decide +kernel
theorem dX6_simulate_25 : decode cX6_simulate 25 = .ok (.ireturn, 1) := by decide +kernel
theorem dX6_simulate_26 : decode cX6_simulate 26 = .ok (.aload_n 0, 1) := by decide +kernel
theorem dX6_simulate_27 : decode cX6_simulate 27 = .ok (.getfield 13, 3) := by decide +kernel
theorem dX6_simulate_30 : decode cX6_simulate 30 = .ok (.iconst 0, 1) := by decide +kernel
theorem dX6_simulate_31 : decode cX6_simulate 31 = .ok (.aload_n 0, 1) := by decide +kernel
theorem dX6_simulate_32 : decode cX6_simulate 32 = .ok (.getfield 16, 3) := by decide +kernel
theorem dX6_simulate_35 : decode cX6_simulate 35 = .ok (.iconst 0, 1) := by decide +kernel
theorem dX6_simulate_36 : decode cX6_simulate 36 = .ok (.invokestatic 154, 3) := by decide +kernel
theorem dX6_simulate_39 : decode cX6_simulate 39 = .ok (.lload_n 1, 1) := by decide +kernel
theorem dX6_simulate_40 : decode cX6_simulate 40 = .ok (.lstore 4, 2) := by decide +kernel
theorem dX6_simulate_42 : decode cX6_simulate 42 = .ok (.iconst 0, 1) := by decide +kernel
theorem dX6_simulate_43 : decode cX6_simulate 43 = .ok (.istore 6, 2) := by decide +kernel
theorem dX6_simulate_45 : decode cX6_simulate 45 = .ok (.iload 6, 2) := by decide +kernel
theorem dX6_simulate_47 : decode cX6_simulate 47 = .ok (.iload_n 3, 1) := by decide +kernel
theorem dX6_simulate_48 : decode cX6_simulate 48 = .ok (.if_icmp .ge 31, 3) := by decide +kernel
theorem dX6_simulate_51 : decode cX6_simulate 51 = .ok (.lload 4, 2) := by decide +kernel
theorem dX6_simulate_53 : decode cX6_simulate 53 = .ok (.ldc2_w 206, 3) := by decide +kernel
theorem dX6_simulate_56 : decode cX6_simulate 56 = .ok (.lmul, 1) := by decide +kernel
theorem dX6_simulate_57 : decode cX6_simulate 57 = .ok (.ldc2_w 208, 3) := by decide +kernel
theorem dX6_simulate_60 : decode cX6_simulate 60 = .ok (.ladd, 1) := by decide +kernel
theorem dX6_simulate_61 : decode cX6_simulate 61 = .ok (.lstore 4, 2) := by decide +kernel
theorem dX6_simulate_63 : decode cX6_simulate 63 = .ok (.aload_n 0, 1) := by decide +kernel
theorem dX6_simulate_64 : decode cX6_simulate 64 = .ok (.lload 4, 2) := by decide +kernel
theorem dX6_simulate_66 : decode cX6_simulate 66 = .ok (.bipush 33, 2) := by decide +kernel
theorem dX6_simulate_68 : decode cX6_simulate 68 = .ok (.lushr, 1) := by decide +kernel
theorem dX6_simulate_69 : decode cX6_simulate 69 = .ok (.l2i, 1) := by decide +kernel
theorem dX6_simulate_70 : decode cX6_simulate 70 = .ok (.invokevirtual 210, 3) := by decide +kernel
theorem dX6_simulate_73 : decode cX6_simulate 73 = .ok (.iinc 6 1, 3) := by decide +kernel
theorem dX6_simulate_76 : decode cX6_simulate 76 = .ok (.goto (-31), 3) := by decide +kernel
theorem dX6_simulate_79 : decode cX6_simulate 79 = .ok (.sipush 1000, 3) := by decide +kernel
theorem dX6_simulate_82 : decode cX6_simulate 82 = .ok (.aload_n 0, 1) := by decide +kernel
theorem dX6_simulate_83 : decode cX6_simulate 83 = .ok (.getfield 16, 3) := by decide +kernel
theorem dX6_simulate_86 : decode cX6_simulate 86 = .ok (.iconst 0, 1) := by decide +kernel
theorem dX6_simulate_87 : decode cX6_simulate 87 = .ok (.iaload, 1) := by decide +kernel
theorem dX6_simulate_88 : decode cX6_simulate 88 = .ok (.aload_n 0, 1) := by decide +kernel
theorem dX6_simulate_89 : decode cX6_simulate 89 = .ok (.getfield 13, 3) := by decide +kernel
theorem dX6_simulate_92 : decode cX6_simulate 92 = .ok (.iconst 0, 1) := by decide +kernel
theorem dX6_simulate_93 : decode cX6_simulate 93 = .ok (.iaload, 1) := by decide +kernel
theorem dX6_simulate_94 : decode cX6_simulate 94 = .ok (.isub, 1) := by decide +kernel
theorem dX6_simulate_95 : decode cX6_simulate 95 = .ok (.imul, 1) := by decide +kernel
theorem dX6_simulate_96 : decode cX6_simulate 96 = .ok (.aload_n 0, 1) := by decide +kernel
theorem dX6_simulate_97 : decode cX6_simulate 97 = .ok (.getfield 16, 3) := by decide +kernel
theorem dX6_simulate_100 : decode cX6_simulate 100 = .ok (.iconst 0, 1) := by decide +kernel
theorem dX6_simulate_101 : decode cX6_simulate 101 = .ok (.invokestatic 53, 3) := by decide +kernel
theorem dX6_simulate_104 : decode cX6_simulate 104 = .ok (.iadd, 1) := by decide +kernel
theorem dX6_simulate_105 : decode cX6_simulate 105 = .ok (.aload_n 0, 1) := by decide +kernel
theorem dX6_simulate_106 : decode cX6_simulate 106 = .ok (.getfield 16, 3) := by decide +kernel
theorem dX6_simulate_109 : decode cX6_simulate 109 = .ok (.iconst 1, 1) := by decide +kernel
theorem dX6_simulate_110 : decode cX6_simulate 110 = .ok (.invokestatic 53, 3) := by decide +kernel
theorem dX6_simulate_113 : decode cX6_simulate 113 = .ok (.iadd, 1) := by decide +kernel
theorem dX6_simulate_114 : decode cX6_simulate 114 = .ok (.aload_n 0, 1) := by decide +kernel
theorem dX6_simulate_115 : decode cX6_simulate 115 = .ok (.getfield 16, 3) := by decide +kernel
theorem dX6_simulate_118 : decode cX6_simulate 118 = .ok (.iconst 2, 1) := by decide +kernel
theorem dX6_simulate_119 : decode cX6_simulate 119 = .ok (.invokestatic 53, 3) := by decide +kernel
theorem dX6_simulate_122 : decode cX6_simulate 122 = .ok (.iadd, 1) := by decide +kernel
theorem dX6_simulate_123 : decode cX6_simulate 123 = .ok (.ireturn, 1) := by decide +kernel
theorem dX6_save_0 : decode cX6_save 0 = .ok (.aload_n 0, 1) := by decide +kernel
theorem dX6_save_1 : decode cX6_save 1 = .ok (.iload_n 1, 1) := by decide +kernel
theorem dX6_save_2 : decode cX6_save 2 = .ok (.i2l, 1) := by decide +kernel
theorem dX6_save_3 : decode cX6_save 3 = .ok (.lconst 0, 1) := by decide +kernel
theorem dX6_save_4 : decode cX6_save 4 = .ok (.lconst 1, 1) := by decide +kernel
theorem dX6_save_5 : decode cX6_save 5 = .ok (.invokestatic 45, 3) := by decide +kernel
theorem dX6_save_8 : decode cX6_save 8 = .ok (.ifCond .eq 7, 3) := by decide +kernel
theorem dX6_save_11 : decode cX6_save 11 = .ok (.iconst 0, 1) := by decide +kernel
theorem dX6_save_12 : decode cX6_save 12 = .ok (.goto 4, 3) := by decide +kernel
theorem dX6_save_15 : decode cX6_save 15 = .ok (.iconst 1, 1) := by decide +kernel
theorem dX6_save_16 : decode cX6_save 16 = .ok (.invokevirtual 103, 3) := by decide +kernel
theorem dX6_save_19 : decode cX6_save 19 = .ok (.ifCond .eq 5, 3) := by decide +kernel
theorem dX6_save_22 : decode cX6_save 22 = .ok (.iconst 0, 1) := by decide +kernel
theorem dX6_save_23 : decode cX6_save 23 = .ok (.ireturn, 1) := by decide +kernel
theorem dX6_save_24 : decode cX6_save 24 = .ok (.aload_n 0, 1) := by decide +kernel
theorem dX6_save_25 : decode cX6_save 25 = .ok (.getfield 13, 3) := by decide +kernel
theorem dX6_save_28 : decode cX6_save 28 = .ok (.iconst 0, 1) := by decide +kernel
theorem dX6_save_29 : decode cX6_save 29 = .ok (.aload_n 0, 1) := by decide +kernel
theorem dX6_save_30 : decode cX6_save 30 = .ok (.getfield 22, 3) := by decide +kernel
theorem dX6_save_33 : decode cX6_save 33 = .ok (.sipush 140, 3) := by decide +kernel
theorem dX6_save_36 : decode cX6_save 36 = .ok (.iload_n 1, 1) := by decide +kernel
theorem dX6_save_37 : decode cX6_save 37 = .ok (.imul, 1) := by decide +kernel
theorem dX6_save_38 : decode cX6_save 38 = .ok (.invokestatic 154, 3) := by decide +kernel
theorem dX6_save_41 : decode cX6_save 41 = .ok (.aload_n 0, 1) := by decide +kernel
theorem dX6_save_42 : decode cX6_save 42 = .ok (.getfield 25, 3) := by decide +kernel
theorem dX6_save_45 : decode cX6_save 45 = .ok (.iload_n 1, 1) := by decide +kernel
theorem dX6_save_46 : decode cX6_save 46 = .ok (.iconst 1, 1) := by decide +kernel
theorem dX6_save_47 : decode cX6_save 47 = .ok (.bastore, 1) := by decide +kernel
theorem dX6_save_48 : decode cX6_save 48 = .ok (.aload_n 0, 1) := by decide +kernel
theorem dX6_save_49 : decode cX6_save 49 = .ok (.getfield 13, 3) := by decide +kernel
theorem dX6_save_52 : decode cX6_save 52 = .ok (.iconst 0, 1) := by decide +kernel
theorem dX6_save_53 : decode cX6_save 53 = .ok (.iaload, 1) := by decide +kernel
theorem dX6_save_54 : decode cX6_save 54 = .ok (.ireturn, 1) := by decide +kernel
theorem dX6_restore_0 : decode cX6_restore 0 = .ok (.aload_n 0, 1) := by decide +kernel
theorem dX6_restore_1 : decode cX6_restore 1 = .ok (.iload_n 1, 1) := by decide +kernel
theorem dX6_restore_2 : decode cX6_restore 2 = .ok (.i2l, 1) := by decide +kernel
theorem dX6_restore_3 : decode cX6_restore 3 = .ok (.lconst 0, 1) := by decide +kernel
theorem dX6_restore_4 : decode cX6_restore 4 = .ok (.lconst 1, 1) := by decide +kernel
theorem dX6_restore_5 : decode cX6_restore 5 = .ok (.invokestatic 45, 3) := by decide +kernel
theorem dX6_restore_8 : decode cX6_restore 8 = .ok (.ifCond .ne 7, 3) := by decide +kernel
theorem dX6_restore_11 : decode cX6_restore 11 = .ok (.iconst 1, 1) := by decide +kernel
theorem dX6_restore_12 : decode cX6_restore 12 = .ok (.goto 17, 3) := by decide +kernel
theorem dX6_restore_15 : decode cX6_restore 15 = .ok (.aload_n 0, 1) := by decide +kernel
theorem dX6_restore_16 : decode cX6_restore 16 = .ok (.getfield 25, 3) := by decide +kernel
theorem dX6_restore_19 : decode cX6_restore 19 = .ok (.iload_n 1, 1) := by decide +kernel
theorem dX6_restore_20 : decode cX6_restore 20 = .ok (.baload, 1) := by decide +kernel
theorem dX6_restore_21 : decode cX6_restore 21 = .ok (.ifCond .ne 7, 3) := by decide +kernel
theorem dX6_restore_24 : decode cX6_restore 24 = .ok (.iconst 2, 1) := by decide +kernel
theorem dX6_restore_25 : decode cX6_restore 25 = .ok (.goto 4, 3) := by decide +kernel
theorem dX6_restore_28 : decode cX6_restore 28 = .ok (.iconst 0, 1) := by decide +kernel
theorem dX6_restore_29 : decode cX6_restore 29 = .ok (.invokevirtual 103, 3) := by decide +kernel
theorem dX6_restore_32 : decode cX6_restore 32 = .ok (.ifCond .eq 5, 3) := by decide +kernel
theorem dX6_restore_35 : decode cX6_restore 35 = .ok (.iconst 0, 1) := by decide +kernel
theorem dX6_restore_36 : decode cX6_restore 36 = .ok (.ireturn, 1) := by decide +kernel
theorem dX6_restore_37 : decode cX6_restore 37 = .ok (.aload_n 0, 1) := by decide +kernel
theorem dX6_restore_38 : decode cX6_restore 38 = .ok (.getfield 22, 3) := by decide +kernel
theorem dX6_restore_41 : decode cX6_restore 41 = .ok (.sipush 140, 3) := by decide +kernel
theorem dX6_restore_44 : decode cX6_restore 44 = .ok (.iload_n 1, 1) := by decide +kernel
theorem dX6_restore_45 : decode cX6_restore 45 = .ok (.imul, 1) := by decide +kernel
theorem dX6_restore_46 : decode cX6_restore 46 = .ok (.aload_n 0, 1) := by decide +kernel
theorem dX6_restore_47 : decode cX6_restore 47 = .ok (.getfield 13, 3) := by decide +kernel
theorem dX6_restore_50 : decode cX6_restore 50 = .ok (.iconst 0, 1) := by decide +kernel
theorem dX6_restore_51 : decode cX6_restore 51 = .ok (.invokestatic 154, 3) := by decide +kernel
theorem dX6_restore_54 : decode cX6_restore 54 = .ok (.aload_n 0, 1) := by decide +kernel
theorem dX6_restore_55 : decode cX6_restore 55 = .ok (.iconst 0, 1) := by decide +kernel
theorem dX6_restore_56 : decode cX6_restore 56 = .ok (.putfield 158, 3) := by decide +kernel
theorem dX6_restore_59 : decode cX6_restore 59 = .ok (.aload_n 0, 1) := by decide +kernel
theorem dX6_restore_60 : decode cX6_restore 60 = .ok (.getfield 13, 3) := by decide +kernel
theorem dX6_restore_63 : decode cX6_restore 63 = .ok (.iconst 0, 1) := by decide +kernel
theorem dX6_restore_64 : decode cX6_restore 64 = .ok (.iaload, 1) := by decide +kernel
theorem dX6_restore_65 : decode cX6_restore 65 = .ok (.ireturn, 1) := by decide +kernel
