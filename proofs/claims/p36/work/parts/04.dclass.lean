theorem dX0_init_0 : decode cX0_init 0 = .ok (.aload_n 0, 1) := by decide +kernel
theorem dX0_init_1 : decode cX0_init 1 = .ok (.invokespecial 3, 3) := by decide +kernel
theorem dX0_init_4 : decode cX0_init 4 = .ok (.aload_n 0, 1) := by decide +kernel
theorem dX0_init_5 : decode cX0_init 5 = .ok (.iconst 3, 1) := by decide +kernel
theorem dX0_init_6 : decode cX0_init 6 = .ok (.newarray .int, 2) := by decide +kernel
theorem dX0_init_8 : decode cX0_init 8 = .ok (.putfield 9, 3) := by decide +kernel
theorem dX0_init_11 : decode cX0_init 11 = .ok (.aload_n 0, 1) := by decide +kernel
theorem dX0_init_12 : decode cX0_init 12 = .ok (.bipush 6, 2) := by decide +kernel
theorem dX0_init_14 : decode cX0_init 14 = .ok (.newarray .int, 2) := by decide +kernel
theorem dX0_init_16 : decode cX0_init 16 = .ok (.putfield 15, 3) := by decide +kernel
theorem dX0_init_19 : decode cX0_init 19 = .ok (.aload_n 0, 1) := by decide +kernel
theorem dX0_init_20 : decode cX0_init 20 = .ok (.bipush 6, 2) := by decide +kernel
theorem dX0_init_22 : decode cX0_init 22 = .ok (.newarray .int, 2) := by decide +kernel
theorem dX0_init_24 : decode cX0_init 24 = .ok (.putfield 18, 3) := by decide +kernel
theorem dX0_init_27 : decode cX0_init 27 = .ok (.return_, 1) := by decide +kernel
theorem dX0_find_0 : decode cX0_find 0 = .ok (.iconst 0, 1) := by decide +kernel
theorem dX0_find_1 : decode cX0_find 1 = .ok (.istore 4, 2) := by decide +kernel
theorem dX0_find_3 : decode cX0_find 3 = .ok (.iload 4, 2) := by decide +kernel
theorem dX0_find_5 : decode cX0_find 5 = .ok (.iconst 3, 1) := by decide +kernel
theorem dX0_find_6 : decode cX0_find 6 = .ok (.if_icmp .ge 35, 3) := by decide +kernel
theorem dX0_find_9 : decode cX0_find 9 = .ok (.aload_n 0, 1) := by decide +kernel
theorem dX0_find_10 : decode cX0_find 10 = .ok (.getfield 9, 3) := by decide +kernel
theorem dX0_find_13 : decode cX0_find 13 = .ok (.iload 4, 2) := by decide +kernel
theorem dX0_find_15 : decode cX0_find 15 = .ok (.aload_n 1, 1) := by decide +kernel
theorem dX0_find_16 : decode cX0_find 16 = .ok (.getfield 21, 3) := by decide +kernel
theorem dX0_find_19 : decode cX0_find 19 = .ok (.iload 4, 2) := by decide +kernel
theorem dX0_find_21 : decode cX0_find 21 = .ok (.iaload, 1) := by decide +kernel
theorem dX0_find_22 : decode cX0_find 22 = .ok (.iload 4, 2) := by decide +kernel
theorem dX0_find_24 : decode cX0_find 24 = .ok (.iload_n 3, 1) := by decide +kernel
theorem dX0_find_25 : decode cX0_find 25 = .ok (.if_icmp .ne 7, 3) := by decide +kernel
theorem dX0_find_28 : decode cX0_find 28 = .ok (.iconst 1, 1) := by decide +kernel
theorem dX0_find_29 : decode cX0_find 29 = .ok (.goto 4, 3) := by decide +kernel
theorem dX0_find_32 : decode cX0_find 32 = .ok (.iconst 0, 1) := by decide +kernel
theorem dX0_find_33 : decode cX0_find 33 = .ok (.iadd, 1) := by decide +kernel
theorem dX0_find_34 : decode cX0_find 34 = .ok (.iastore, 1) := by decide +kernel
theorem dX0_find_35 : decode cX0_find 35 = .ok (.iinc 4 1, 3) := by decide +kernel
theorem dX0_find_38 : decode cX0_find 38 = .ok (.goto (-35), 3) := by decide +kernel
theorem dX0_find_41 : decode cX0_find 41 = .ok (.aload_n 0, 1) := by decide +kernel
theorem dX0_find_42 : decode cX0_find 42 = .ok (.iconst (-1), 1) := by decide +kernel
theorem dX0_find_43 : decode cX0_find 43 = .ok (.putfield 26, 3) := by decide +kernel
theorem dX0_find_46 : decode cX0_find 46 = .ok (.aload_n 0, 1) := by decide +kernel
theorem dX0_find_47 : decode cX0_find 47 = .ok (.aload_n 1, 1) := by decide +kernel
theorem dX0_find_48 : decode cX0_find 48 = .ok (.iload_n 2, 1) := by decide +kernel
theorem dX0_find_49 : decode cX0_find 49 = .ok (.iconst 0, 1) := by decide +kernel
theorem dX0_find_50 : decode cX0_find 50 = .ok (.iconst 0, 1) := by decide +kernel
theorem dX0_find_51 : decode cX0_find 51 = .ok (.invokevirtual 30, 3) := by decide +kernel
theorem dX0_find_54 : decode cX0_find 54 = .ok (.aload_n 0, 1) := by decide +kernel
theorem dX0_find_55 : decode cX0_find 55 = .ok (.getfield 26, 3) := by decide +kernel
theorem dX0_find_58 : decode cX0_find 58 = .ok (.ireturn, 1) := by decide +kernel
theorem dX0_packOf_0 : decode cX0_packOf 0 = .ok (.aload_n 0, 1) := by decide +kernel
theorem dX0_packOf_1 : decode cX0_packOf 1 = .ok (.getfield 18, 3) := by decide +kernel
theorem dX0_packOf_4 : decode cX0_packOf 4 = .ok (.iload_n 1, 1) := by decide +kernel
theorem dX0_packOf_5 : decode cX0_packOf 5 = .ok (.iaload, 1) := by decide +kernel
theorem dX0_packOf_6 : decode cX0_packOf 6 = .ok (.ireturn, 1) := by decide +kernel
theorem dX0_tryFrom_0 : decode cX0_tryFrom 0 = .ok (.iload_n 3, 1) := by decide +kernel
theorem dX0_tryFrom_1 : decode cX0_tryFrom 1 = .ok (.aload_n 1, 1) := by decide +kernel
theorem dX0_tryFrom_2 : decode cX0_tryFrom 2 = .ok (.getfield 34, 3) := by decide +kernel
theorem dX0_tryFrom_5 : decode cX0_tryFrom 5 = .ok (.if_icmp .ge 9, 3) := by decide +kernel
theorem dX0_tryFrom_8 : decode cX0_tryFrom 8 = .ok (.iload_n 3, 1) := by decide +kernel
theorem dX0_tryFrom_9 : decode cX0_tryFrom 9 = .ok (.bipush 6, 2) := by decide +kernel
theorem dX0_tryFrom_11 : decode cX0_tryFrom 11 = .ok (.if_icmp .lt 10, 3) := by decide +kernel
theorem dX0_tryFrom_14 : decode cX0_tryFrom 14 = .ok (.aload_n 0, 1) := by decide +kernel
theorem dX0_tryFrom_15 : decode cX0_tryFrom 15 = .ok (.iload 4, 2) := by decide +kernel
theorem dX0_tryFrom_17 : decode cX0_tryFrom 17 = .ok (.invokevirtual 37, 3) := by decide +kernel
theorem dX0_tryFrom_20 : decode cX0_tryFrom 20 = .ok (.return_, 1) := by decide +kernel
theorem dX0_tryFrom_21 : decode cX0_tryFrom 21 = .ok (.iload_n 3, 1) := by decide +kernel
theorem dX0_tryFrom_22 : decode cX0_tryFrom 22 = .ok (.iload_n 2, 1) := by decide +kernel
theorem dX0_tryFrom_23 : decode cX0_tryFrom 23 = .ok (.if_icmp .ne 7, 3) := by decide +kernel
theorem dX0_tryFrom_26 : decode cX0_tryFrom 26 = .ok (.iconst (-1), 1) := by decide +kernel
theorem dX0_tryFrom_27 : decode cX0_tryFrom 27 = .ok (.goto 9, 3) := by decide +kernel
theorem dX0_tryFrom_30 : decode cX0_tryFrom 30 = .ok (.aload_n 1, 1) := by decide +kernel
theorem dX0_tryFrom_31 : decode cX0_tryFrom 31 = .ok (.getfield 41, 3) := by decide +kernel
theorem dX0_tryFrom_34 : decode cX0_tryFrom 34 = .ok (.iload_n 3, 1) := by decide +kernel
theorem dX0_tryFrom_35 : decode cX0_tryFrom 35 = .ok (.iaload, 1) := by decide +kernel
theorem dX0_tryFrom_36 : decode cX0_tryFrom 36 = .ok (.istore 5, 2) := by decide +kernel
theorem dX0_tryFrom_38 : decode cX0_tryFrom 38 = .ok (.iconst (-1), 1) := by decide +kernel
theorem dX0_tryFrom_39 : decode cX0_tryFrom 39 = .ok (.istore 6, 2) := by decide +kernel
theorem dX0_tryFrom_41 : decode cX0_tryFrom 41 = .ok (.iload 6, 2) := by decide +kernel
theorem dX0_tryFrom_43 : decode cX0_tryFrom 43 = .ok (.iload 5, 2) := by decide +kernel
theorem dX0_tryFrom_45 : decode cX0_tryFrom 45 = .ok (.if_icmp .gt 20, 3) := by decide +kernel
theorem dX0_tryFrom_48 : decode cX0_tryFrom 48 = .ok (.aload_n 0, 1) := by decide +kernel
theorem dX0_tryFrom_49 : decode cX0_tryFrom 49 = .ok (.aload_n 1, 1) := by decide +kernel
theorem dX0_tryFrom_50 : decode cX0_tryFrom 50 = .ok (.iload_n 2, 1) := by decide +kernel
theorem dX0_tryFrom_51 : decode cX0_tryFrom 51 = .ok (.iload_n 3, 1) := by decide +kernel
theorem dX0_tryFrom_52 : decode cX0_tryFrom 52 = .ok (.iload 6, 2) := by decide +kernel
theorem dX0_tryFrom_54 : decode cX0_tryFrom 54 = .ok (.iload 4, 2) := by decide +kernel
theorem dX0_tryFrom_56 : decode cX0_tryFrom 56 = .ok (.invokevirtual 44, 3) := by decide +kernel
theorem dX0_tryFrom_59 : decode cX0_tryFrom 59 = .ok (.iinc 6 1, 3) := by decide +kernel
theorem dX0_tryFrom_62 : decode cX0_tryFrom 62 = .ok (.goto (-21), 3) := by decide +kernel
theorem dX0_tryFrom_65 : decode cX0_tryFrom 65 = .ok (.return_, 1) := by decide +kernel
theorem dX0_tryWith_0 : decode cX0_tryWith 0 = .ok (.aload_n 0, 1) := by decide +kernel
theorem dX0_tryWith_1 : decode cX0_tryWith 1 = .ok (.getfield 15, 3) := by decide +kernel
theorem dX0_tryWith_4 : decode cX0_tryWith 4 = .ok (.iload_n 3, 1) := by decide +kernel
theorem dX0_tryWith_5 : decode cX0_tryWith 5 = .ok (.iload 4, 2) := by decide +kernel
theorem dX0_tryWith_7 : decode cX0_tryWith 7 = .ok (.iastore, 1) := by decide +kernel
theorem dX0_tryWith_8 : decode cX0_tryWith 8 = .ok (.iload 4, 2) := by decide +kernel
theorem dX0_tryWith_10 : decode cX0_tryWith 10 = .ok (.iconst (-1), 1) := by decide +kernel
theorem dX0_tryWith_11 : decode cX0_tryWith 11 = .ok (.if_icmp .ne 17, 3) := by decide +kernel
theorem dX0_tryWith_14 : decode cX0_tryWith 14 = .ok (.aload_n 0, 1) := by decide +kernel
theorem dX0_tryWith_15 : decode cX0_tryWith 15 = .ok (.aload_n 1, 1) := by decide +kernel
theorem dX0_tryWith_16 : decode cX0_tryWith 16 = .ok (.iload_n 2, 1) := by decide +kernel
theorem dX0_tryWith_17 : decode cX0_tryWith 17 = .ok (.iload_n 3, 1) := by decide +kernel
theorem dX0_tryWith_18 : decode cX0_tryWith 18 = .ok (.iconst 1, 1) := by decide +kernel
theorem dX0_tryWith_19 : decode cX0_tryWith 19 = .ok (.iadd, 1) := by decide +kernel
theorem dX0_tryWith_20 : decode cX0_tryWith 20 = .ok (.iload 5, 2) := by decide +kernel
theorem dX0_tryWith_22 : decode cX0_tryWith 22 = .ok (.invokevirtual 30, 3) := by decide +kernel
theorem dX0_tryWith_25 : decode cX0_tryWith 25 = .ok (.goto 51, 3) := by decide +kernel
theorem dX0_tryWith_28 : decode cX0_tryWith 28 = .ok (.aload_n 0, 1) := by decide +kernel
theorem dX0_tryWith_29 : decode cX0_tryWith 29 = .ok (.aload_n 1, 1) := by decide +kernel
theorem dX0_tryWith_30 : decode cX0_tryWith 30 = .ok (.iload_n 3, 1) := by decide +kernel
theorem dX0_tryWith_31 : decode cX0_tryWith 31 = .ok (.iload 4, 2) := by decide +kernel
theorem dX0_tryWith_33 : decode cX0_tryWith 33 = .ok (.invokevirtual 48, 3) := by decide +kernel
theorem dX0_tryWith_36 : decode cX0_tryWith 36 = .ok (.ifCond .eq 40, 3) := by decide +kernel
theorem dX0_tryWith_39 : decode cX0_tryWith 39 = .ok (.aload_n 0, 1) := by decide +kernel
theorem dX0_tryWith_40 : decode cX0_tryWith 40 = .ok (.aload_n 1, 1) := by decide +kernel
theorem dX0_tryWith_41 : decode cX0_tryWith 41 = .ok (.iload_n 3, 1) := by decide +kernel
theorem dX0_tryWith_42 : decode cX0_tryWith 42 = .ok (.iload 4, 2) := by decide +kernel
theorem dX0_tryWith_44 : decode cX0_tryWith 44 = .ok (.iconst 1, 1) := by decide +kernel
theorem dX0_tryWith_45 : decode cX0_tryWith 45 = .ok (.invokevirtual 52, 3) := by decide +kernel
theorem dX0_tryWith_48 : decode cX0_tryWith 48 = .ok (.aload_n 0, 1) := by decide +kernel
theorem dX0_tryWith_49 : decode cX0_tryWith 49 = .ok (.aload_n 1, 1) := by decide +kernel
theorem dX0_tryWith_50 : decode cX0_tryWith 50 = .ok (.iload_n 2, 1) := by decide +kernel
theorem dX0_tryWith_51 : decode cX0_tryWith 51 = .ok (.iload_n 3, 1) := by decide +kernel
theorem dX0_tryWith_52 : decode cX0_tryWith 52 = .ok (.iconst 1, 1) := by decide +kernel
theorem dX0_tryWith_53 : decode cX0_tryWith 53 = .ok (.iadd, 1) := by decide +kernel
theorem dX0_tryWith_54 : decode cX0_tryWith 54 = .ok (.iload 5, 2) := by decide +kernel
theorem dX0_tryWith_56 : decode cX0_tryWith 56 = .ok (.aload_n 1, 1) := by decide +kernel
theorem dX0_tryWith_57 : decode cX0_tryWith 57 = .ok (.iload_n 3, 1) := by decide +kernel
theorem dX0_tryWith_58 : decode cX0_tryWith 58 = .ok (.iload 4, 2) := by decide +kernel
theorem dX0_tryWith_60 : decode cX0_tryWith 60 = .ok (.invokevirtual 55, 3) := by decide +kernel
theorem dX0_tryWith_63 : decode cX0_tryWith 63 = .ok (.iadd, 1) := by decide +kernel
theorem dX0_tryWith_64 : decode cX0_tryWith 64 = .ok (.invokevirtual 30, 3) := by decide +kernel
theorem dX0_tryWith_67 : decode cX0_tryWith 67 = .ok (.aload_n 0, 1) := by decide +kernel
theorem dX0_tryWith_68 : decode cX0_tryWith 68 = .ok (.aload_n 1, 1) := by decide +kernel
theorem dX0_tryWith_69 : decode cX0_tryWith 69 = .ok (.iload_n 3, 1) := by decide +kernel
theorem dX0_tryWith_70 : decode cX0_tryWith 70 = .ok (.iload 4, 2) := by decide +kernel
theorem dX0_tryWith_72 : decode cX0_tryWith 72 = .ok (.iconst (-1), 1) := by decide +kernel
theorem dX0_tryWith_73 : decode cX0_tryWith 73 = .ok (.invokevirtual 52, 3) := by decide +kernel
theorem dX0_tryWith_76 : decode cX0_tryWith 76 = .ok (.return_, 1) := by decide +kernel
theorem dX0_fits_0 : decode cX0_fits 0 = .ok (.iconst 0, 1) := by decide +kernel
theorem dX0_fits_1 : decode cX0_fits 1 = .ok (.istore 4, 2) := by decide +kernel
theorem dX0_fits_3 : decode cX0_fits 3 = .ok (.iload 4, 2) := by decide +kernel
theorem dX0_fits_5 : decode cX0_fits 5 = .ok (.iconst 3, 1) := by decide +kernel
theorem dX0_fits_6 : decode cX0_fits 6 = .ok (.if_icmp .ge 29, 3) := by decide +kernel
theorem dX0_fits_9 : decode cX0_fits 9 = .ok (.aload_n 1, 1) := by decide +kernel
theorem dX0_fits_10 : decode cX0_fits 10 = .ok (.iload_n 2, 1) := by decide +kernel
theorem dX0_fits_11 : decode cX0_fits 11 = .ok (.iload_n 3, 1) := by decide +kernel
theorem dX0_fits_12 : decode cX0_fits 12 = .ok (.iload 4, 2) := by decide +kernel
theorem dX0_fits_14 : decode cX0_fits 14 = .ok (.invokevirtual 59, 3) := by decide +kernel
theorem dX0_fits_17 : decode cX0_fits 17 = .ok (.aload_n 0, 1) := by decide +kernel
theorem dX0_fits_18 : decode cX0_fits 18 = .ok (.getfield 9, 3) := by decide +kernel
theorem dX0_fits_21 : decode cX0_fits 21 = .ok (.iload 4, 2) := by decide +kernel
theorem dX0_fits_23 : decode cX0_fits 23 = .ok (.iaload, 1) := by decide +kernel
theorem dX0_fits_24 : decode cX0_fits 24 = .ok (.if_icmp .le 5, 3) := by decide +kernel
theorem dX0_fits_27 : decode cX0_fits 27 = .ok (.iconst 0, 1) := by decide +kernel
theorem dX0_fits_28 : decode cX0_fits 28 = .ok (.ireturn, 1) := by decide +kernel
theorem dX0_fits_29 : decode cX0_fits 29 = .ok (.iinc 4 1, 3) := by decide +kernel
theorem dX0_fits_32 : decode cX0_fits 32 = .ok (.goto (-29), 3) := by decide +kernel
theorem dX0_fits_35 : decode cX0_fits 35 = .ok (.iconst 1, 1) := by decide +kernel
theorem dX0_fits_36 : decode cX0_fits 36 = .ok (.ireturn, 1) := by decide +kernel
theorem dX0_take_0 : decode cX0_take 0 = .ok (.iconst 0, 1) := by decide +kernel
theorem dX0_take_1 : decode cX0_take 1 = .ok (.istore 5, 2) := by decide +kernel
theorem dX0_take_3 : decode cX0_take 3 = .ok (.iload 5, 2) := by decide +kernel
theorem dX0_take_5 : decode cX0_take 5 = .ok (.iconst 3, 1) := by decide +kernel
theorem dX0_take_6 : decode cX0_take 6 = .ok (.if_icmp .ge 30, 3) := by decide +kernel
theorem dX0_take_9 : decode cX0_take 9 = .ok (.aload_n 0, 1) := by decide +kernel
theorem dX0_take_10 : decode cX0_take 10 = .ok (.getfield 9, 3) := by decide +kernel
theorem dX0_take_13 : decode cX0_take 13 = .ok (.iload 5, 2) := by decide +kernel
theorem dX0_take_15 : decode cX0_take 15 = .ok (.dup2, 1) := by decide +kernel
theorem dX0_take_16 : decode cX0_take 16 = .ok (.iaload, 1) := by decide +kernel
theorem dX0_take_17 : decode cX0_take 17 = .ok (.iload 4, 2) := by decide +kernel
theorem dX0_take_19 : decode cX0_take 19 = .ok (.aload_n 1, 1) := by decide +kernel
theorem dX0_take_20 : decode cX0_take 20 = .ok (.iload_n 2, 1) := by decide +kernel
theorem dX0_take_21 : decode cX0_take 21 = .ok (.iload_n 3, 1) := by decide +kernel
theorem dX0_take_22 : decode cX0_take 22 = .ok (.iload 5, 2) := by decide +kernel
theorem dX0_take_24 : decode cX0_take 24 = .ok (.invokevirtual 59, 3) := by decide +kernel
theorem dX0_take_27 : decode cX0_take 27 = .ok (.imul, 1) := by decide +kernel
theorem dX0_take_28 : decode cX0_take 28 = .ok (.isub, 1) := by decide +kernel
theorem dX0_take_29 : decode cX0_take 29 = .ok (.iastore, 1) := by decide +kernel
theorem dX0_take_30 : decode cX0_take 30 = .ok (.iinc 5 1, 3) := by decide +kernel
theorem dX0_take_33 : decode cX0_take 33 = .ok (.goto (-30), 3) := by decide +kernel
theorem dX0_take_36 : decode cX0_take 36 = .ok (.return_, 1) := by decide +kernel
theorem dX0_keepIfBetter_0 : decode cX0_keepIfBetter 0 = .ok (.iload_n 1, 1) := by decide +kernel
theorem dX0_keepIfBetter_1 : decode cX0_keepIfBetter 1 = .ok (.aload_n 0, 1) := by decide +kernel
theorem dX0_keepIfBetter_2 : decode cX0_keepIfBetter 2 = .ok (.getfield 26, 3) := by decide +kernel
theorem dX0_keepIfBetter_5 : decode cX0_keepIfBetter 5 = .ok (.if_icmp .le 23, 3) := by decide +kernel
theorem dX0_keepIfBetter_8 : decode cX0_keepIfBetter 8 = .ok (.aload_n 0, 1) := by decide +kernel
theorem dX0_keepIfBetter_9 : decode cX0_keepIfBetter 9 = .ok (.iload_n 1, 1) := by decide +kernel
theorem dX0_keepIfBetter_10 : decode cX0_keepIfBetter 10 = .ok (.putfield 26, 3) := by decide +kernel
theorem dX0_keepIfBetter_13 : decode cX0_keepIfBetter 13 = .ok (.aload_n 0, 1) := by decide +kernel
theorem dX0_keepIfBetter_14 : decode cX0_keepIfBetter 14 = .ok (.getfield 15, 3) := by decide +kernel
theorem dX0_keepIfBetter_17 : decode cX0_keepIfBetter 17 = .ok (.iconst 0, 1) := by decide +kernel
theorem dX0_keepIfBetter_18 : decode cX0_keepIfBetter 18 = .ok (.aload_n 0, 1) := by decide +kernel
theorem dX0_keepIfBetter_19 : decode cX0_keepIfBetter 19 = .ok (.getfield 18, 3) := by decide +kernel
theorem dX0_keepIfBetter_22 : decode cX0_keepIfBetter 22 = .ok (.iconst 0, 1) := by decide +kernel
theorem dX0_keepIfBetter_23 : decode cX0_keepIfBetter 23 = .ok (.bipush 6, 2) := by decide +kernel
theorem dX0_keepIfBetter_25 : decode cX0_keepIfBetter 25 = .ok (.invokestatic 63, 3) := by decide +kernel
theorem dX0_keepIfBetter_28 : decode cX0_keepIfBetter 28 = .ok (.return_, 1) := by decide +kernel
theorem dX1_init_0 : decode cX1_init 0 = .ok (.aload_n 0, 1) := by decide +kernel
theorem dX1_init_1 : decode cX1_init 1 = .ok (.invokespecial 3, 3) := by decide +kernel
theorem dX1_init_4 : decode cX1_init 4 = .ok (.aload_n 0, 1) := by decide +kernel
theorem dX1_init_5 : decode cX1_init 5 = .ok (.iconst 3, 1) := by decide +kernel
theorem dX1_init_6 : decode cX1_init 6 = .ok (.newarray .int, 2) := by decide +kernel
theorem dX1_init_8 : decode cX1_init 8 = .ok (.putfield 9, 3) := by decide +kernel
theorem dX1_init_11 : decode cX1_init 11 = .ok (.aload_n 0, 1) := by decide +kernel
theorem dX1_init_12 : decode cX1_init 12 = .ok (.iconst 3, 1) := by decide +kernel
theorem dX1_init_13 : decode cX1_init 13 = .ok (.newarray .int, 2) := by decide +kernel
theorem dX1_init_15 : decode cX1_init 15 = .ok (.putfield 15, 3) := by decide +kernel
theorem dX1_init_18 : decode cX1_init 18 = .ok (.aload_n 0, 1) := by decide +kernel
theorem dX1_init_19 : decode cX1_init 19 = .ok (.iconst 3, 1) := by decide +kernel
theorem dX1_init_20 : decode cX1_init 20 = .ok (.newarray .int, 2) := by decide +kernel
theorem dX1_init_22 : decode cX1_init 22 = .ok (.putfield 18, 3) := by decide +kernel
theorem dX1_init_25 : decode cX1_init 25 = .ok (.aload_n 0, 1) := by decide +kernel
theorem dX1_init_26 : decode cX1_init 26 = .ok (.bipush 6, 2) := by decide +kernel
theorem dX1_init_28 : decode cX1_init 28 = .ok (.newarray .int, 2) := by decide +kernel
theorem dX1_init_30 : decode cX1_init 30 = .ok (.putfield 21, 3) := by decide +kernel
theorem dX1_init_33 : decode cX1_init 33 = .ok (.aload_n 0, 1) := by decide +kernel
theorem dX1_init_34 : decode cX1_init 34 = .ok (.bipush 6, 2) := by decide +kernel
theorem dX1_init_36 : decode cX1_init 36 = .ok (.newarray .int, 2) := by decide +kernel
theorem dX1_init_38 : decode cX1_init 38 = .ok (.putfield 24, 3) := by decide +kernel
theorem dX1_init_41 : decode cX1_init 41 = .ok (.aload_n 0, 1) := by decide +kernel
theorem dX1_init_42 : decode cX1_init 42 = .ok (.bipush 6, 2) := by decide +kernel
theorem dX1_init_44 : decode cX1_init 44 = .ok (.newarray .int, 2) := by decide +kernel
theorem dX1_init_46 : decode cX1_init 46 = .ok (.putfield 27, 3) := by decide +kernel
theorem dX1_init_49 : decode cX1_init 49 = .ok (.aload_n 0, 1) := by decide +kernel
theorem dX1_init_50 : decode cX1_init 50 = .ok (.bipush 18, 2) := by decide +kernel
theorem dX1_init_52 : decode cX1_init 52 = .ok (.newarray .int, 2) := by decide +kernel
theorem dX1_init_54 : decode cX1_init 54 = .ok (.putfield 30, 3) := by decide +kernel
theorem dX1_init_57 : decode cX1_init 57 = .ok (.aload_n 0, 1) := by decide +kernel
theorem dX1_init_58 : decode cX1_init 58 = .ok (.bipush 18, 2) := by decide +kernel
theorem dX1_init_60 : decode cX1_init 60 = .ok (.newarray .int, 2) := by decide +kernel
theorem dX1_init_62 : decode cX1_init 62 = .ok (.putfield 33, 3) := by decide +kernel
theorem dX1_init_65 : decode cX1_init 65 = .ok (.aload_n 0, 1) := by decide +kernel
theorem dX1_init_66 : decode cX1_init 66 = .ok (.bipush 54, 2) := by decide +kernel
theorem dX1_init_68 : decode cX1_init 68 = .ok (.newarray .int, 2) := by decide +kernel
theorem dX1_init_70 : decode cX1_init 70 = .ok (.putfield 36, 3) := by decide +kernel
theorem dX1_init_73 : decode cX1_init 73 = .ok (.aload_n 0, 1) := by decide +kernel
theorem dX1_init_74 : decode cX1_init 74 = .ok (.bipush 18, 2) := by decide +kernel
theorem dX1_init_76 : decode cX1_init 76 = .ok (.newarray .int, 2) := by decide +kernel
theorem dX1_init_78 : decode cX1_init 78 = .ok (.putfield 39, 3) := by decide +kernel
theorem dX1_init_81 : decode cX1_init 81 = .ok (.aload_n 0, 1) := by decide +kernel
theorem dX1_init_82 : decode cX1_init 82 = .ok (.invokevirtual 42, 3) := by decide +kernel
theorem dX1_init_85 : decode cX1_init 85 = .ok (.return_, 1) := by decide +kernel
theorem dX1_renew_0 : decode cX1_renew 0 = .ok (.iconst 0, 1) := by decide +kernel
theorem dX1_renew_1 : decode cX1_renew 1 = .ok (.istore_n 1, 1) := by decide +kernel
theorem dX1_renew_2 : decode cX1_renew 2 = .ok (.iload_n 1, 1) := by decide +kernel
theorem dX1_renew_3 : decode cX1_renew 3 = .ok (.iconst 3, 1) := by decide +kernel
theorem dX1_renew_4 : decode cX1_renew 4 = .ok (.if_icmp .ge 31, 3) := by decide +kernel
theorem dX1_renew_7 : decode cX1_renew 7 = .ok (.aload_n 0, 1) := by decide +kernel
theorem dX1_renew_8 : decode cX1_renew 8 = .ok (.getfield 9, 3) := by decide +kernel
theorem dX1_renew_11 : decode cX1_renew 11 = .ok (.iload_n 1, 1) := by decide +kernel
theorem dX1_renew_12 : decode cX1_renew 12 = .ok (.iconst 2, 1) := by decide +kernel
theorem dX1_renew_13 : decode cX1_renew 13 = .ok (.iastore, 1) := by decide +kernel
theorem dX1_renew_14 : decode cX1_renew 14 = .ok (.aload_n 0, 1) := by decide +kernel
theorem dX1_renew_15 : decode cX1_renew 15 = .ok (.getfield 15, 3) := by decide +kernel
theorem dX1_renew_18 : decode cX1_renew 18 = .ok (.iload_n 1, 1) := by decide +kernel
theorem dX1_renew_19 : decode cX1_renew 19 = .ok (.iconst 1, 1) := by decide +kernel
theorem dX1_renew_20 : decode cX1_renew 20 = .ok (.iastore, 1) := by decide +kernel
theorem dX1_renew_21 : decode cX1_renew 21 = .ok (.aload_n 0, 1) := by decide +kernel
theorem dX1_renew_22 : decode cX1_renew 22 = .ok (.getfield 18, 3) := by decide +kernel
theorem dX1_renew_25 : decode cX1_renew 25 = .ok (.iload_n 1, 1) := by decide +kernel
theorem dX1_renew_26 : decode cX1_renew 26 = .ok (.bipush 10, 2) := by decide +kernel
theorem dX1_renew_28 : decode cX1_renew 28 = .ok (.iastore, 1) := by decide +kernel
theorem dX1_renew_29 : decode cX1_renew 29 = .ok (.iinc 1 1, 3) := by decide +kernel
theorem dX1_renew_32 : decode cX1_renew 32 = .ok (.goto (-30), 3) := by decide +kernel
theorem dX1_renew_35 : decode cX1_renew 35 = .ok (.aload_n 0, 1) := by decide +kernel
theorem dX1_renew_36 : decode cX1_renew 36 = .ok (.iconst 0, 1) := by decide +kernel
theorem dX1_renew_37 : decode cX1_renew 37 = .ok (.putfield 45, 3) := by decide +kernel
theorem dX1_renew_40 : decode cX1_renew 40 = .ok (.aload_n 0, 1) := by decide +kernel
theorem dX1_renew_41 : decode cX1_renew 41 = .ok (.iconst 0, 1) := by decide +kernel
theorem dX1_renew_42 : decode cX1_renew 42 = .ok (.putfield 49, 3) := by decide +kernel
theorem dX1_renew_45 : decode cX1_renew 45 = .ok (.aload_n 0, 1) := by decide +kernel
theorem dX1_renew_46 : decode cX1_renew 46 = .ok (.iconst 0, 1) := by decide +kernel
theorem dX1_renew_47 : decode cX1_renew 47 = .ok (.putfield 52, 3) := by decide +kernel
theorem dX1_renew_50 : decode cX1_renew 50 = .ok (.aload_n 0, 1) := by decide +kernel
theorem dX1_renew_51 : decode cX1_renew 51 = .ok (.bipush 100, 2) := by decide +kernel
theorem dX1_renew_53 : decode cX1_renew 53 = .ok (.putfield 56, 3) := by decide +kernel
theorem dX1_renew_56 : decode cX1_renew 56 = .ok (.aload_n 0, 1) := by decide +kernel
theorem dX1_renew_57 : decode cX1_renew 57 = .ok (.bipush 10, 2) := by decide +kernel
theorem dX1_renew_59 : decode cX1_renew 59 = .ok (.putfield 59, 3) := by decide +kernel
theorem dX1_renew_62 : decode cX1_renew 62 = .ok (.return_, 1) := by decide +kernel
theorem dX1_become_0 : decode cX1_become 0 = .ok (.aload_n 1, 1) := by decide +kernel
theorem dX1_become_1 : decode cX1_become 1 = .ok (.getfield 9, 3) := by decide +kernel
theorem dX1_become_4 : decode cX1_become 4 = .ok (.iconst 0, 1) := by decide +kernel
theorem dX1_become_5 : decode cX1_become 5 = .ok (.aload_n 0, 1) := by decide +kernel
theorem dX1_become_6 : decode cX1_become 6 = .ok (.getfield 9, 3) := by decide +kernel
theorem dX1_become_9 : decode cX1_become 9 = .ok (.iconst 0, 1) := by decide +kernel
theorem dX1_become_10 : decode cX1_become 10 = .ok (.iconst 3, 1) := by decide +kernel
theorem dX1_become_11 : decode cX1_become 11 = .ok (.invokestatic 62, 3) := by decide +kernel
theorem dX1_become_14 : decode cX1_become 14 = .ok (.aload_n 1, 1) := by decide +kernel
theorem dX1_become_15 : decode cX1_become 15 = .ok (.getfield 15, 3) := by decide +kernel
theorem dX1_become_18 : decode cX1_become 18 = .ok (.iconst 0, 1) := by decide +kernel
theorem dX1_become_19 : decode cX1_become 19 = .ok (.aload_n 0, 1) := by decide +kernel
theorem dX1_become_20 : decode cX1_become 20 = .ok (.getfield 15, 3) := by decide +kernel
theorem dX1_become_23 : decode cX1_become 23 = .ok (.iconst 0, 1) := by decide +kernel
theorem dX1_become_24 : decode cX1_become 24 = .ok (.iconst 3, 1) := by decide +kernel
theorem dX1_become_25 : decode cX1_become 25 = .ok (.invokestatic 62, 3) := by decide +kernel
theorem dX1_become_28 : decode cX1_become 28 = .ok (.aload_n 1, 1) := by decide +kernel
theorem dX1_become_29 : decode cX1_become 29 = .ok (.getfield 18, 3) := by decide +kernel
theorem dX1_become_32 : decode cX1_become 32 = .ok (.iconst 0, 1) := by decide +kernel
theorem dX1_become_33 : decode cX1_become 33 = .ok (.aload_n 0, 1) := by decide +kernel
theorem dX1_become_34 : decode cX1_become 34 = .ok (.getfield 18, 3) := by decide +kernel
theorem dX1_become_37 : decode cX1_become 37 = .ok (.iconst 0, 1) := by decide +kernel
theorem dX1_become_38 : decode cX1_become 38 = .ok (.iconst 3, 1) := by decide +kernel
theorem dX1_become_39 : decode cX1_become 39 = .ok (.invokestatic 62, 3) := by decide +kernel
theorem dX1_become_42 : decode cX1_become 42 = .ok (.aload_n 1, 1) := by decide +kernel
theorem dX1_become_43 : decode cX1_become 43 = .ok (.getfield 21, 3) := by decide +kernel
theorem dX1_become_46 : decode cX1_become 46 = .ok (.iconst 0, 1) := by decide +kernel
theorem dX1_become_47 : decode cX1_become 47 = .ok (.aload_n 0, 1) := by decide +kernel
theorem dX1_become_48 : decode cX1_become 48 = .ok (.getfield 21, 3) := by decide +kernel
theorem dX1_become_51 : decode cX1_become 51 = .ok (.iconst 0, 1) := by decide +kernel
theorem dX1_become_52 : decode cX1_become 52 = .ok (.bipush 6, 2) := by decide +kernel
theorem dX1_become_54 : decode cX1_become 54 = .ok (.invokestatic 62, 3) := by decide +kernel
theorem dX1_become_57 : decode cX1_become 57 = .ok (.aload_n 1, 1) := by decide +kernel
theorem dX1_become_58 : decode cX1_become 58 = .ok (.getfield 24, 3) := by decide +kernel
theorem dX1_become_61 : decode cX1_become 61 = .ok (.iconst 0, 1) := by decide +kernel
theorem dX1_become_62 : decode cX1_become 62 = .ok (.aload_n 0, 1) := by decide +kernel
theorem dX1_become_63 : decode cX1_become 63 = .ok (.getfield 24, 3) := by decide +kernel
theorem dX1_become_66 : decode cX1_become 66 = .ok (.iconst 0, 1) := by decide +kernel
theorem dX1_become_67 : decode cX1_become 67 = .ok (.bipush 6, 2) := by decide +kernel
theorem dX1_become_69 : decode cX1_become 69 = .ok (.invokestatic 62, 3) := by decide +kernel
theorem dX1_become_72 : decode cX1_become 72 = .ok (.aload_n 1, 1) := by decide +kernel
theorem dX1_become_73 : decode cX1_become 73 = .ok (.getfield 27, 3) := by decide +kernel
theorem dX1_become_76 : decode cX1_become 76 = .ok (.iconst 0, 1) := by decide +kernel
theorem dX1_become_77 : decode cX1_become 77 = .ok (.aload_n 0, 1) := by decide +kernel
theorem dX1_become_78 : decode cX1_become 78 = .ok (.getfield 27, 3) := by decide +kernel
theorem dX1_become_81 : decode cX1_become 81 = .ok (.iconst 0, 1) := by decide +kernel
theorem dX1_become_82 : decode cX1_become 82 = .ok (.bipush 6, 2) := by decide +kernel
theorem dX1_become_84 : decode cX1_become 84 = .ok (.invokestatic 62, 3) := by decide +kernel
theorem dX1_become_87 : decode cX1_become 87 = .ok (.aload_n 1, 1) := by decide +kernel
theorem dX1_become_88 : decode cX1_become 88 = .ok (.getfield 30, 3) := by decide +kernel
theorem dX1_become_91 : decode cX1_become 91 = .ok (.iconst 0, 1) := by decide +kernel
theorem dX1_become_92 : decode cX1_become 92 = .ok (.aload_n 0, 1) := by decide +kernel
theorem dX1_become_93 : decode cX1_become 93 = .ok (.getfield 30, 3) := by decide +kernel
theorem dX1_become_96 : decode cX1_become 96 = .ok (.iconst 0, 1) := by decide +kernel
theorem dX1_become_97 : decode cX1_become 97 = .ok (.bipush 18, 2) := by decide +kernel
theorem dX1_become_99 : decode cX1_become 99 = .ok (.invokestatic 62, 3) := by decide +kernel
theorem dX1_become_102 : decode cX1_become 102 = .ok (.aload_n 1, 1) := by decide +kernel
theorem dX1_become_103 : decode cX1_become 103 = .ok (.getfield 33, 3) := by decide +kernel
theorem dX1_become_106 : decode cX1_become 106 = .ok (.iconst 0, 1) := by decide +kernel
theorem dX1_become_107 : decode cX1_become 107 = .ok (.aload_n 0, 1) := by decide +kernel
theorem dX1_become_108 : decode cX1_become 108 = .ok (.getfield 33, 3) := by decide +kernel
theorem dX1_become_111 : decode cX1_become 111 = .ok (.iconst 0, 1) := by decide +kernel
theorem dX1_become_112 : decode cX1_become 112 = .ok (.bipush 18, 2) := by decide +kernel
theorem dX1_become_114 : decode cX1_become 114 = .ok (.invokestatic 62, 3) := by decide +kernel
theorem dX1_become_117 : decode cX1_become 117 = .ok (.aload_n 1, 1) := by decide +kernel
theorem dX1_become_118 : decode cX1_become 118 = .ok (.getfield 36, 3) := by decide +kernel
theorem dX1_become_121 : decode cX1_become 121 = .ok (.iconst 0, 1) := by decide +kernel
theorem dX1_become_122 : decode cX1_become 122 = .ok (.aload_n 0, 1) := by decide +kernel
theorem dX1_become_123 : decode cX1_become 123 = .ok (.getfield 36, 3) := by decide +kernel
theorem dX1_become_126 : decode cX1_become 126 = .ok (.iconst 0, 1) := by decide +kernel
theorem dX1_become_127 : decode cX1_become 127 = .ok (.bipush 54, 2) := by decide +kernel
theorem dX1_become_129 : decode cX1_become 129 = .ok (.invokestatic 62, 3) := by decide +kernel
theorem dX1_become_132 : decode cX1_become 132 = .ok (.aload_n 1, 1) := by decide +kernel
theorem dX1_become_133 : decode cX1_become 133 = .ok (.getfield 39, 3) := by decide +kernel
theorem dX1_become_136 : decode cX1_become 136 = .ok (.iconst 0, 1) := by decide +kernel
theorem dX1_become_137 : decode cX1_become 137 = .ok (.aload_n 0, 1) := by decide +kernel
theorem dX1_become_138 : decode cX1_become 138 = .ok (.getfield 39, 3) := by decide +kernel
theorem dX1_become_141 : decode cX1_become 141 = .ok (.iconst 0, 1) := by decide +kernel
theorem dX1_become_142 : decode cX1_become 142 = .ok (.bipush 18, 2) := by decide +kernel
theorem dX1_become_144 : decode cX1_become 144 = .ok (.invokestatic 62, 3) := by decide +kernel
theorem dX1_become_147 : decode cX1_become 147 = .ok (.aload_n 0, 1) := by decide +kernel
theorem dX1_become_148 : decode cX1_become 148 = .ok (.aload_n 1, 1) := by decide +kernel
theorem dX1_become_149 : decode cX1_become 149 = .ok (.getfield 45, 3) := by decide +kernel
theorem dX1_become_152 : decode cX1_become 152 = .ok (.putfield 45, 3) := by decide +kernel
theorem dX1_become_155 : decode cX1_become 155 = .ok (.aload_n 0, 1) := by decide +kernel
theorem dX1_become_156 : decode cX1_become 156 = .ok (.aload_n 1, 1) := by decide +kernel
theorem dX1_become_157 : decode cX1_become 157 = .ok (.getfield 49, 3) := by decide +kernel
theorem dX1_become_160 : decode cX1_become 160 = .ok (.putfield 49, 3) := by decide +kernel
theorem dX1_become_163 : decode cX1_become 163 = .ok (.aload_n 0, 1) := by decide +kernel
theorem dX1_become_164 : decode cX1_become 164 = .ok (.aload_n 1, 1) := by decide +kernel
theorem dX1_become_165 : decode cX1_become 165 = .ok (.getfield 52, 3) := by decide +kernel
theorem dX1_become_168 : decode cX1_become 168 = .ok (.putfield 52, 3) := by decide +kernel
theorem dX1_become_171 : decode cX1_become 171 = .ok (.aload_n 0, 1) := by decide +kernel
theorem dX1_become_172 : decode cX1_become 172 = .ok (.aload_n 1, 1) := by decide +kernel
theorem dX1_become_173 : decode cX1_become 173 = .ok (.getfield 56, 3) := by decide +kernel
theorem dX1_become_176 : decode cX1_become 176 = .ok (.putfield 56, 3) := by decide +kernel
theorem dX1_become_179 : decode cX1_become 179 = .ok (.aload_n 0, 1) := by decide +kernel
theorem dX1_become_180 : decode cX1_become 180 = .ok (.aload_n 1, 1) := by decide +kernel
theorem dX1_become_181 : decode cX1_become 181 = .ok (.getfield 59, 3) := by decide +kernel
theorem dX1_become_184 : decode cX1_become 184 = .ok (.putfield 59, 3) := by decide +kernel
theorem dX1_become_187 : decode cX1_become 187 = .ok (.return_, 1) := by decide +kernel
theorem dX1_noBidder_0 : decode cX1_noBidder 0 = .ok (.iload_n 1, 1) := by decide +kernel
theorem dX1_noBidder_1 : decode cX1_noBidder 1 = .ok (.iconst 0, 1) := by decide +kernel
theorem dX1_noBidder_2 : decode cX1_noBidder 2 = .ok (.aload_n 0, 1) := by decide +kernel
theorem dX1_noBidder_3 : decode cX1_noBidder 3 = .ok (.getfield 45, 3) := by decide +kernel
theorem dX1_noBidder_6 : decode cX1_noBidder 6 = .ok (.iconst 1, 1) := by decide +kernel
theorem dX1_noBidder_7 : decode cX1_noBidder 7 = .ok (.isub, 1) := by decide +kernel
theorem dX1_noBidder_8 : decode cX1_noBidder 8 = .ok (.invokestatic 68, 3) := by decide +kernel
theorem dX1_noBidder_11 : decode cX1_noBidder 11 = .ok (.ireturn, 1) := by decide +kernel
theorem dX1_settingOf_0 : decode cX1_settingOf 0 = .ok (.iload_n 1, 1) := by decide +kernel
theorem dX1_settingOf_1 : decode cX1_settingOf 1 = .ok (.ifCond .ne 10, 3) := by decide +kernel
theorem dX1_settingOf_4 : decode cX1_settingOf 4 = .ok (.aload_n 0, 1) := by decide +kernel
theorem dX1_settingOf_5 : decode cX1_settingOf 5 = .ok (.getfield 56, 3) := by decide +kernel
theorem dX1_settingOf_8 : decode cX1_settingOf 8 = .ok (.goto 7, 3) := by decide +kernel
theorem dX1_settingOf_11 : decode cX1_settingOf 11 = .ok (.aload_n 0, 1) := by decide +kernel
theorem dX1_settingOf_12 : decode cX1_settingOf 12 = .ok (.getfield 59, 3) := by decide +kernel
theorem dX1_settingOf_15 : decode cX1_settingOf 15 = .ok (.ireturn, 1) := by decide +kernel
theorem dX1_askedOf_0 : decode cX1_askedOf 0 = .ok (.iconst 0, 1) := by decide +kernel
theorem dX1_askedOf_1 : decode cX1_askedOf 1 = .ok (.istore_n 2, 1) := by decide +kernel
theorem dX1_askedOf_2 : decode cX1_askedOf 2 = .ok (.iconst 0, 1) := by decide +kernel
theorem dX1_askedOf_3 : decode cX1_askedOf 3 = .ok (.istore_n 3, 1) := by decide +kernel
theorem dX1_askedOf_4 : decode cX1_askedOf 4 = .ok (.iload_n 3, 1) := by decide +kernel
theorem dX1_askedOf_5 : decode cX1_askedOf 5 = .ok (.aload_n 0, 1) := by decide +kernel
theorem dX1_askedOf_6 : decode cX1_askedOf 6 = .ok (.getfield 45, 3) := by decide +kernel
theorem dX1_askedOf_9 : decode cX1_askedOf 9 = .ok (.if_icmp .ge 22, 3) := by decide +kernel
theorem dX1_askedOf_12 : decode cX1_askedOf 12 = .ok (.iload_n 2, 1) := by decide +kernel
theorem dX1_askedOf_13 : decode cX1_askedOf 13 = .ok (.aload_n 0, 1) := by decide +kernel
theorem dX1_askedOf_14 : decode cX1_askedOf 14 = .ok (.getfield 33, 3) := by decide +kernel
theorem dX1_askedOf_17 : decode cX1_askedOf 17 = .ok (.iload_n 3, 1) := by decide +kernel
theorem dX1_askedOf_18 : decode cX1_askedOf 18 = .ok (.iload_n 1, 1) := by decide +kernel
theorem dX1_askedOf_19 : decode cX1_askedOf 19 = .ok (.invokestatic 72, 3) := by decide +kernel
theorem dX1_askedOf_22 : decode cX1_askedOf 22 = .ok (.iaload, 1) := by decide +kernel
theorem dX1_askedOf_23 : decode cX1_askedOf 23 = .ok (.iadd, 1) := by decide +kernel
theorem dX1_askedOf_24 : decode cX1_askedOf 24 = .ok (.istore_n 2, 1) := by decide +kernel
theorem dX1_askedOf_25 : decode cX1_askedOf 25 = .ok (.iinc 3 1, 3) := by decide +kernel
theorem dX1_askedOf_28 : decode cX1_askedOf 28 = .ok (.goto (-24), 3) := by decide +kernel
theorem dX1_askedOf_31 : decode cX1_askedOf 31 = .ok (.iload_n 2, 1) := by decide +kernel
theorem dX1_askedOf_32 : decode cX1_askedOf 32 = .ok (.ireturn, 1) := by decide +kernel
theorem dX1_scarceKinds_0 : decode cX1_scarceKinds 0 = .ok (.iconst 0, 1) := by decide +kernel
theorem dX1_scarceKinds_1 : decode cX1_scarceKinds 1 = .ok (.istore_n 1, 1) := by decide +kernel
theorem dX1_scarceKinds_2 : decode cX1_scarceKinds 2 = .ok (.iconst 0, 1) := by decide +kernel
theorem dX1_scarceKinds_3 : decode cX1_scarceKinds 3 = .ok (.istore_n 2, 1) := by decide +kernel
theorem dX1_scarceKinds_4 : decode cX1_scarceKinds 4 = .ok (.iload_n 2, 1) := by decide +kernel
theorem dX1_scarceKinds_5 : decode cX1_scarceKinds 5 = .ok (.iconst 3, 1) := by decide +kernel
theorem dX1_scarceKinds_6 : decode cX1_scarceKinds 6 = .ok (.if_icmp .ge 26, 3) := by decide +kernel
theorem dX1_scarceKinds_9 : decode cX1_scarceKinds 9 = .ok (.aload_n 0, 1) := by decide +kernel
theorem dX1_scarceKinds_10 : decode cX1_scarceKinds 10 = .ok (.iload_n 2, 1) := by decide +kernel
theorem dX1_scarceKinds_11 : decode cX1_scarceKinds 11 = .ok (.invokevirtual 76, 3) := by decide +kernel
theorem dX1_scarceKinds_14 : decode cX1_scarceKinds 14 = .ok (.aload_n 0, 1) := by decide +kernel
theorem dX1_scarceKinds_15 : decode cX1_scarceKinds 15 = .ok (.getfield 9, 3) := by decide +kernel
theorem dX1_scarceKinds_18 : decode cX1_scarceKinds 18 = .ok (.iload_n 2, 1) := by decide +kernel
theorem dX1_scarceKinds_19 : decode cX1_scarceKinds 19 = .ok (.iaload, 1) := by decide +kernel
theorem dX1_scarceKinds_20 : decode cX1_scarceKinds 20 = .ok (.if_icmp .le 6, 3) := by decide +kernel
theorem dX1_scarceKinds_23 : decode cX1_scarceKinds 23 = .ok (.iinc 1 1, 3) := by decide +kernel
theorem dX1_scarceKinds_26 : decode cX1_scarceKinds 26 = .ok (.iinc 2 1, 3) := by decide +kernel
theorem dX1_scarceKinds_29 : decode cX1_scarceKinds 29 = .ok (.goto (-25), 3) := by decide +kernel
theorem dX1_scarceKinds_32 : decode cX1_scarceKinds 32 = .ok (.iload_n 1, 1) := by decide +kernel
theorem dX1_scarceKinds_33 : decode cX1_scarceKinds 33 = .ok (.ireturn, 1) := by decide +kernel
theorem dX1_allDemands_0 : decode cX1_allDemands 0 = .ok (.iconst 0, 1) := by decide +kernel
theorem dX1_allDemands_1 : decode cX1_allDemands 1 = .ok (.istore_n 1, 1) := by decide +kernel
theorem dX1_allDemands_2 : decode cX1_allDemands 2 = .ok (.iconst 0, 1) := by decide +kernel
theorem dX1_allDemands_3 : decode cX1_allDemands 3 = .ok (.istore_n 2, 1) := by decide +kernel
theorem dX1_allDemands_4 : decode cX1_allDemands 4 = .ok (.iload_n 2, 1) := by decide +kernel
theorem dX1_allDemands_5 : decode cX1_allDemands 5 = .ok (.iconst 3, 1) := by decide +kernel
theorem dX1_allDemands_6 : decode cX1_allDemands 6 = .ok (.if_icmp .ge 17, 3) := by decide +kernel
theorem dX1_allDemands_9 : decode cX1_allDemands 9 = .ok (.iload_n 1, 1) := by decide +kernel
theorem dX1_allDemands_10 : decode cX1_allDemands 10 = .ok (.aload_n 0, 1) := by decide +kernel
theorem dX1_allDemands_11 : decode cX1_allDemands 11 = .ok (.iload_n 2, 1) := by decide +kernel
theorem dX1_allDemands_12 : decode cX1_allDemands 12 = .ok (.invokevirtual 76, 3) := by decide +kernel
theorem dX1_allDemands_15 : decode cX1_allDemands 15 = .ok (.iadd, 1) := by decide +kernel
theorem dX1_allDemands_16 : decode cX1_allDemands 16 = .ok (.istore_n 1, 1) := by decide +kernel
theorem dX1_allDemands_17 : decode cX1_allDemands 17 = .ok (.iinc 2 1, 3) := by decide +kernel
theorem dX1_allDemands_20 : decode cX1_allDemands 20 = .ok (.goto (-16), 3) := by decide +kernel
theorem dX1_allDemands_23 : decode cX1_allDemands 23 = .ok (.iload_n 1, 1) := by decide +kernel
theorem dX1_allDemands_24 : decode cX1_allDemands 24 = .ok (.ireturn, 1) := by decide +kernel
theorem dX1_allCosts_0 : decode cX1_allCosts 0 = .ok (.iconst 0, 1) := by decide +kernel
theorem dX1_allCosts_1 : decode cX1_allCosts 1 = .ok (.istore_n 1, 1) := by decide +kernel
theorem dX1_allCosts_2 : decode cX1_allCosts 2 = .ok (.iconst 0, 1) := by decide +kernel
theorem dX1_allCosts_3 : decode cX1_allCosts 3 = .ok (.istore_n 2, 1) := by decide +kernel
theorem dX1_allCosts_4 : decode cX1_allCosts 4 = .ok (.iload_n 2, 1) := by decide +kernel
theorem dX1_allCosts_5 : decode cX1_allCosts 5 = .ok (.iconst 3, 1) := by decide +kernel
theorem dX1_allCosts_6 : decode cX1_allCosts 6 = .ok (.if_icmp .ge 24, 3) := by decide +kernel
theorem dX1_allCosts_9 : decode cX1_allCosts 9 = .ok (.iload_n 1, 1) := by decide +kernel
theorem dX1_allCosts_10 : decode cX1_allCosts 10 = .ok (.aload_n 0, 1) := by decide +kernel
theorem dX1_allCosts_11 : decode cX1_allCosts 11 = .ok (.iload_n 2, 1) := by decide +kernel
theorem dX1_allCosts_12 : decode cX1_allCosts 12 = .ok (.invokevirtual 76, 3) := by decide +kernel
theorem dX1_allCosts_15 : decode cX1_allCosts 15 = .ok (.aload_n 0, 1) := by decide +kernel
theorem dX1_allCosts_16 : decode cX1_allCosts 16 = .ok (.getfield 18, 3) := by decide +kernel
theorem dX1_allCosts_19 : decode cX1_allCosts 19 = .ok (.iload_n 2, 1) := by decide +kernel
theorem dX1_allCosts_20 : decode cX1_allCosts 20 = .ok (.iaload, 1) := by decide +kernel
theorem dX1_allCosts_21 : decode cX1_allCosts 21 = .ok (.imul, 1) := by decide +kernel
theorem dX1_allCosts_22 : decode cX1_allCosts 22 = .ok (.iadd, 1) := by decide +kernel
theorem dX1_allCosts_23 : decode cX1_allCosts 23 = .ok (.istore_n 1, 1) := by decide +kernel
theorem dX1_allCosts_24 : decode cX1_allCosts 24 = .ok (.iinc 2 1, 3) := by decide +kernel
theorem dX1_allCosts_27 : decode cX1_allCosts 27 = .ok (.goto (-23), 3) := by decide +kernel
theorem dX1_allCosts_30 : decode cX1_allCosts 30 = .ok (.iload_n 1, 1) := by decide +kernel
theorem dX1_allCosts_31 : decode cX1_allCosts 31 = .ok (.ireturn, 1) := by decide +kernel
theorem dX1_allPacks_0 : decode cX1_allPacks 0 = .ok (.iconst 0, 1) := by decide +kernel
theorem dX1_allPacks_1 : decode cX1_allPacks 1 = .ok (.istore_n 1, 1) := by decide +kernel
theorem dX1_allPacks_2 : decode cX1_allPacks 2 = .ok (.iconst 0, 1) := by decide +kernel
theorem dX1_allPacks_3 : decode cX1_allPacks 3 = .ok (.istore_n 2, 1) := by decide +kernel
theorem dX1_allPacks_4 : decode cX1_allPacks 4 = .ok (.iload_n 2, 1) := by decide +kernel
theorem dX1_allPacks_5 : decode cX1_allPacks 5 = .ok (.aload_n 0, 1) := by decide +kernel
theorem dX1_allPacks_6 : decode cX1_allPacks 6 = .ok (.getfield 45, 3) := by decide +kernel
theorem dX1_allPacks_9 : decode cX1_allPacks 9 = .ok (.if_icmp .ge 18, 3) := by decide +kernel
theorem dX1_allPacks_12 : decode cX1_allPacks 12 = .ok (.iload_n 1, 1) := by decide +kernel
theorem dX1_allPacks_13 : decode cX1_allPacks 13 = .ok (.aload_n 0, 1) := by decide +kernel
theorem dX1_allPacks_14 : decode cX1_allPacks 14 = .ok (.getfield 27, 3) := by decide +kernel
theorem dX1_allPacks_17 : decode cX1_allPacks 17 = .ok (.iload_n 2, 1) := by decide +kernel
theorem dX1_allPacks_18 : decode cX1_allPacks 18 = .ok (.iaload, 1) := by decide +kernel
theorem dX1_allPacks_19 : decode cX1_allPacks 19 = .ok (.iadd, 1) := by decide +kernel
theorem dX1_allPacks_20 : decode cX1_allPacks 20 = .ok (.istore_n 1, 1) := by decide +kernel
theorem dX1_allPacks_21 : decode cX1_allPacks 21 = .ok (.iinc 2 1, 3) := by decide +kernel
theorem dX1_allPacks_24 : decode cX1_allPacks 24 = .ok (.goto (-20), 3) := by decide +kernel
theorem dX1_allPacks_27 : decode cX1_allPacks 27 = .ok (.iload_n 1, 1) := by decide +kernel
theorem dX1_allPacks_28 : decode cX1_allPacks 28 = .ok (.ireturn, 1) := by decide +kernel
theorem dX1_activity_0 : decode cX1_activity 0 = .ok (.iconst 0, 1) := by decide +kernel
theorem dX1_activity_1 : decode cX1_activity 1 = .ok (.istore_n 2, 1) := by decide +kernel
theorem dX1_activity_2 : decode cX1_activity 2 = .ok (.iconst 0, 1) := by decide +kernel
theorem dX1_activity_3 : decode cX1_activity 3 = .ok (.istore_n 3, 1) := by decide +kernel
theorem dX1_activity_4 : decode cX1_activity 4 = .ok (.iload_n 3, 1) := by decide +kernel
theorem dX1_activity_5 : decode cX1_activity 5 = .ok (.iconst 3, 1) := by decide +kernel
theorem dX1_activity_6 : decode cX1_activity 6 = .ok (.if_icmp .ge 29, 3) := by decide +kernel
theorem dX1_activity_9 : decode cX1_activity 9 = .ok (.iload_n 2, 1) := by decide +kernel
theorem dX1_activity_10 : decode cX1_activity 10 = .ok (.aload_n 0, 1) := by decide +kernel
theorem dX1_activity_11 : decode cX1_activity 11 = .ok (.getfield 15, 3) := by decide +kernel
theorem dX1_activity_14 : decode cX1_activity 14 = .ok (.iload_n 3, 1) := by decide +kernel
theorem dX1_activity_15 : decode cX1_activity 15 = .ok (.iaload, 1) := by decide +kernel
theorem dX1_activity_16 : decode cX1_activity 16 = .ok (.aload_n 0, 1) := by decide +kernel
theorem dX1_activity_17 : decode cX1_activity 17 = .ok (.getfield 33, 3) := by decide +kernel
theorem dX1_activity_20 : decode cX1_activity 20 = .ok (.iload_n 1, 1) := by decide +kernel
theorem dX1_activity_21 : decode cX1_activity 21 = .ok (.iload_n 3, 1) := by decide +kernel
theorem dX1_activity_22 : decode cX1_activity 22 = .ok (.invokestatic 72, 3) := by decide +kernel
theorem dX1_activity_25 : decode cX1_activity 25 = .ok (.iaload, 1) := by decide +kernel
theorem dX1_activity_26 : decode cX1_activity 26 = .ok (.imul, 1) := by decide +kernel
theorem dX1_activity_27 : decode cX1_activity 27 = .ok (.iadd, 1) := by decide +kernel
theorem dX1_activity_28 : decode cX1_activity 28 = .ok (.istore_n 2, 1) := by decide +kernel
theorem dX1_activity_29 : decode cX1_activity 29 = .ok (.iinc 3 1, 3) := by decide +kernel
theorem dX1_activity_32 : decode cX1_activity 32 = .ok (.goto (-28), 3) := by decide +kernel
theorem dX1_activity_35 : decode cX1_activity 35 = .ok (.iload_n 2, 1) := by decide +kernel
theorem dX1_activity_36 : decode cX1_activity 36 = .ok (.ireturn, 1) := by decide +kernel
theorem dX1_profit_0 : decode cX1_profit 0 = .ok (.iconst 0, 1) := by decide +kernel
theorem dX1_profit_1 : decode cX1_profit 1 = .ok (.istore_n 2, 1) := by decide +kernel
theorem dX1_profit_2 : decode cX1_profit 2 = .ok (.iconst 0, 1) := by decide +kernel
theorem dX1_profit_3 : decode cX1_profit 3 = .ok (.istore_n 3, 1) := by decide +kernel
theorem dX1_profit_4 : decode cX1_profit 4 = .ok (.iload_n 3, 1) := by decide +kernel
theorem dX1_profit_5 : decode cX1_profit 5 = .ok (.iconst 3, 1) := by decide +kernel
theorem dX1_profit_6 : decode cX1_profit 6 = .ok (.if_icmp .ge 29, 3) := by decide +kernel
theorem dX1_profit_9 : decode cX1_profit 9 = .ok (.iload_n 2, 1) := by decide +kernel
theorem dX1_profit_10 : decode cX1_profit 10 = .ok (.aload_n 0, 1) := by decide +kernel
theorem dX1_profit_11 : decode cX1_profit 11 = .ok (.getfield 33, 3) := by decide +kernel
theorem dX1_profit_14 : decode cX1_profit 14 = .ok (.iload_n 1, 1) := by decide +kernel
theorem dX1_profit_15 : decode cX1_profit 15 = .ok (.iload_n 3, 1) := by decide +kernel
theorem dX1_profit_16 : decode cX1_profit 16 = .ok (.invokestatic 72, 3) := by decide +kernel
theorem dX1_profit_19 : decode cX1_profit 19 = .ok (.iaload, 1) := by decide +kernel
theorem dX1_profit_20 : decode cX1_profit 20 = .ok (.aload_n 0, 1) := by decide +kernel
theorem dX1_profit_21 : decode cX1_profit 21 = .ok (.iload_n 1, 1) := by decide +kernel
theorem dX1_profit_22 : decode cX1_profit 22 = .ok (.iload_n 3, 1) := by decide +kernel
theorem dX1_profit_23 : decode cX1_profit 23 = .ok (.invokevirtual 80, 3) := by decide +kernel
theorem dX1_profit_26 : decode cX1_profit 26 = .ok (.imul, 1) := by decide +kernel
theorem dX1_profit_27 : decode cX1_profit 27 = .ok (.iadd, 1) := by decide +kernel
theorem dX1_profit_28 : decode cX1_profit 28 = .ok (.istore_n 2, 1) := by decide +kernel
theorem dX1_profit_29 : decode cX1_profit 29 = .ok (.iinc 3 1, 3) := by decide +kernel
theorem dX1_profit_32 : decode cX1_profit 32 = .ok (.goto (-28), 3) := by decide +kernel
theorem dX1_profit_35 : decode cX1_profit 35 = .ok (.iload_n 2, 1) := by decide +kernel
theorem dX1_profit_36 : decode cX1_profit 36 = .ok (.ireturn, 1) := by decide +kernel
theorem dX1_margin_0 : decode cX1_margin 0 = .ok (.aload_n 0, 1) := by decide +kernel
theorem dX1_margin_1 : decode cX1_margin 1 = .ok (.getfield 30, 3) := by decide +kernel
theorem dX1_margin_4 : decode cX1_margin 4 = .ok (.iload_n 1, 1) := by decide +kernel
theorem dX1_margin_5 : decode cX1_margin 5 = .ok (.iload_n 2, 1) := by decide +kernel
theorem dX1_margin_6 : decode cX1_margin 6 = .ok (.invokestatic 72, 3) := by decide +kernel
theorem dX1_margin_9 : decode cX1_margin 9 = .ok (.iaload, 1) := by decide +kernel
theorem dX1_margin_10 : decode cX1_margin 10 = .ok (.aload_n 0, 1) := by decide +kernel
theorem dX1_margin_11 : decode cX1_margin 11 = .ok (.getfield 18, 3) := by decide +kernel
theorem dX1_margin_14 : decode cX1_margin 14 = .ok (.iload_n 2, 1) := by decide +kernel
theorem dX1_margin_15 : decode cX1_margin 15 = .ok (.iaload, 1) := by decide +kernel
theorem dX1_margin_16 : decode cX1_margin 16 = .ok (.isub, 1) := by decide +kernel
theorem dX1_margin_17 : decode cX1_margin 17 = .ok (.ireturn, 1) := by decide +kernel
theorem dX1_mostLots_0 : decode cX1_mostLots 0 = .ok (.aload_n 0, 1) := by decide +kernel
theorem dX1_mostLots_1 : decode cX1_mostLots 1 = .ok (.getfield 24, 3) := by decide +kernel
theorem dX1_mostLots_4 : decode cX1_mostLots 4 = .ok (.iload_n 1, 1) := by decide +kernel
theorem dX1_mostLots_5 : decode cX1_mostLots 5 = .ok (.iaload, 1) := by decide +kernel
theorem dX1_mostLots_6 : decode cX1_mostLots 6 = .ok (.aload_n 0, 1) := by decide +kernel
theorem dX1_mostLots_7 : decode cX1_mostLots 7 = .ok (.getfield 9, 3) := by decide +kernel
theorem dX1_mostLots_10 : decode cX1_mostLots 10 = .ok (.iload_n 2, 1) := by decide +kernel
theorem dX1_mostLots_11 : decode cX1_mostLots 11 = .ok (.iaload, 1) := by decide +kernel
theorem dX1_mostLots_12 : decode cX1_mostLots 12 = .ok (.invokestatic 83, 3) := by decide +kernel
theorem dX1_mostLots_15 : decode cX1_mostLots 15 = .ok (.ireturn, 1) := by decide +kernel
theorem dX1_packLots_0 : decode cX1_packLots 0 = .ok (.iload_n 2, 1) := by decide +kernel
theorem dX1_packLots_1 : decode cX1_packLots 1 = .ok (.ifCond .ne 16, 3) := by decide +kernel
theorem dX1_packLots_4 : decode cX1_packLots 4 = .ok (.aload_n 0, 1) := by decide +kernel
theorem dX1_packLots_5 : decode cX1_packLots 5 = .ok (.getfield 33, 3) := by decide +kernel
theorem dX1_packLots_8 : decode cX1_packLots 8 = .ok (.iload_n 1, 1) := by decide +kernel
theorem dX1_packLots_9 : decode cX1_packLots 9 = .ok (.iload_n 3, 1) := by decide +kernel
theorem dX1_packLots_10 : decode cX1_packLots 10 = .ok (.invokestatic 72, 3) := by decide +kernel
theorem dX1_packLots_13 : decode cX1_packLots 13 = .ok (.iaload, 1) := by decide +kernel
theorem dX1_packLots_14 : decode cX1_packLots 14 = .ok (.goto 17, 3) := by decide +kernel
theorem dX1_packLots_17 : decode cX1_packLots 17 = .ok (.aload_n 0, 1) := by decide +kernel
theorem dX1_packLots_18 : decode cX1_packLots 18 = .ok (.getfield 36, 3) := by decide +kernel
theorem dX1_packLots_21 : decode cX1_packLots 21 = .ok (.iload_n 1, 1) := by decide +kernel
theorem dX1_packLots_22 : decode cX1_packLots 22 = .ok (.iload_n 2, 1) := by decide +kernel
theorem dX1_packLots_23 : decode cX1_packLots 23 = .ok (.invokestatic 88, 3) := by decide +kernel
theorem dX1_packLots_26 : decode cX1_packLots 26 = .ok (.iload_n 3, 1) := by decide +kernel
theorem dX1_packLots_27 : decode cX1_packLots 27 = .ok (.invokestatic 72, 3) := by decide +kernel
theorem dX1_packLots_30 : decode cX1_packLots 30 = .ok (.iaload, 1) := by decide +kernel
theorem dX1_packLots_31 : decode cX1_packLots 31 = .ok (.ireturn, 1) := by decide +kernel
theorem dX1_packValue_0 : decode cX1_packValue 0 = .ok (.iload_n 2, 1) := by decide +kernel
theorem dX1_packValue_1 : decode cX1_packValue 1 = .ok (.ifCond .le 14, 3) := by decide +kernel
theorem dX1_packValue_4 : decode cX1_packValue 4 = .ok (.aload_n 0, 1) := by decide +kernel
theorem dX1_packValue_5 : decode cX1_packValue 5 = .ok (.getfield 39, 3) := by decide +kernel
theorem dX1_packValue_8 : decode cX1_packValue 8 = .ok (.iload_n 1, 1) := by decide +kernel
theorem dX1_packValue_9 : decode cX1_packValue 9 = .ok (.iload_n 2, 1) := by decide +kernel
theorem dX1_packValue_10 : decode cX1_packValue 10 = .ok (.invokestatic 88, 3) := by decide +kernel
theorem dX1_packValue_13 : decode cX1_packValue 13 = .ok (.iaload, 1) := by decide +kernel
theorem dX1_packValue_14 : decode cX1_packValue 14 = .ok (.ireturn, 1) := by decide +kernel
theorem dX1_packValue_15 : decode cX1_packValue 15 = .ok (.aload_n 0, 1) := by decide +kernel
theorem dX1_packValue_16 : decode cX1_packValue 16 = .ok (.aload_n 0, 1) := by decide +kernel
theorem dX1_packValue_17 : decode cX1_packValue 17 = .ok (.getfield 33, 3) := by decide +kernel
theorem dX1_packValue_20 : decode cX1_packValue 20 = .ok (.iload_n 1, 1) := by decide +kernel
theorem dX1_packValue_21 : decode cX1_packValue 21 = .ok (.iconst 0, 1) := by decide +kernel
theorem dX1_packValue_22 : decode cX1_packValue 22 = .ok (.invokestatic 72, 3) := by decide +kernel
theorem dX1_packValue_25 : decode cX1_packValue 25 = .ok (.iaload, 1) := by decide +kernel
theorem dX1_packValue_26 : decode cX1_packValue 26 = .ok (.aload_n 0, 1) := by decide +kernel
theorem dX1_packValue_27 : decode cX1_packValue 27 = .ok (.getfield 33, 3) := by decide +kernel
theorem dX1_packValue_30 : decode cX1_packValue 30 = .ok (.iload_n 1, 1) := by decide +kernel
theorem dX1_packValue_31 : decode cX1_packValue 31 = .ok (.iconst 1, 1) := by decide +kernel
theorem dX1_packValue_32 : decode cX1_packValue 32 = .ok (.invokestatic 72, 3) := by decide +kernel
theorem dX1_packValue_35 : decode cX1_packValue 35 = .ok (.iaload, 1) := by decide +kernel
theorem dX1_packValue_36 : decode cX1_packValue 36 = .ok (.aload_n 0, 1) := by decide +kernel
theorem dX1_packValue_37 : decode cX1_packValue 37 = .ok (.getfield 33, 3) := by decide +kernel
theorem dX1_packValue_40 : decode cX1_packValue 40 = .ok (.iload_n 1, 1) := by decide +kernel
theorem dX1_packValue_41 : decode cX1_packValue 41 = .ok (.iconst 2, 1) := by decide +kernel
theorem dX1_packValue_42 : decode cX1_packValue 42 = .ok (.invokestatic 72, 3) := by decide +kernel
theorem dX1_packValue_45 : decode cX1_packValue 45 = .ok (.iaload, 1) := by decide +kernel
theorem dX1_packValue_46 : decode cX1_packValue 46 = .ok (.invokevirtual 91, 3) := by decide +kernel
theorem dX1_packValue_49 : decode cX1_packValue 49 = .ok (.ireturn, 1) := by decide +kernel
theorem dX1_costOf_0 : decode cX1_costOf 0 = .ok (.iload_n 1, 1) := by decide +kernel
theorem dX1_costOf_1 : decode cX1_costOf 1 = .ok (.aload_n 0, 1) := by decide +kernel
theorem dX1_costOf_2 : decode cX1_costOf 2 = .ok (.getfield 18, 3) := by decide +kernel
theorem dX1_costOf_5 : decode cX1_costOf 5 = .ok (.iconst 0, 1) := by decide +kernel
theorem dX1_costOf_6 : decode cX1_costOf 6 = .ok (.iaload, 1) := by decide +kernel
theorem dX1_costOf_7 : decode cX1_costOf 7 = .ok (.imul, 1) := by decide +kernel
theorem dX1_costOf_8 : decode cX1_costOf 8 = .ok (.iload_n 2, 1) := by decide +kernel
theorem dX1_costOf_9 : decode cX1_costOf 9 = .ok (.aload_n 0, 1) := by decide +kernel
theorem dX1_costOf_10 : decode cX1_costOf 10 = .ok (.getfield 18, 3) := by decide +kernel
theorem dX1_costOf_13 : decode cX1_costOf 13 = .ok (.iconst 1, 1) := by decide +kernel
theorem dX1_costOf_14 : decode cX1_costOf 14 = .ok (.iaload, 1) := by decide +kernel
theorem dX1_costOf_15 : decode cX1_costOf 15 = .ok (.imul, 1) := by decide +kernel
theorem dX1_costOf_16 : decode cX1_costOf 16 = .ok (.iadd, 1) := by decide +kernel
theorem dX1_costOf_17 : decode cX1_costOf 17 = .ok (.iload_n 3, 1) := by decide +kernel
theorem dX1_costOf_18 : decode cX1_costOf 18 = .ok (.aload_n 0, 1) := by decide +kernel
theorem dX1_costOf_19 : decode cX1_costOf 19 = .ok (.getfield 18, 3) := by decide +kernel
theorem dX1_costOf_22 : decode cX1_costOf 22 = .ok (.iconst 2, 1) := by decide +kernel
theorem dX1_costOf_23 : decode cX1_costOf 23 = .ok (.iaload, 1) := by decide +kernel
theorem dX1_costOf_24 : decode cX1_costOf 24 = .ok (.imul, 1) := by decide +kernel
theorem dX1_costOf_25 : decode cX1_costOf 25 = .ok (.iadd, 1) := by decide +kernel
theorem dX1_costOf_26 : decode cX1_costOf 26 = .ok (.ireturn, 1) := by decide +kernel
theorem dX1_packCell_0 : decode cX1_packCell 0 = .ok (.iload_n 0, 1) := by decide +kernel
theorem dX1_packCell_1 : decode cX1_packCell 1 = .ok (.iconst 3, 1) := by decide +kernel
theorem dX1_packCell_2 : decode cX1_packCell 2 = .ok (.imul, 1) := by decide +kernel
theorem dX1_packCell_3 : decode cX1_packCell 3 = .ok (.iload_n 1, 1) := by decide +kernel
theorem dX1_packCell_4 : decode cX1_packCell 4 = .ok (.iadd, 1) := by decide +kernel
theorem dX1_packCell_5 : decode cX1_packCell 5 = .ok (.iconst 1, 1) := by decide +kernel
theorem dX1_packCell_6 : decode cX1_packCell 6 = .ok (.isub, 1) := by decide +kernel
theorem dX1_packCell_7 : decode cX1_packCell 7 = .ok (.ireturn, 1) := by decide +kernel
theorem dX1_whyNotOffer_0 : decode cX1_whyNotOffer 0 = .ok (.iload_n 1, 1) := by decide +kernel
theorem dX1_whyNotOffer_1 : decode cX1_whyNotOffer 1 = .ok (.invokestatic 95, 3) := by decide +kernel
theorem dX1_whyNotOffer_4 : decode cX1_whyNotOffer 4 = .ok (.ifCond .eq 5, 3) := by decide +kernel
theorem dX1_whyNotOffer_7 : decode cX1_whyNotOffer 7 = .ok (.iconst 1, 1) := by decide +kernel
theorem dX1_whyNotOffer_8 : decode cX1_whyNotOffer 8 = .ok (.ireturn, 1) := by decide +kernel
theorem dX1_whyNotOffer_9 : decode cX1_whyNotOffer 9 = .ok (.iload_n 2, 1) := by decide +kernel
theorem dX1_whyNotOffer_10 : decode cX1_whyNotOffer 10 = .ok (.iconst 1, 1) := by decide +kernel
theorem dX1_whyNotOffer_11 : decode cX1_whyNotOffer 11 = .ok (.bipush 9, 2) := by decide +kernel
theorem dX1_whyNotOffer_13 : decode cX1_whyNotOffer 13 = .ok (.invokestatic 68, 3) := by decide +kernel
theorem dX1_whyNotOffer_16 : decode cX1_whyNotOffer 16 = .ok (.ifCond .ne 13, 3) := by decide +kernel
theorem dX1_whyNotOffer_19 : decode cX1_whyNotOffer 19 = .ok (.iload_n 3, 1) := by decide +kernel
theorem dX1_whyNotOffer_20 : decode cX1_whyNotOffer 20 = .ok (.iconst 1, 1) := by decide +kernel
theorem dX1_whyNotOffer_21 : decode cX1_whyNotOffer 21 = .ok (.bipush 9, 2) := by decide +kernel
theorem dX1_whyNotOffer_23 : decode cX1_whyNotOffer 23 = .ok (.invokestatic 68, 3) := by decide +kernel
theorem dX1_whyNotOffer_26 : decode cX1_whyNotOffer 26 = .ok (.ifCond .eq 5, 3) := by decide +kernel
theorem dX1_whyNotOffer_29 : decode cX1_whyNotOffer 29 = .ok (.iconst 2, 1) := by decide +kernel
theorem dX1_whyNotOffer_30 : decode cX1_whyNotOffer 30 = .ok (.ireturn, 1) := by decide +kernel
theorem dX1_whyNotOffer_31 : decode cX1_whyNotOffer 31 = .ok (.aload_n 0, 1) := by decide +kernel
theorem dX1_whyNotOffer_32 : decode cX1_whyNotOffer 32 = .ok (.getfield 49, 3) := by decide +kernel
theorem dX1_whyNotOffer_35 : decode cX1_whyNotOffer 35 = .ok (.ifCond .gt 10, 3) := by decide +kernel
theorem dX1_whyNotOffer_38 : decode cX1_whyNotOffer 38 = .ok (.aload_n 0, 1) := by decide +kernel
theorem dX1_whyNotOffer_39 : decode cX1_whyNotOffer 39 = .ok (.getfield 45, 3) := by decide +kernel
theorem dX1_whyNotOffer_42 : decode cX1_whyNotOffer 42 = .ok (.ifCond .le 7, 3) := by decide +kernel
theorem dX1_whyNotOffer_45 : decode cX1_whyNotOffer 45 = .ok (.iconst 3, 1) := by decide +kernel
theorem dX1_whyNotOffer_46 : decode cX1_whyNotOffer 46 = .ok (.goto 4, 3) := by decide +kernel
theorem dX1_whyNotOffer_49 : decode cX1_whyNotOffer 49 = .ok (.iconst 0, 1) := by decide +kernel
theorem dX1_whyNotOffer_50 : decode cX1_whyNotOffer 50 = .ok (.ireturn, 1) := by decide +kernel
theorem dX1_whyNotPrice_0 : decode cX1_whyNotPrice 0 = .ok (.iload_n 1, 1) := by decide +kernel
theorem dX1_whyNotPrice_1 : decode cX1_whyNotPrice 1 = .ok (.invokestatic 95, 3) := by decide +kernel
theorem dX1_whyNotPrice_4 : decode cX1_whyNotPrice 4 = .ok (.ifCond .eq 5, 3) := by decide +kernel
theorem dX1_whyNotPrice_7 : decode cX1_whyNotPrice 7 = .ok (.iconst 1, 1) := by decide +kernel
theorem dX1_whyNotPrice_8 : decode cX1_whyNotPrice 8 = .ok (.ireturn, 1) := by decide +kernel
theorem dX1_whyNotPrice_9 : decode cX1_whyNotPrice 9 = .ok (.iload_n 2, 1) := by decide +kernel
theorem dX1_whyNotPrice_10 : decode cX1_whyNotPrice 10 = .ok (.iconst 1, 1) := by decide +kernel
theorem dX1_whyNotPrice_11 : decode cX1_whyNotPrice 11 = .ok (.ldc 99, 2) := by decide +kernel
theorem dX1_whyNotPrice_13 : decode cX1_whyNotPrice 13 = .ok (.invokestatic 68, 3) := by decide +kernel
theorem dX1_whyNotPrice_16 : decode cX1_whyNotPrice 16 = .ok (.ifCond .eq 5, 3) := by decide +kernel
theorem dX1_whyNotPrice_19 : decode cX1_whyNotPrice 19 = .ok (.iconst 2, 1) := by decide +kernel
theorem dX1_whyNotPrice_20 : decode cX1_whyNotPrice 20 = .ok (.ireturn, 1) := by decide +kernel
theorem dX1_whyNotPrice_21 : decode cX1_whyNotPrice 21 = .ok (.aload_n 0, 1) := by decide +kernel
theorem dX1_whyNotPrice_22 : decode cX1_whyNotPrice 22 = .ok (.getfield 49, 3) := by decide +kernel
theorem dX1_whyNotPrice_25 : decode cX1_whyNotPrice 25 = .ok (.ifCond .le 7, 3) := by decide +kernel
theorem dX1_whyNotPrice_28 : decode cX1_whyNotPrice 28 = .ok (.iconst 3, 1) := by decide +kernel
theorem dX1_whyNotPrice_29 : decode cX1_whyNotPrice 29 = .ok (.goto 4, 3) := by decide +kernel
theorem dX1_whyNotPrice_32 : decode cX1_whyNotPrice 32 = .ok (.iconst 0, 1) := by decide +kernel
theorem dX1_whyNotPrice_33 : decode cX1_whyNotPrice 33 = .ok (.ireturn, 1) := by decide +kernel
theorem dX1_whyNotJoin_0 : decode cX1_whyNotJoin 0 = .ok (.iload_n 1, 1) := by decide +kernel
theorem dX1_whyNotJoin_1 : decode cX1_whyNotJoin 1 = .ok (.iconst 0, 1) := by decide +kernel
theorem dX1_whyNotJoin_2 : decode cX1_whyNotJoin 2 = .ok (.bipush 99, 2) := by decide +kernel
theorem dX1_whyNotJoin_4 : decode cX1_whyNotJoin 4 = .ok (.invokestatic 68, 3) := by decide +kernel
theorem dX1_whyNotJoin_7 : decode cX1_whyNotJoin 7 = .ok (.ifCond .ne 13, 3) := by decide +kernel
theorem dX1_whyNotJoin_10 : decode cX1_whyNotJoin 10 = .ok (.iload_n 2, 1) := by decide +kernel
theorem dX1_whyNotJoin_11 : decode cX1_whyNotJoin 11 = .ok (.iconst 1, 1) := by decide +kernel
theorem dX1_whyNotJoin_12 : decode cX1_whyNotJoin 12 = .ok (.bipush 9, 2) := by decide +kernel
theorem dX1_whyNotJoin_14 : decode cX1_whyNotJoin 14 = .ok (.invokestatic 68, 3) := by decide +kernel
theorem dX1_whyNotJoin_17 : decode cX1_whyNotJoin 17 = .ok (.ifCond .eq 5, 3) := by decide +kernel
theorem dX1_whyNotJoin_20 : decode cX1_whyNotJoin 20 = .ok (.iconst 2, 1) := by decide +kernel
theorem dX1_whyNotJoin_21 : decode cX1_whyNotJoin 21 = .ok (.ireturn, 1) := by decide +kernel
theorem dX1_whyNotJoin_22 : decode cX1_whyNotJoin 22 = .ok (.aload_n 0, 1) := by decide +kernel
theorem dX1_whyNotJoin_23 : decode cX1_whyNotJoin 23 = .ok (.getfield 45, 3) := by decide +kernel
theorem dX1_whyNotJoin_26 : decode cX1_whyNotJoin 26 = .ok (.bipush 6, 2) := by decide +kernel
theorem dX1_whyNotJoin_28 : decode cX1_whyNotJoin 28 = .ok (.if_icmp .ge 10, 3) := by decide +kernel
theorem dX1_whyNotJoin_31 : decode cX1_whyNotJoin 31 = .ok (.aload_n 0, 1) := by decide +kernel
theorem dX1_whyNotJoin_32 : decode cX1_whyNotJoin 32 = .ok (.getfield 49, 3) := by decide +kernel
theorem dX1_whyNotJoin_35 : decode cX1_whyNotJoin 35 = .ok (.ifCond .le 7, 3) := by decide +kernel
theorem dX1_whyNotJoin_38 : decode cX1_whyNotJoin 38 = .ok (.iconst 3, 1) := by decide +kernel
theorem dX1_whyNotJoin_39 : decode cX1_whyNotJoin 39 = .ok (.goto 4, 3) := by decide +kernel
theorem dX1_whyNotJoin_42 : decode cX1_whyNotJoin 42 = .ok (.iconst 0, 1) := by decide +kernel
theorem dX1_whyNotJoin_43 : decode cX1_whyNotJoin 43 = .ok (.ireturn, 1) := by decide +kernel
theorem dX1_whyNotValue_0 : decode cX1_whyNotValue 0 = .ok (.aload_n 0, 1) := by decide +kernel
theorem dX1_whyNotValue_1 : decode cX1_whyNotValue 1 = .ok (.iload_n 1, 1) := by decide +kernel
theorem dX1_whyNotValue_2 : decode cX1_whyNotValue 2 = .ok (.invokevirtual 100, 3) := by decide +kernel
theorem dX1_whyNotValue_5 : decode cX1_whyNotValue 5 = .ok (.ifCond .ne 10, 3) := by decide +kernel
theorem dX1_whyNotValue_8 : decode cX1_whyNotValue 8 = .ok (.iload_n 2, 1) := by decide +kernel
theorem dX1_whyNotValue_9 : decode cX1_whyNotValue 9 = .ok (.invokestatic 95, 3) := by decide +kernel
theorem dX1_whyNotValue_12 : decode cX1_whyNotValue 12 = .ok (.ifCond .eq 5, 3) := by decide +kernel
theorem dX1_whyNotValue_15 : decode cX1_whyNotValue 15 = .ok (.iconst 1, 1) := by decide +kernel
theorem dX1_whyNotValue_16 : decode cX1_whyNotValue 16 = .ok (.ireturn, 1) := by decide +kernel
theorem dX1_whyNotValue_17 : decode cX1_whyNotValue 17 = .ok (.iload_n 3, 1) := by decide +kernel
theorem dX1_whyNotValue_18 : decode cX1_whyNotValue 18 = .ok (.iconst 0, 1) := by decide +kernel
theorem dX1_whyNotValue_19 : decode cX1_whyNotValue 19 = .ok (.ldc 99, 2) := by decide +kernel
theorem dX1_whyNotValue_21 : decode cX1_whyNotValue 21 = .ok (.invokestatic 68, 3) := by decide +kernel
theorem dX1_whyNotValue_24 : decode cX1_whyNotValue 24 = .ok (.ifCond .eq 7, 3) := by decide +kernel
theorem dX1_whyNotValue_27 : decode cX1_whyNotValue 27 = .ok (.iconst 2, 1) := by decide +kernel
theorem dX1_whyNotValue_28 : decode cX1_whyNotValue 28 = .ok (.goto 4, 3) := by decide +kernel
theorem dX1_whyNotValue_31 : decode cX1_whyNotValue 31 = .ok (.iconst 0, 1) := by decide +kernel
theorem dX1_whyNotValue_32 : decode cX1_whyNotValue 32 = .ok (.ireturn, 1) := by decide +kernel
theorem dX1_whyNotAsk_0 : decode cX1_whyNotAsk 0 = .ok (.aload_n 0, 1) := by decide +kernel
theorem dX1_whyNotAsk_1 : decode cX1_whyNotAsk 1 = .ok (.iload_n 1, 1) := by decide +kernel
theorem dX1_whyNotAsk_2 : decode cX1_whyNotAsk 2 = .ok (.invokevirtual 100, 3) := by decide +kernel
theorem dX1_whyNotAsk_5 : decode cX1_whyNotAsk 5 = .ok (.ifCond .ne 10, 3) := by decide +kernel
theorem dX1_whyNotAsk_8 : decode cX1_whyNotAsk 8 = .ok (.iload_n 2, 1) := by decide +kernel
theorem dX1_whyNotAsk_9 : decode cX1_whyNotAsk 9 = .ok (.invokestatic 95, 3) := by decide +kernel
theorem dX1_whyNotAsk_12 : decode cX1_whyNotAsk 12 = .ok (.ifCond .eq 5, 3) := by decide +kernel
theorem dX1_whyNotAsk_15 : decode cX1_whyNotAsk 15 = .ok (.iconst 1, 1) := by decide +kernel
theorem dX1_whyNotAsk_16 : decode cX1_whyNotAsk 16 = .ok (.ireturn, 1) := by decide +kernel
theorem dX1_whyNotAsk_17 : decode cX1_whyNotAsk 17 = .ok (.iload_n 3, 1) := by decide +kernel
theorem dX1_whyNotAsk_18 : decode cX1_whyNotAsk 18 = .ok (.iconst 0, 1) := by decide +kernel
theorem dX1_whyNotAsk_19 : decode cX1_whyNotAsk 19 = .ok (.bipush 9, 2) := by decide +kernel
theorem dX1_whyNotAsk_21 : decode cX1_whyNotAsk 21 = .ok (.invokestatic 68, 3) := by decide +kernel
theorem dX1_whyNotAsk_24 : decode cX1_whyNotAsk 24 = .ok (.ifCond .eq 5, 3) := by decide +kernel
theorem dX1_whyNotAsk_27 : decode cX1_whyNotAsk 27 = .ok (.iconst 2, 1) := by decide +kernel
theorem dX1_whyNotAsk_28 : decode cX1_whyNotAsk 28 = .ok (.ireturn, 1) := by decide +kernel
theorem dX1_whyNotAsk_29 : decode cX1_whyNotAsk 29 = .ok (.aload_n 0, 1) := by decide +kernel
theorem dX1_whyNotAsk_30 : decode cX1_whyNotAsk 30 = .ok (.getfield 52, 3) := by decide +kernel
theorem dX1_whyNotAsk_33 : decode cX1_whyNotAsk 33 = .ok (.ifCond .ne 13, 3) := by decide +kernel
theorem dX1_whyNotAsk_36 : decode cX1_whyNotAsk 36 = .ok (.iload_n 3, 1) := by decide +kernel
theorem dX1_whyNotAsk_37 : decode cX1_whyNotAsk 37 = .ok (.aload_n 0, 1) := by decide +kernel
theorem dX1_whyNotAsk_38 : decode cX1_whyNotAsk 38 = .ok (.iload_n 1, 1) := by decide +kernel
theorem dX1_whyNotAsk_39 : decode cX1_whyNotAsk 39 = .ok (.iload_n 2, 1) := by decide +kernel
theorem dX1_whyNotAsk_40 : decode cX1_whyNotAsk 40 = .ok (.invokevirtual 103, 3) := by decide +kernel
theorem dX1_whyNotAsk_43 : decode cX1_whyNotAsk 43 = .ok (.if_icmp .le 5, 3) := by decide +kernel
theorem dX1_whyNotAsk_46 : decode cX1_whyNotAsk 46 = .ok (.iconst 3, 1) := by decide +kernel
theorem dX1_whyNotAsk_47 : decode cX1_whyNotAsk 47 = .ok (.ireturn, 1) := by decide +kernel
theorem dX1_whyNotAsk_48 : decode cX1_whyNotAsk 48 = .ok (.iload_n 3, 1) := by decide +kernel
theorem dX1_whyNotAsk_49 : decode cX1_whyNotAsk 49 = .ok (.aload_n 0, 1) := by decide +kernel
theorem dX1_whyNotAsk_50 : decode cX1_whyNotAsk 50 = .ok (.getfield 33, 3) := by decide +kernel
theorem dX1_whyNotAsk_53 : decode cX1_whyNotAsk 53 = .ok (.iload_n 1, 1) := by decide +kernel
theorem dX1_whyNotAsk_54 : decode cX1_whyNotAsk 54 = .ok (.iload_n 2, 1) := by decide +kernel
theorem dX1_whyNotAsk_55 : decode cX1_whyNotAsk 55 = .ok (.invokestatic 72, 3) := by decide +kernel
theorem dX1_whyNotAsk_58 : decode cX1_whyNotAsk 58 = .ok (.iaload, 1) := by decide +kernel
theorem dX1_whyNotAsk_59 : decode cX1_whyNotAsk 59 = .ok (.isub, 1) := by decide +kernel
theorem dX1_whyNotAsk_60 : decode cX1_whyNotAsk 60 = .ok (.istore 4, 2) := by decide +kernel
theorem dX1_whyNotAsk_62 : decode cX1_whyNotAsk 62 = .ok (.aload_n 0, 1) := by decide +kernel
theorem dX1_whyNotAsk_63 : decode cX1_whyNotAsk 63 = .ok (.iload_n 1, 1) := by decide +kernel
theorem dX1_whyNotAsk_64 : decode cX1_whyNotAsk 64 = .ok (.invokevirtual 106, 3) := by decide +kernel
theorem dX1_whyNotAsk_67 : decode cX1_whyNotAsk 67 = .ok (.iload 4, 2) := by decide +kernel
theorem dX1_whyNotAsk_69 : decode cX1_whyNotAsk 69 = .ok (.aload_n 0, 1) := by decide +kernel
theorem dX1_whyNotAsk_70 : decode cX1_whyNotAsk 70 = .ok (.getfield 15, 3) := by decide +kernel
theorem dX1_whyNotAsk_73 : decode cX1_whyNotAsk 73 = .ok (.iload_n 2, 1) := by decide +kernel
theorem dX1_whyNotAsk_74 : decode cX1_whyNotAsk 74 = .ok (.iaload, 1) := by decide +kernel
theorem dX1_whyNotAsk_75 : decode cX1_whyNotAsk 75 = .ok (.imul, 1) := by decide +kernel
theorem dX1_whyNotAsk_76 : decode cX1_whyNotAsk 76 = .ok (.iadd, 1) := by decide +kernel
theorem dX1_whyNotAsk_77 : decode cX1_whyNotAsk 77 = .ok (.aload_n 0, 1) := by decide +kernel
theorem dX1_whyNotAsk_78 : decode cX1_whyNotAsk 78 = .ok (.getfield 21, 3) := by decide +kernel
theorem dX1_whyNotAsk_81 : decode cX1_whyNotAsk 81 = .ok (.iload_n 1, 1) := by decide +kernel
theorem dX1_whyNotAsk_82 : decode cX1_whyNotAsk 82 = .ok (.iaload, 1) := by decide +kernel
theorem dX1_whyNotAsk_83 : decode cX1_whyNotAsk 83 = .ok (.if_icmp .le 7, 3) := by decide +kernel
theorem dX1_whyNotAsk_86 : decode cX1_whyNotAsk 86 = .ok (.iconst 3, 1) := by decide +kernel
theorem dX1_whyNotAsk_87 : decode cX1_whyNotAsk 87 = .ok (.goto 4, 3) := by decide +kernel
theorem dX1_whyNotAsk_90 : decode cX1_whyNotAsk 90 = .ok (.iconst 0, 1) := by decide +kernel
theorem dX1_whyNotAsk_91 : decode cX1_whyNotAsk 91 = .ok (.ireturn, 1) := by decide +kernel
theorem dX1_whyNotBid_0 : decode cX1_whyNotBid 0 = .ok (.aload_n 0, 1) := by decide +kernel
theorem dX1_whyNotBid_1 : decode cX1_whyNotBid 1 = .ok (.iload_n 1, 1) := by decide +kernel
theorem dX1_whyNotBid_2 : decode cX1_whyNotBid 2 = .ok (.invokevirtual 100, 3) := by decide +kernel
theorem dX1_whyNotBid_5 : decode cX1_whyNotBid 5 = .ok (.ifCond .eq 5, 3) := by decide +kernel
theorem dX1_whyNotBid_8 : decode cX1_whyNotBid 8 = .ok (.iconst 1, 1) := by decide +kernel
theorem dX1_whyNotBid_9 : decode cX1_whyNotBid 9 = .ok (.ireturn, 1) := by decide +kernel
theorem dX1_whyNotBid_10 : decode cX1_whyNotBid 10 = .ok (.aload_n 0, 1) := by decide +kernel
theorem dX1_whyNotBid_11 : decode cX1_whyNotBid 11 = .ok (.getfield 52, 3) := by decide +kernel
theorem dX1_whyNotBid_14 : decode cX1_whyNotBid 14 = .ok (.ifCond .eq 7, 3) := by decide +kernel
theorem dX1_whyNotBid_17 : decode cX1_whyNotBid 17 = .ok (.iconst 3, 1) := by decide +kernel
theorem dX1_whyNotBid_18 : decode cX1_whyNotBid 18 = .ok (.goto 4, 3) := by decide +kernel
theorem dX1_whyNotBid_21 : decode cX1_whyNotBid 21 = .ok (.iconst 0, 1) := by decide +kernel
theorem dX1_whyNotBid_22 : decode cX1_whyNotBid 22 = .ok (.ireturn, 1) := by decide +kernel
theorem dX1_whyNotClose_0 : decode cX1_whyNotClose 0 = .ok (.aload_n 0, 1) := by decide +kernel
theorem dX1_whyNotClose_1 : decode cX1_whyNotClose 1 = .ok (.getfield 52, 3) := by decide +kernel
theorem dX1_whyNotClose_4 : decode cX1_whyNotClose 4 = .ok (.ifCond .eq 7, 3) := by decide +kernel
theorem dX1_whyNotClose_7 : decode cX1_whyNotClose 7 = .ok (.iconst 3, 1) := by decide +kernel
theorem dX1_whyNotClose_8 : decode cX1_whyNotClose 8 = .ok (.goto 4, 3) := by decide +kernel
theorem dX1_whyNotClose_11 : decode cX1_whyNotClose 11 = .ok (.iconst 0, 1) := by decide +kernel
theorem dX1_whyNotClose_12 : decode cX1_whyNotClose 12 = .ok (.ireturn, 1) := by decide +kernel
theorem dX1_whyNotAdd_0 : decode cX1_whyNotAdd 0 = .ok (.aload_n 0, 1) := by decide +kernel
theorem dX1_whyNotAdd_1 : decode cX1_whyNotAdd 1 = .ok (.iload_n 1, 1) := by decide +kernel
theorem dX1_whyNotAdd_2 : decode cX1_whyNotAdd 2 = .ok (.invokevirtual 100, 3) := by decide +kernel
theorem dX1_whyNotAdd_5 : decode cX1_whyNotAdd 5 = .ok (.ifCond .eq 5, 3) := by decide +kernel
theorem dX1_whyNotAdd_8 : decode cX1_whyNotAdd 8 = .ok (.iconst 1, 1) := by decide +kernel
theorem dX1_whyNotAdd_9 : decode cX1_whyNotAdd 9 = .ok (.ireturn, 1) := by decide +kernel
theorem dX1_whyNotAdd_10 : decode cX1_whyNotAdd 10 = .ok (.iload_n 2, 1) := by decide +kernel
theorem dX1_whyNotAdd_11 : decode cX1_whyNotAdd 11 = .ok (.iconst 0, 1) := by decide +kernel
theorem dX1_whyNotAdd_12 : decode cX1_whyNotAdd 12 = .ok (.bipush 9, 2) := by decide +kernel
theorem dX1_whyNotAdd_14 : decode cX1_whyNotAdd 14 = .ok (.invokestatic 68, 3) := by decide +kernel
theorem dX1_whyNotAdd_17 : decode cX1_whyNotAdd 17 = .ok (.ifCond .ne 35, 3) := by decide +kernel
theorem dX1_whyNotAdd_20 : decode cX1_whyNotAdd 20 = .ok (.iload_n 3, 1) := by decide +kernel
theorem dX1_whyNotAdd_21 : decode cX1_whyNotAdd 21 = .ok (.iconst 0, 1) := by decide +kernel
theorem dX1_whyNotAdd_22 : decode cX1_whyNotAdd 22 = .ok (.bipush 9, 2) := by decide +kernel
theorem dX1_whyNotAdd_24 : decode cX1_whyNotAdd 24 = .ok (.invokestatic 68, 3) := by decide +kernel
theorem dX1_whyNotAdd_27 : decode cX1_whyNotAdd 27 = .ok (.ifCond .ne 25, 3) := by decide +kernel
theorem dX1_whyNotAdd_30 : decode cX1_whyNotAdd 30 = .ok (.iload 4, 2) := by decide +kernel
theorem dX1_whyNotAdd_32 : decode cX1_whyNotAdd 32 = .ok (.iconst 0, 1) := by decide +kernel
theorem dX1_whyNotAdd_33 : decode cX1_whyNotAdd 33 = .ok (.bipush 9, 2) := by decide +kernel
theorem dX1_whyNotAdd_35 : decode cX1_whyNotAdd 35 = .ok (.invokestatic 68, 3) := by decide +kernel
theorem dX1_whyNotAdd_38 : decode cX1_whyNotAdd 38 = .ok (.ifCond .ne 14, 3) := by decide +kernel
theorem dX1_whyNotAdd_41 : decode cX1_whyNotAdd 41 = .ok (.iload 5, 2) := by decide +kernel
theorem dX1_whyNotAdd_43 : decode cX1_whyNotAdd 43 = .ok (.iconst 1, 1) := by decide +kernel
theorem dX1_whyNotAdd_44 : decode cX1_whyNotAdd 44 = .ok (.ldc 109, 2) := by decide +kernel
theorem dX1_whyNotAdd_46 : decode cX1_whyNotAdd 46 = .ok (.invokestatic 68, 3) := by decide +kernel
theorem dX1_whyNotAdd_49 : decode cX1_whyNotAdd 49 = .ok (.ifCond .eq 5, 3) := by decide +kernel
theorem dX1_whyNotAdd_52 : decode cX1_whyNotAdd 52 = .ok (.iconst 2, 1) := by decide +kernel
theorem dX1_whyNotAdd_53 : decode cX1_whyNotAdd 53 = .ok (.ireturn, 1) := by decide +kernel
theorem dX1_whyNotAdd_54 : decode cX1_whyNotAdd 54 = .ok (.aload_n 0, 1) := by decide +kernel
theorem dX1_whyNotAdd_55 : decode cX1_whyNotAdd 55 = .ok (.getfield 52, 3) := by decide +kernel
theorem dX1_whyNotAdd_58 : decode cX1_whyNotAdd 58 = .ok (.ifCond .eq 26, 3) := by decide +kernel
theorem dX1_whyNotAdd_61 : decode cX1_whyNotAdd 61 = .ok (.aload_n 0, 1) := by decide +kernel
theorem dX1_whyNotAdd_62 : decode cX1_whyNotAdd 62 = .ok (.getfield 27, 3) := by decide +kernel
theorem dX1_whyNotAdd_65 : decode cX1_whyNotAdd 65 = .ok (.iload_n 1, 1) := by decide +kernel
theorem dX1_whyNotAdd_66 : decode cX1_whyNotAdd 66 = .ok (.iaload, 1) := by decide +kernel
theorem dX1_whyNotAdd_67 : decode cX1_whyNotAdd 67 = .ok (.iconst 3, 1) := by decide +kernel
theorem dX1_whyNotAdd_68 : decode cX1_whyNotAdd 68 = .ok (.if_icmp .ge 16, 3) := by decide +kernel
theorem dX1_whyNotAdd_71 : decode cX1_whyNotAdd 71 = .ok (.iload 5, 2) := by decide +kernel
theorem dX1_whyNotAdd_73 : decode cX1_whyNotAdd 73 = .ok (.aload_n 0, 1) := by decide +kernel
theorem dX1_whyNotAdd_74 : decode cX1_whyNotAdd 74 = .ok (.iload_n 2, 1) := by decide +kernel
theorem dX1_whyNotAdd_75 : decode cX1_whyNotAdd 75 = .ok (.iload_n 3, 1) := by decide +kernel
theorem dX1_whyNotAdd_76 : decode cX1_whyNotAdd 76 = .ok (.iload 4, 2) := by decide +kernel
theorem dX1_whyNotAdd_78 : decode cX1_whyNotAdd 78 = .ok (.invokevirtual 91, 3) := by decide +kernel
theorem dX1_whyNotAdd_81 : decode cX1_whyNotAdd 81 = .ok (.if_icmp .ge 5, 3) := by decide +kernel
theorem dX1_whyNotAdd_84 : decode cX1_whyNotAdd 84 = .ok (.iconst 3, 1) := by decide +kernel
theorem dX1_whyNotAdd_85 : decode cX1_whyNotAdd 85 = .ok (.ireturn, 1) := by decide +kernel
theorem dX1_whyNotAdd_86 : decode cX1_whyNotAdd 86 = .ok (.aload_n 0, 1) := by decide +kernel
theorem dX1_whyNotAdd_87 : decode cX1_whyNotAdd 87 = .ok (.iload_n 1, 1) := by decide +kernel
theorem dX1_whyNotAdd_88 : decode cX1_whyNotAdd 88 = .ok (.iload_n 2, 1) := by decide +kernel
theorem dX1_whyNotAdd_89 : decode cX1_whyNotAdd 89 = .ok (.iload_n 3, 1) := by decide +kernel
theorem dX1_whyNotAdd_90 : decode cX1_whyNotAdd 90 = .ok (.iload 4, 2) := by decide +kernel
theorem dX1_whyNotAdd_92 : decode cX1_whyNotAdd 92 = .ok (.invokevirtual 110, 3) := by decide +kernel
theorem dX1_whyNotAdd_95 : decode cX1_whyNotAdd 95 = .ok (.ifCond .eq 7, 3) := by decide +kernel
theorem dX1_whyNotAdd_98 : decode cX1_whyNotAdd 98 = .ok (.iconst 0, 1) := by decide +kernel
theorem dX1_whyNotAdd_99 : decode cX1_whyNotAdd 99 = .ok (.goto 4, 3) := by decide +kernel
theorem dX1_whyNotAdd_102 : decode cX1_whyNotAdd 102 = .ok (.iconst 3, 1) := by decide +kernel
theorem dX1_whyNotAdd_103 : decode cX1_whyNotAdd 103 = .ok (.ireturn, 1) := by decide +kernel
theorem dX1_mayHave_0 : decode cX1_mayHave 0 = .ok (.iload_n 2, 1) := by decide +kernel
theorem dX1_mayHave_1 : decode cX1_mayHave 1 = .ok (.iload_n 3, 1) := by decide +kernel
theorem dX1_mayHave_2 : decode cX1_mayHave 2 = .ok (.iadd, 1) := by decide +kernel
theorem dX1_mayHave_3 : decode cX1_mayHave 3 = .ok (.iload 4, 2) := by decide +kernel
theorem dX1_mayHave_5 : decode cX1_mayHave 5 = .ok (.iadd, 1) := by decide +kernel
theorem dX1_mayHave_6 : decode cX1_mayHave 6 = .ok (.ifCond .ne 5, 3) := by decide +kernel
theorem dX1_mayHave_9 : decode cX1_mayHave 9 = .ok (.iconst 0, 1) := by decide +kernel
theorem dX1_mayHave_10 : decode cX1_mayHave 10 = .ok (.ireturn, 1) := by decide +kernel
theorem dX1_mayHave_11 : decode cX1_mayHave 11 = .ok (.iload_n 2, 1) := by decide +kernel
theorem dX1_mayHave_12 : decode cX1_mayHave 12 = .ok (.aload_n 0, 1) := by decide +kernel
theorem dX1_mayHave_13 : decode cX1_mayHave 13 = .ok (.iload_n 1, 1) := by decide +kernel
theorem dX1_mayHave_14 : decode cX1_mayHave 14 = .ok (.iconst 0, 1) := by decide +kernel
theorem dX1_mayHave_15 : decode cX1_mayHave 15 = .ok (.invokevirtual 103, 3) := by decide +kernel
theorem dX1_mayHave_18 : decode cX1_mayHave 18 = .ok (.if_icmp .gt 24, 3) := by decide +kernel
theorem dX1_mayHave_21 : decode cX1_mayHave 21 = .ok (.iload_n 3, 1) := by decide +kernel
theorem dX1_mayHave_22 : decode cX1_mayHave 22 = .ok (.aload_n 0, 1) := by decide +kernel
theorem dX1_mayHave_23 : decode cX1_mayHave 23 = .ok (.iload_n 1, 1) := by decide +kernel
theorem dX1_mayHave_24 : decode cX1_mayHave 24 = .ok (.iconst 1, 1) := by decide +kernel
theorem dX1_mayHave_25 : decode cX1_mayHave 25 = .ok (.invokevirtual 103, 3) := by decide +kernel
theorem dX1_mayHave_28 : decode cX1_mayHave 28 = .ok (.if_icmp .gt 14, 3) := by decide +kernel
theorem dX1_mayHave_31 : decode cX1_mayHave 31 = .ok (.iload 4, 2) := by decide +kernel
theorem dX1_mayHave_33 : decode cX1_mayHave 33 = .ok (.aload_n 0, 1) := by decide +kernel
theorem dX1_mayHave_34 : decode cX1_mayHave 34 = .ok (.iload_n 1, 1) := by decide +kernel
theorem dX1_mayHave_35 : decode cX1_mayHave 35 = .ok (.iconst 2, 1) := by decide +kernel
theorem dX1_mayHave_36 : decode cX1_mayHave 36 = .ok (.invokevirtual 103, 3) := by decide +kernel
theorem dX1_mayHave_39 : decode cX1_mayHave 39 = .ok (.if_icmp .le 5, 3) := by decide +kernel
theorem dX1_mayHave_42 : decode cX1_mayHave 42 = .ok (.iconst 0, 1) := by decide +kernel
theorem dX1_mayHave_43 : decode cX1_mayHave 43 = .ok (.ireturn, 1) := by decide +kernel
theorem dX1_mayHave_44 : decode cX1_mayHave 44 = .ok (.iload_n 2, 1) := by decide +kernel
theorem dX1_mayHave_45 : decode cX1_mayHave 45 = .ok (.aload_n 0, 1) := by decide +kernel
theorem dX1_mayHave_46 : decode cX1_mayHave 46 = .ok (.getfield 15, 3) := by decide +kernel
theorem dX1_mayHave_49 : decode cX1_mayHave 49 = .ok (.iconst 0, 1) := by decide +kernel
theorem dX1_mayHave_50 : decode cX1_mayHave 50 = .ok (.iaload, 1) := by decide +kernel
theorem dX1_mayHave_51 : decode cX1_mayHave 51 = .ok (.imul, 1) := by decide +kernel
theorem dX1_mayHave_52 : decode cX1_mayHave 52 = .ok (.iload_n 3, 1) := by decide +kernel
theorem dX1_mayHave_53 : decode cX1_mayHave 53 = .ok (.aload_n 0, 1) := by decide +kernel
theorem dX1_mayHave_54 : decode cX1_mayHave 54 = .ok (.getfield 15, 3) := by decide +kernel
theorem dX1_mayHave_57 : decode cX1_mayHave 57 = .ok (.iconst 1, 1) := by decide +kernel
theorem dX1_mayHave_58 : decode cX1_mayHave 58 = .ok (.iaload, 1) := by decide +kernel
theorem dX1_mayHave_59 : decode cX1_mayHave 59 = .ok (.imul, 1) := by decide +kernel
theorem dX1_mayHave_60 : decode cX1_mayHave 60 = .ok (.iadd, 1) := by decide +kernel
theorem dX1_mayHave_61 : decode cX1_mayHave 61 = .ok (.iload 4, 2) := by decide +kernel
theorem dX1_mayHave_63 : decode cX1_mayHave 63 = .ok (.aload_n 0, 1) := by decide +kernel
theorem dX1_mayHave_64 : decode cX1_mayHave 64 = .ok (.getfield 15, 3) := by decide +kernel
theorem dX1_mayHave_67 : decode cX1_mayHave 67 = .ok (.iconst 2, 1) := by decide +kernel
theorem dX1_mayHave_68 : decode cX1_mayHave 68 = .ok (.iaload, 1) := by decide +kernel
theorem dX1_mayHave_69 : decode cX1_mayHave 69 = .ok (.imul, 1) := by decide +kernel
theorem dX1_mayHave_70 : decode cX1_mayHave 70 = .ok (.iadd, 1) := by decide +kernel
theorem dX1_mayHave_71 : decode cX1_mayHave 71 = .ok (.aload_n 0, 1) := by decide +kernel
theorem dX1_mayHave_72 : decode cX1_mayHave 72 = .ok (.getfield 21, 3) := by decide +kernel
theorem dX1_mayHave_75 : decode cX1_mayHave 75 = .ok (.iload_n 1, 1) := by decide +kernel
theorem dX1_mayHave_76 : decode cX1_mayHave 76 = .ok (.iaload, 1) := by decide +kernel
theorem dX1_mayHave_77 : decode cX1_mayHave 77 = .ok (.if_icmp .gt 7, 3) := by decide +kernel
theorem dX1_mayHave_80 : decode cX1_mayHave 80 = .ok (.iconst 1, 1) := by decide +kernel
theorem dX1_mayHave_81 : decode cX1_mayHave 81 = .ok (.goto 4, 3) := by decide +kernel
theorem dX1_mayHave_84 : decode cX1_mayHave 84 = .ok (.iconst 0, 1) := by decide +kernel
theorem dX1_mayHave_85 : decode cX1_mayHave 85 = .ok (.ireturn, 1) := by decide +kernel
theorem dX1_whyNotDrop_0 : decode cX1_whyNotDrop 0 = .ok (.aload_n 0, 1) := by decide +kernel
theorem dX1_whyNotDrop_1 : decode cX1_whyNotDrop 1 = .ok (.iload_n 1, 1) := by decide +kernel
theorem dX1_whyNotDrop_2 : decode cX1_whyNotDrop 2 = .ok (.invokevirtual 100, 3) := by decide +kernel
theorem dX1_whyNotDrop_5 : decode cX1_whyNotDrop 5 = .ok (.ifCond .ne 17, 3) := by decide +kernel
theorem dX1_whyNotDrop_8 : decode cX1_whyNotDrop 8 = .ok (.iload_n 2, 1) := by decide +kernel
theorem dX1_whyNotDrop_9 : decode cX1_whyNotDrop 9 = .ok (.iconst 1, 1) := by decide +kernel
theorem dX1_whyNotDrop_10 : decode cX1_whyNotDrop 10 = .ok (.aload_n 0, 1) := by decide +kernel
theorem dX1_whyNotDrop_11 : decode cX1_whyNotDrop 11 = .ok (.getfield 27, 3) := by decide +kernel
theorem dX1_whyNotDrop_14 : decode cX1_whyNotDrop 14 = .ok (.iload_n 1, 1) := by decide +kernel
theorem dX1_whyNotDrop_15 : decode cX1_whyNotDrop 15 = .ok (.iaload, 1) := by decide +kernel
theorem dX1_whyNotDrop_16 : decode cX1_whyNotDrop 16 = .ok (.invokestatic 68, 3) := by decide +kernel
theorem dX1_whyNotDrop_19 : decode cX1_whyNotDrop 19 = .ok (.ifCond .eq 7, 3) := by decide +kernel
theorem dX1_whyNotDrop_22 : decode cX1_whyNotDrop 22 = .ok (.iconst 1, 1) := by decide +kernel
theorem dX1_whyNotDrop_23 : decode cX1_whyNotDrop 23 = .ok (.goto 4, 3) := by decide +kernel
theorem dX1_whyNotDrop_26 : decode cX1_whyNotDrop 26 = .ok (.iconst 0, 1) := by decide +kernel
theorem dX1_whyNotDrop_27 : decode cX1_whyNotDrop 27 = .ok (.ireturn, 1) := by decide +kernel
theorem dX1_whyNotSet_0 : decode cX1_whyNotSet 0 = .ok (.iload_n 1, 1) := by decide +kernel
theorem dX1_whyNotSet_1 : decode cX1_whyNotSet 1 = .ok (.ifCond .ne 20, 3) := by decide +kernel
theorem dX1_whyNotSet_4 : decode cX1_whyNotSet 4 = .ok (.iload_n 2, 1) := by decide +kernel
theorem dX1_whyNotSet_5 : decode cX1_whyNotSet 5 = .ok (.bipush 50, 2) := by decide +kernel
theorem dX1_whyNotSet_7 : decode cX1_whyNotSet 7 = .ok (.bipush 100, 2) := by decide +kernel
theorem dX1_whyNotSet_9 : decode cX1_whyNotSet 9 = .ok (.invokestatic 68, 3) := by decide +kernel
theorem dX1_whyNotSet_12 : decode cX1_whyNotSet 12 = .ok (.ifCond .eq 7, 3) := by decide +kernel
theorem dX1_whyNotSet_15 : decode cX1_whyNotSet 15 = .ok (.iconst 2, 1) := by decide +kernel
theorem dX1_whyNotSet_16 : decode cX1_whyNotSet 16 = .ok (.goto 4, 3) := by decide +kernel
theorem dX1_whyNotSet_19 : decode cX1_whyNotSet 19 = .ok (.iconst 0, 1) := by decide +kernel
theorem dX1_whyNotSet_20 : decode cX1_whyNotSet 20 = .ok (.ireturn, 1) := by decide +kernel
theorem dX1_whyNotSet_21 : decode cX1_whyNotSet 21 = .ok (.iload_n 1, 1) := by decide +kernel
theorem dX1_whyNotSet_22 : decode cX1_whyNotSet 22 = .ok (.iconst 1, 1) := by decide +kernel
theorem dX1_whyNotSet_23 : decode cX1_whyNotSet 23 = .ok (.if_icmp .ne 13, 3) := by decide +kernel
theorem dX1_whyNotSet_26 : decode cX1_whyNotSet 26 = .ok (.iload_n 2, 1) := by decide +kernel
theorem dX1_whyNotSet_27 : decode cX1_whyNotSet 27 = .ok (.iconst 1, 1) := by decide +kernel
theorem dX1_whyNotSet_28 : decode cX1_whyNotSet 28 = .ok (.bipush 50, 2) := by decide +kernel
theorem dX1_whyNotSet_30 : decode cX1_whyNotSet 30 = .ok (.invokestatic 68, 3) := by decide +kernel
theorem dX1_whyNotSet_33 : decode cX1_whyNotSet 33 = .ok (.ifCond .eq 7, 3) := by decide +kernel
theorem dX1_whyNotSet_36 : decode cX1_whyNotSet 36 = .ok (.iconst 2, 1) := by decide +kernel
theorem dX1_whyNotSet_37 : decode cX1_whyNotSet 37 = .ok (.goto 4, 3) := by decide +kernel
theorem dX1_whyNotSet_40 : decode cX1_whyNotSet 40 = .ok (.iconst 0, 1) := by decide +kernel
theorem dX1_whyNotSet_41 : decode cX1_whyNotSet 41 = .ok (.ireturn, 1) := by decide +kernel
theorem dX1_changeOffer_0 : decode cX1_changeOffer 0 = .ok (.aload_n 0, 1) := by decide +kernel
theorem dX1_changeOffer_1 : decode cX1_changeOffer 1 = .ok (.getfield 9, 3) := by decide +kernel
theorem dX1_changeOffer_4 : decode cX1_changeOffer 4 = .ok (.iload_n 1, 1) := by decide +kernel
theorem dX1_changeOffer_5 : decode cX1_changeOffer 5 = .ok (.iload_n 2, 1) := by decide +kernel
theorem dX1_changeOffer_6 : decode cX1_changeOffer 6 = .ok (.iastore, 1) := by decide +kernel
theorem dX1_changeOffer_7 : decode cX1_changeOffer 7 = .ok (.aload_n 0, 1) := by decide +kernel
theorem dX1_changeOffer_8 : decode cX1_changeOffer 8 = .ok (.getfield 15, 3) := by decide +kernel
theorem dX1_changeOffer_11 : decode cX1_changeOffer 11 = .ok (.iload_n 1, 1) := by decide +kernel
theorem dX1_changeOffer_12 : decode cX1_changeOffer 12 = .ok (.iload_n 3, 1) := by decide +kernel
theorem dX1_changeOffer_13 : decode cX1_changeOffer 13 = .ok (.iastore, 1) := by decide +kernel
theorem dX1_changeOffer_14 : decode cX1_changeOffer 14 = .ok (.return_, 1) := by decide +kernel
theorem dX1_addBidder_0 : decode cX1_addBidder 0 = .ok (.aload_n 0, 1) := by decide +kernel
theorem dX1_addBidder_1 : decode cX1_addBidder 1 = .ok (.getfield 45, 3) := by decide +kernel
theorem dX1_addBidder_4 : decode cX1_addBidder 4 = .ok (.istore_n 3, 1) := by decide +kernel
theorem dX1_addBidder_5 : decode cX1_addBidder 5 = .ok (.aload_n 0, 1) := by decide +kernel
theorem dX1_addBidder_6 : decode cX1_addBidder 6 = .ok (.getfield 21, 3) := by decide +kernel
theorem dX1_addBidder_9 : decode cX1_addBidder 9 = .ok (.iload_n 3, 1) := by decide +kernel
theorem dX1_addBidder_10 : decode cX1_addBidder 10 = .ok (.iload_n 1, 1) := by decide +kernel
theorem dX1_addBidder_11 : decode cX1_addBidder 11 = .ok (.iastore, 1) := by decide +kernel
theorem dX1_addBidder_12 : decode cX1_addBidder 12 = .ok (.aload_n 0, 1) := by decide +kernel
theorem dX1_addBidder_13 : decode cX1_addBidder 13 = .ok (.getfield 24, 3) := by decide +kernel
theorem dX1_addBidder_16 : decode cX1_addBidder 16 = .ok (.iload_n 3, 1) := by decide +kernel
theorem dX1_addBidder_17 : decode cX1_addBidder 17 = .ok (.iload_n 2, 1) := by decide +kernel
theorem dX1_addBidder_18 : decode cX1_addBidder 18 = .ok (.iastore, 1) := by decide +kernel
theorem dX1_addBidder_19 : decode cX1_addBidder 19 = .ok (.aload_n 0, 1) := by decide +kernel
theorem dX1_addBidder_20 : decode cX1_addBidder 20 = .ok (.getfield 27, 3) := by decide +kernel
theorem dX1_addBidder_23 : decode cX1_addBidder 23 = .ok (.iload_n 3, 1) := by decide +kernel
theorem dX1_addBidder_24 : decode cX1_addBidder 24 = .ok (.iconst 0, 1) := by decide +kernel
theorem dX1_addBidder_25 : decode cX1_addBidder 25 = .ok (.iastore, 1) := by decide +kernel
theorem dX1_addBidder_26 : decode cX1_addBidder 26 = .ok (.aload_n 0, 1) := by decide +kernel
theorem dX1_addBidder_27 : decode cX1_addBidder 27 = .ok (.iload_n 3, 1) := by decide +kernel
theorem dX1_addBidder_28 : decode cX1_addBidder 28 = .ok (.iconst 0, 1) := by decide +kernel
theorem dX1_addBidder_29 : decode cX1_addBidder 29 = .ok (.iconst 0, 1) := by decide +kernel
theorem dX1_addBidder_30 : decode cX1_addBidder 30 = .ok (.iconst 0, 1) := by decide +kernel
theorem dX1_addBidder_31 : decode cX1_addBidder 31 = .ok (.invokevirtual 114, 3) := by decide +kernel
theorem dX1_addBidder_34 : decode cX1_addBidder 34 = .ok (.iconst 0, 1) := by decide +kernel
theorem dX1_addBidder_35 : decode cX1_addBidder 35 = .ok (.istore 4, 2) := by decide +kernel
theorem dX1_addBidder_37 : decode cX1_addBidder 37 = .ok (.iload 4, 2) := by decide +kernel
theorem dX1_addBidder_39 : decode cX1_addBidder 39 = .ok (.iconst 3, 1) := by decide +kernel
theorem dX1_addBidder_40 : decode cX1_addBidder 40 = .ok (.if_icmp .ge 21, 3) := by decide +kernel
theorem dX1_addBidder_43 : decode cX1_addBidder 43 = .ok (.aload_n 0, 1) := by decide +kernel
theorem dX1_addBidder_44 : decode cX1_addBidder 44 = .ok (.getfield 30, 3) := by decide +kernel
theorem dX1_addBidder_47 : decode cX1_addBidder 47 = .ok (.iload_n 3, 1) := by decide +kernel
theorem dX1_addBidder_48 : decode cX1_addBidder 48 = .ok (.iload 4, 2) := by decide +kernel
theorem dX1_addBidder_50 : decode cX1_addBidder 50 = .ok (.invokestatic 72, 3) := by decide +kernel
theorem dX1_addBidder_53 : decode cX1_addBidder 53 = .ok (.iconst 0, 1) := by decide +kernel
theorem dX1_addBidder_54 : decode cX1_addBidder 54 = .ok (.iastore, 1) := by decide +kernel
theorem dX1_addBidder_55 : decode cX1_addBidder 55 = .ok (.iinc 4 1, 3) := by decide +kernel
theorem dX1_addBidder_58 : decode cX1_addBidder 58 = .ok (.goto (-21), 3) := by decide +kernel
theorem dX1_addBidder_61 : decode cX1_addBidder 61 = .ok (.aload_n 0, 1) := by decide +kernel
theorem dX1_addBidder_62 : decode cX1_addBidder 62 = .ok (.dup, 1) := by decide +kernel
theorem dX1_addBidder_63 : decode cX1_addBidder 63 = .ok (.getfield 45, 3) := by decide +kernel
theorem dX1_addBidder_66 : decode cX1_addBidder 66 = .ok (.iconst 1, 1) := by decide +kernel
theorem dX1_addBidder_67 : decode cX1_addBidder 67 = .ok (.iadd, 1) := by decide +kernel
theorem dX1_addBidder_68 : decode cX1_addBidder 68 = .ok (.putfield 45, 3) := by decide +kernel
theorem dX1_addBidder_71 : decode cX1_addBidder 71 = .ok (.return_, 1) := by decide +kernel
theorem dX1_changeSetting_0 : decode cX1_changeSetting 0 = .ok (.iload_n 1, 1) := by decide +kernel
theorem dX1_changeSetting_1 : decode cX1_changeSetting 1 = .ok (.ifCond .ne 11, 3) := by decide +kernel
theorem dX1_changeSetting_4 : decode cX1_changeSetting 4 = .ok (.aload_n 0, 1) := by decide +kernel
theorem dX1_changeSetting_5 : decode cX1_changeSetting 5 = .ok (.iload_n 2, 1) := by decide +kernel
theorem dX1_changeSetting_6 : decode cX1_changeSetting 6 = .ok (.putfield 56, 3) := by decide +kernel
theorem dX1_changeSetting_9 : decode cX1_changeSetting 9 = .ok (.goto 8, 3) := by decide +kernel
theorem dX1_changeSetting_12 : decode cX1_changeSetting 12 = .ok (.aload_n 0, 1) := by decide +kernel
theorem dX1_changeSetting_13 : decode cX1_changeSetting 13 = .ok (.iload_n 2, 1) := by decide +kernel
theorem dX1_changeSetting_14 : decode cX1_changeSetting 14 = .ok (.putfield 59, 3) := by decide +kernel
theorem dX1_changeSetting_17 : decode cX1_changeSetting 17 = .ok (.return_, 1) := by decide +kernel
theorem dX1_bidByValues_0 : decode cX1_bidByValues 0 = .ok (.aload_n 0, 1) := by decide +kernel
theorem dX1_bidByValues_1 : decode cX1_bidByValues 1 = .ok (.iload_n 1, 1) := by decide +kernel
theorem dX1_bidByValues_2 : decode cX1_bidByValues 2 = .ok (.iconst 0, 1) := by decide +kernel
theorem dX1_bidByValues_3 : decode cX1_bidByValues 3 = .ok (.invokevirtual 118, 3) := by decide +kernel
theorem dX1_bidByValues_6 : decode cX1_bidByValues 6 = .ok (.istore_n 2, 1) := by decide +kernel
theorem dX1_bidByValues_7 : decode cX1_bidByValues 7 = .ok (.aload_n 0, 1) := by decide +kernel
theorem dX1_bidByValues_8 : decode cX1_bidByValues 8 = .ok (.iload_n 1, 1) := by decide +kernel
theorem dX1_bidByValues_9 : decode cX1_bidByValues 9 = .ok (.iconst 1, 1) := by decide +kernel
theorem dX1_bidByValues_10 : decode cX1_bidByValues 10 = .ok (.invokevirtual 118, 3) := by decide +kernel
theorem dX1_bidByValues_13 : decode cX1_bidByValues 13 = .ok (.istore_n 3, 1) := by decide +kernel
theorem dX1_bidByValues_14 : decode cX1_bidByValues 14 = .ok (.aload_n 0, 1) := by decide +kernel
theorem dX1_bidByValues_15 : decode cX1_bidByValues 15 = .ok (.iload_n 1, 1) := by decide +kernel
theorem dX1_bidByValues_16 : decode cX1_bidByValues 16 = .ok (.iconst 2, 1) := by decide +kernel
theorem dX1_bidByValues_17 : decode cX1_bidByValues 17 = .ok (.invokevirtual 118, 3) := by decide +kernel
theorem dX1_bidByValues_20 : decode cX1_bidByValues 20 = .ok (.istore 4, 2) := by decide +kernel
theorem dX1_bidByValues_22 : decode cX1_bidByValues 22 = .ok (.iconst (-1), 1) := by decide +kernel
theorem dX1_bidByValues_23 : decode cX1_bidByValues 23 = .ok (.istore 5, 2) := by decide +kernel
theorem dX1_bidByValues_25 : decode cX1_bidByValues 25 = .ok (.iconst 0, 1) := by decide +kernel
theorem dX1_bidByValues_26 : decode cX1_bidByValues 26 = .ok (.istore 6, 2) := by decide +kernel
theorem dX1_bidByValues_28 : decode cX1_bidByValues 28 = .ok (.iload 6, 2) := by decide +kernel
theorem dX1_bidByValues_30 : decode cX1_bidByValues 30 = .ok (.iload_n 2, 1) := by decide +kernel
theorem dX1_bidByValues_31 : decode cX1_bidByValues 31 = .ok (.if_icmp .gt 131, 3) := by decide +kernel
theorem dX1_bidByValues_34 : decode cX1_bidByValues 34 = .ok (.iconst 0, 1) := by decide +kernel
theorem dX1_bidByValues_35 : decode cX1_bidByValues 35 = .ok (.istore 7, 2) := by decide +kernel
theorem dX1_bidByValues_37 : decode cX1_bidByValues 37 = .ok (.iload 7, 2) := by decide +kernel
theorem dX1_bidByValues_39 : decode cX1_bidByValues 39 = .ok (.iload_n 3, 1) := by decide +kernel
theorem dX1_bidByValues_40 : decode cX1_bidByValues 40 = .ok (.if_icmp .gt 116, 3) := by decide +kernel
theorem dX1_bidByValues_43 : decode cX1_bidByValues 43 = .ok (.aload_n 0, 1) := by decide +kernel
theorem dX1_bidByValues_44 : decode cX1_bidByValues 44 = .ok (.getfield 21, 3) := by decide +kernel
theorem dX1_bidByValues_47 : decode cX1_bidByValues 47 = .ok (.iload_n 1, 1) := by decide +kernel
theorem dX1_bidByValues_48 : decode cX1_bidByValues 48 = .ok (.iaload, 1) := by decide +kernel
theorem dX1_bidByValues_49 : decode cX1_bidByValues 49 = .ok (.iload 6, 2) := by decide +kernel
theorem dX1_bidByValues_51 : decode cX1_bidByValues 51 = .ok (.aload_n 0, 1) := by decide +kernel
theorem dX1_bidByValues_52 : decode cX1_bidByValues 52 = .ok (.getfield 15, 3) := by decide +kernel
theorem dX1_bidByValues_55 : decode cX1_bidByValues 55 = .ok (.iconst 0, 1) := by decide +kernel
theorem dX1_bidByValues_56 : decode cX1_bidByValues 56 = .ok (.iaload, 1) := by decide +kernel
theorem dX1_bidByValues_57 : decode cX1_bidByValues 57 = .ok (.imul, 1) := by decide +kernel
theorem dX1_bidByValues_58 : decode cX1_bidByValues 58 = .ok (.isub, 1) := by decide +kernel
theorem dX1_bidByValues_59 : decode cX1_bidByValues 59 = .ok (.iload 7, 2) := by decide +kernel
theorem dX1_bidByValues_61 : decode cX1_bidByValues 61 = .ok (.aload_n 0, 1) := by decide +kernel
theorem dX1_bidByValues_62 : decode cX1_bidByValues 62 = .ok (.getfield 15, 3) := by decide +kernel
theorem dX1_bidByValues_65 : decode cX1_bidByValues 65 = .ok (.iconst 1, 1) := by decide +kernel
theorem dX1_bidByValues_66 : decode cX1_bidByValues 66 = .ok (.iaload, 1) := by decide +kernel
theorem dX1_bidByValues_67 : decode cX1_bidByValues 67 = .ok (.imul, 1) := by decide +kernel
theorem dX1_bidByValues_68 : decode cX1_bidByValues 68 = .ok (.isub, 1) := by decide +kernel
theorem dX1_bidByValues_69 : decode cX1_bidByValues 69 = .ok (.istore 8, 2) := by decide +kernel
theorem dX1_bidByValues_71 : decode cX1_bidByValues 71 = .ok (.iload 8, 2) := by decide +kernel
theorem dX1_bidByValues_73 : decode cX1_bidByValues 73 = .ok (.ifCond .ge 6, 3) := by decide +kernel
theorem dX1_bidByValues_76 : decode cX1_bidByValues 76 = .ok (.goto 80, 3) := by decide +kernel
theorem dX1_bidByValues_79 : decode cX1_bidByValues 79 = .ok (.iload 4, 2) := by decide +kernel
theorem dX1_bidByValues_81 : decode cX1_bidByValues 81 = .ok (.iload 8, 2) := by decide +kernel
theorem dX1_bidByValues_83 : decode cX1_bidByValues 83 = .ok (.aload_n 0, 1) := by decide +kernel
theorem dX1_bidByValues_84 : decode cX1_bidByValues 84 = .ok (.getfield 15, 3) := by decide +kernel
theorem dX1_bidByValues_87 : decode cX1_bidByValues 87 = .ok (.iconst 2, 1) := by decide +kernel
theorem dX1_bidByValues_88 : decode cX1_bidByValues 88 = .ok (.iaload, 1) := by decide +kernel
theorem dX1_bidByValues_89 : decode cX1_bidByValues 89 = .ok (.invokestatic 121, 3) := by decide +kernel
theorem dX1_bidByValues_92 : decode cX1_bidByValues 92 = .ok (.invokestatic 83, 3) := by decide +kernel
theorem dX1_bidByValues_95 : decode cX1_bidByValues 95 = .ok (.istore 9, 2) := by decide +kernel
theorem dX1_bidByValues_97 : decode cX1_bidByValues 97 = .ok (.iload 6, 2) := by decide +kernel
theorem dX1_bidByValues_99 : decode cX1_bidByValues 99 = .ok (.aload_n 0, 1) := by decide +kernel
theorem dX1_bidByValues_100 : decode cX1_bidByValues 100 = .ok (.iload_n 1, 1) := by decide +kernel
theorem dX1_bidByValues_101 : decode cX1_bidByValues 101 = .ok (.iconst 0, 1) := by decide +kernel
theorem dX1_bidByValues_102 : decode cX1_bidByValues 102 = .ok (.invokevirtual 80, 3) := by decide +kernel
theorem dX1_bidByValues_105 : decode cX1_bidByValues 105 = .ok (.imul, 1) := by decide +kernel
theorem dX1_bidByValues_106 : decode cX1_bidByValues 106 = .ok (.iload 7, 2) := by decide +kernel
theorem dX1_bidByValues_108 : decode cX1_bidByValues 108 = .ok (.aload_n 0, 1) := by decide +kernel
theorem dX1_bidByValues_109 : decode cX1_bidByValues 109 = .ok (.iload_n 1, 1) := by decide +kernel
theorem dX1_bidByValues_110 : decode cX1_bidByValues 110 = .ok (.iconst 1, 1) := by decide +kernel
theorem dX1_bidByValues_111 : decode cX1_bidByValues 111 = .ok (.invokevirtual 80, 3) := by decide +kernel
theorem dX1_bidByValues_114 : decode cX1_bidByValues 114 = .ok (.imul, 1) := by decide +kernel
theorem dX1_bidByValues_115 : decode cX1_bidByValues 115 = .ok (.iadd, 1) := by decide +kernel
theorem dX1_bidByValues_116 : decode cX1_bidByValues 116 = .ok (.iload 9, 2) := by decide +kernel
theorem dX1_bidByValues_118 : decode cX1_bidByValues 118 = .ok (.aload_n 0, 1) := by decide +kernel
theorem dX1_bidByValues_119 : decode cX1_bidByValues 119 = .ok (.iload_n 1, 1) := by decide +kernel
theorem dX1_bidByValues_120 : decode cX1_bidByValues 120 = .ok (.iconst 2, 1) := by decide +kernel
theorem dX1_bidByValues_121 : decode cX1_bidByValues 121 = .ok (.invokevirtual 80, 3) := by decide +kernel
theorem dX1_bidByValues_124 : decode cX1_bidByValues 124 = .ok (.imul, 1) := by decide +kernel
theorem dX1_bidByValues_125 : decode cX1_bidByValues 125 = .ok (.iadd, 1) := by decide +kernel
theorem dX1_bidByValues_126 : decode cX1_bidByValues 126 = .ok (.istore 10, 2) := by decide +kernel
theorem dX1_bidByValues_128 : decode cX1_bidByValues 128 = .ok (.iload 10, 2) := by decide +kernel
theorem dX1_bidByValues_130 : decode cX1_bidByValues 130 = .ok (.iload 5, 2) := by decide +kernel
theorem dX1_bidByValues_132 : decode cX1_bidByValues 132 = .ok (.if_icmp .le 18, 3) := by decide +kernel
theorem dX1_bidByValues_135 : decode cX1_bidByValues 135 = .ok (.iload 10, 2) := by decide +kernel
theorem dX1_bidByValues_137 : decode cX1_bidByValues 137 = .ok (.istore 5, 2) := by decide +kernel
theorem dX1_bidByValues_139 : decode cX1_bidByValues 139 = .ok (.aload_n 0, 1) := by decide +kernel
theorem dX1_bidByValues_140 : decode cX1_bidByValues 140 = .ok (.iload_n 1, 1) := by decide +kernel
theorem dX1_bidByValues_141 : decode cX1_bidByValues 141 = .ok (.iload 6, 2) := by decide +kernel
theorem dX1_bidByValues_143 : decode cX1_bidByValues 143 = .ok (.iload 7, 2) := by decide +kernel
theorem dX1_bidByValues_145 : decode cX1_bidByValues 145 = .ok (.iload 9, 2) := by decide +kernel
theorem dX1_bidByValues_147 : decode cX1_bidByValues 147 = .ok (.invokevirtual 114, 3) := by decide +kernel
theorem dX1_bidByValues_150 : decode cX1_bidByValues 150 = .ok (.iinc 7 1, 3) := by decide +kernel
theorem dX1_bidByValues_153 : decode cX1_bidByValues 153 = .ok (.goto (-116), 3) := by decide +kernel
theorem dX1_bidByValues_156 : decode cX1_bidByValues 156 = .ok (.iinc 6 1, 3) := by decide +kernel
theorem dX1_bidByValues_159 : decode cX1_bidByValues 159 = .ok (.goto (-131), 3) := by decide +kernel
theorem dX1_bidByValues_162 : decode cX1_bidByValues 162 = .ok (.return_, 1) := by decide +kernel
theorem dX1_mostWanted_0 : decode cX1_mostWanted 0 = .ok (.aload_n 0, 1) := by decide +kernel
theorem dX1_mostWanted_1 : decode cX1_mostWanted 1 = .ok (.getfield 30, 3) := by decide +kernel
theorem dX1_mostWanted_4 : decode cX1_mostWanted 4 = .ok (.iload_n 1, 1) := by decide +kernel
theorem dX1_mostWanted_5 : decode cX1_mostWanted 5 = .ok (.iload_n 2, 1) := by decide +kernel
theorem dX1_mostWanted_6 : decode cX1_mostWanted 6 = .ok (.invokestatic 72, 3) := by decide +kernel
theorem dX1_mostWanted_9 : decode cX1_mostWanted 9 = .ok (.iaload, 1) := by decide +kernel
theorem dX1_mostWanted_10 : decode cX1_mostWanted 10 = .ok (.aload_n 0, 1) := by decide +kernel
theorem dX1_mostWanted_11 : decode cX1_mostWanted 11 = .ok (.getfield 18, 3) := by decide +kernel
theorem dX1_mostWanted_14 : decode cX1_mostWanted 14 = .ok (.iload_n 2, 1) := by decide +kernel
theorem dX1_mostWanted_15 : decode cX1_mostWanted 15 = .ok (.iaload, 1) := by decide +kernel
theorem dX1_mostWanted_16 : decode cX1_mostWanted 16 = .ok (.if_icmp .le 12, 3) := by decide +kernel
theorem dX1_mostWanted_19 : decode cX1_mostWanted 19 = .ok (.aload_n 0, 1) := by decide +kernel
theorem dX1_mostWanted_20 : decode cX1_mostWanted 20 = .ok (.iload_n 1, 1) := by decide +kernel
theorem dX1_mostWanted_21 : decode cX1_mostWanted 21 = .ok (.iload_n 2, 1) := by decide +kernel
theorem dX1_mostWanted_22 : decode cX1_mostWanted 22 = .ok (.invokevirtual 103, 3) := by decide +kernel
theorem dX1_mostWanted_25 : decode cX1_mostWanted 25 = .ok (.goto 4, 3) := by decide +kernel
theorem dX1_mostWanted_28 : decode cX1_mostWanted 28 = .ok (.iconst 0, 1) := by decide +kernel
theorem dX1_mostWanted_29 : decode cX1_mostWanted 29 = .ok (.ireturn, 1) := by decide +kernel
theorem dX1_changeDemands_0 : decode cX1_changeDemands 0 = .ok (.aload_n 0, 1) := by decide +kernel
theorem dX1_changeDemands_1 : decode cX1_changeDemands 1 = .ok (.getfield 33, 3) := by decide +kernel
theorem dX1_changeDemands_4 : decode cX1_changeDemands 4 = .ok (.iload_n 1, 1) := by decide +kernel
theorem dX1_changeDemands_5 : decode cX1_changeDemands 5 = .ok (.iconst 0, 1) := by decide +kernel
theorem dX1_changeDemands_6 : decode cX1_changeDemands 6 = .ok (.invokestatic 72, 3) := by decide +kernel
theorem dX1_changeDemands_9 : decode cX1_changeDemands 9 = .ok (.iload_n 2, 1) := by decide +kernel
theorem dX1_changeDemands_10 : decode cX1_changeDemands 10 = .ok (.iastore, 1) := by decide +kernel
theorem dX1_changeDemands_11 : decode cX1_changeDemands 11 = .ok (.aload_n 0, 1) := by decide +kernel
theorem dX1_changeDemands_12 : decode cX1_changeDemands 12 = .ok (.getfield 33, 3) := by decide +kernel
theorem dX1_changeDemands_15 : decode cX1_changeDemands 15 = .ok (.iload_n 1, 1) := by decide +kernel
theorem dX1_changeDemands_16 : decode cX1_changeDemands 16 = .ok (.iconst 1, 1) := by decide +kernel
theorem dX1_changeDemands_17 : decode cX1_changeDemands 17 = .ok (.invokestatic 72, 3) := by decide +kernel
theorem dX1_changeDemands_20 : decode cX1_changeDemands 20 = .ok (.iload_n 3, 1) := by decide +kernel
theorem dX1_changeDemands_21 : decode cX1_changeDemands 21 = .ok (.iastore, 1) := by decide +kernel
theorem dX1_changeDemands_22 : decode cX1_changeDemands 22 = .ok (.aload_n 0, 1) := by decide +kernel
theorem dX1_changeDemands_23 : decode cX1_changeDemands 23 = .ok (.getfield 33, 3) := by decide +kernel
theorem dX1_changeDemands_26 : decode cX1_changeDemands 26 = .ok (.iload_n 1, 1) := by decide +kernel
theorem dX1_changeDemands_27 : decode cX1_changeDemands 27 = .ok (.iconst 2, 1) := by decide +kernel
theorem dX1_changeDemands_28 : decode cX1_changeDemands 28 = .ok (.invokestatic 72, 3) := by decide +kernel
theorem dX1_changeDemands_31 : decode cX1_changeDemands 31 = .ok (.iload 4, 2) := by decide +kernel
theorem dX1_changeDemands_33 : decode cX1_changeDemands 33 = .ok (.iastore, 1) := by decide +kernel
theorem dX1_changeDemands_34 : decode cX1_changeDemands 34 = .ok (.return_, 1) := by decide +kernel
theorem dX1_closeRound_0 : decode cX1_closeRound 0 = .ok (.iconst 0, 1) := by decide +kernel
theorem dX1_closeRound_1 : decode cX1_closeRound 1 = .ok (.istore_n 1, 1) := by decide +kernel
theorem dX1_closeRound_2 : decode cX1_closeRound 2 = .ok (.iload_n 1, 1) := by decide +kernel
theorem dX1_closeRound_3 : decode cX1_closeRound 3 = .ok (.aload_n 0, 1) := by decide +kernel
theorem dX1_closeRound_4 : decode cX1_closeRound 4 = .ok (.getfield 45, 3) := by decide +kernel
theorem dX1_closeRound_7 : decode cX1_closeRound 7 = .ok (.if_icmp .ge 39, 3) := by decide +kernel
theorem dX1_closeRound_10 : decode cX1_closeRound 10 = .ok (.aload_n 0, 1) := by decide +kernel
theorem dX1_closeRound_11 : decode cX1_closeRound 11 = .ok (.getfield 21, 3) := by decide +kernel
theorem dX1_closeRound_14 : decode cX1_closeRound 14 = .ok (.iload_n 1, 1) := by decide +kernel
theorem dX1_closeRound_15 : decode cX1_closeRound 15 = .ok (.aload_n 0, 1) := by decide +kernel
theorem dX1_closeRound_16 : decode cX1_closeRound 16 = .ok (.getfield 21, 3) := by decide +kernel
theorem dX1_closeRound_19 : decode cX1_closeRound 19 = .ok (.iload_n 1, 1) := by decide +kernel
theorem dX1_closeRound_20 : decode cX1_closeRound 20 = .ok (.iaload, 1) := by decide +kernel
theorem dX1_closeRound_21 : decode cX1_closeRound 21 = .ok (.aload_n 0, 1) := by decide +kernel
theorem dX1_closeRound_22 : decode cX1_closeRound 22 = .ok (.iload_n 1, 1) := by decide +kernel
theorem dX1_closeRound_23 : decode cX1_closeRound 23 = .ok (.invokevirtual 106, 3) := by decide +kernel
theorem dX1_closeRound_26 : decode cX1_closeRound 26 = .ok (.bipush 100, 2) := by decide +kernel
theorem dX1_closeRound_28 : decode cX1_closeRound 28 = .ok (.imul, 1) := by decide +kernel
theorem dX1_closeRound_29 : decode cX1_closeRound 29 = .ok (.aload_n 0, 1) := by decide +kernel
theorem dX1_closeRound_30 : decode cX1_closeRound 30 = .ok (.getfield 56, 3) := by decide +kernel
theorem dX1_closeRound_33 : decode cX1_closeRound 33 = .ok (.invokestatic 121, 3) := by decide +kernel
theorem dX1_closeRound_36 : decode cX1_closeRound 36 = .ok (.invokestatic 83, 3) := by decide +kernel
theorem dX1_closeRound_39 : decode cX1_closeRound 39 = .ok (.iastore, 1) := by decide +kernel
theorem dX1_closeRound_40 : decode cX1_closeRound 40 = .ok (.iinc 1 1, 3) := by decide +kernel
theorem dX1_closeRound_43 : decode cX1_closeRound 43 = .ok (.goto (-41), 3) := by decide +kernel
theorem dX1_closeRound_46 : decode cX1_closeRound 46 = .ok (.iconst 0, 1) := by decide +kernel
theorem dX1_closeRound_47 : decode cX1_closeRound 47 = .ok (.istore_n 1, 1) := by decide +kernel
theorem dX1_closeRound_48 : decode cX1_closeRound 48 = .ok (.iconst 0, 1) := by decide +kernel
theorem dX1_closeRound_49 : decode cX1_closeRound 49 = .ok (.istore_n 2, 1) := by decide +kernel
theorem dX1_closeRound_50 : decode cX1_closeRound 50 = .ok (.iload_n 2, 1) := by decide +kernel
theorem dX1_closeRound_51 : decode cX1_closeRound 51 = .ok (.iconst 3, 1) := by decide +kernel
theorem dX1_closeRound_52 : decode cX1_closeRound 52 = .ok (.if_icmp .ge 31, 3) := by decide +kernel
theorem dX1_closeRound_55 : decode cX1_closeRound 55 = .ok (.aload_n 0, 1) := by decide +kernel
theorem dX1_closeRound_56 : decode cX1_closeRound 56 = .ok (.iload_n 2, 1) := by decide +kernel
theorem dX1_closeRound_57 : decode cX1_closeRound 57 = .ok (.invokevirtual 76, 3) := by decide +kernel
theorem dX1_closeRound_60 : decode cX1_closeRound 60 = .ok (.aload_n 0, 1) := by decide +kernel
theorem dX1_closeRound_61 : decode cX1_closeRound 61 = .ok (.getfield 9, 3) := by decide +kernel
theorem dX1_closeRound_64 : decode cX1_closeRound 64 = .ok (.iload_n 2, 1) := by decide +kernel
theorem dX1_closeRound_65 : decode cX1_closeRound 65 = .ok (.iaload, 1) := by decide +kernel
theorem dX1_closeRound_66 : decode cX1_closeRound 66 = .ok (.if_icmp .le 11, 3) := by decide +kernel
theorem dX1_closeRound_69 : decode cX1_closeRound 69 = .ok (.iinc 1 1, 3) := by decide +kernel
theorem dX1_closeRound_72 : decode cX1_closeRound 72 = .ok (.aload_n 0, 1) := by decide +kernel
theorem dX1_closeRound_73 : decode cX1_closeRound 73 = .ok (.iload_n 2, 1) := by decide +kernel
theorem dX1_closeRound_74 : decode cX1_closeRound 74 = .ok (.invokevirtual 124, 3) := by decide +kernel
theorem dX1_closeRound_77 : decode cX1_closeRound 77 = .ok (.iinc 2 1, 3) := by decide +kernel
theorem dX1_closeRound_80 : decode cX1_closeRound 80 = .ok (.goto (-30), 3) := by decide +kernel
theorem dX1_closeRound_83 : decode cX1_closeRound 83 = .ok (.aload_n 0, 1) := by decide +kernel
theorem dX1_closeRound_84 : decode cX1_closeRound 84 = .ok (.dup, 1) := by decide +kernel
theorem dX1_closeRound_85 : decode cX1_closeRound 85 = .ok (.getfield 49, 3) := by decide +kernel
theorem dX1_closeRound_88 : decode cX1_closeRound 88 = .ok (.iconst 1, 1) := by decide +kernel
theorem dX1_closeRound_89 : decode cX1_closeRound 89 = .ok (.iadd, 1) := by decide +kernel
theorem dX1_closeRound_90 : decode cX1_closeRound 90 = .ok (.putfield 49, 3) := by decide +kernel
theorem dX1_closeRound_93 : decode cX1_closeRound 93 = .ok (.aload_n 0, 1) := by decide +kernel
theorem dX1_closeRound_94 : decode cX1_closeRound 94 = .ok (.iload_n 1, 1) := by decide +kernel
theorem dX1_closeRound_95 : decode cX1_closeRound 95 = .ok (.ifCond .ne 7, 3) := by decide +kernel
theorem dX1_closeRound_98 : decode cX1_closeRound 98 = .ok (.iconst 1, 1) := by decide +kernel
theorem dX1_closeRound_99 : decode cX1_closeRound 99 = .ok (.goto 4, 3) := by decide +kernel
theorem dX1_closeRound_102 : decode cX1_closeRound 102 = .ok (.iconst 0, 1) := by decide +kernel
theorem dX1_closeRound_103 : decode cX1_closeRound 103 = .ok (.putfield 52, 3) := by decide +kernel
theorem dX1_closeRound_106 : decode cX1_closeRound 106 = .ok (.iload_n 1, 1) := by decide +kernel
theorem dX1_closeRound_107 : decode cX1_closeRound 107 = .ok (.ireturn, 1) := by decide +kernel
theorem dX1_raisePrice_0 : decode cX1_raisePrice 0 = .ok (.iconst 1, 1) := by decide +kernel
theorem dX1_raisePrice_1 : decode cX1_raisePrice 1 = .ok (.aload_n 0, 1) := by decide +kernel
theorem dX1_raisePrice_2 : decode cX1_raisePrice 2 = .ok (.getfield 18, 3) := by decide +kernel
theorem dX1_raisePrice_5 : decode cX1_raisePrice 5 = .ok (.iload_n 1, 1) := by decide +kernel
theorem dX1_raisePrice_6 : decode cX1_raisePrice 6 = .ok (.iaload, 1) := by decide +kernel
theorem dX1_raisePrice_7 : decode cX1_raisePrice 7 = .ok (.aload_n 0, 1) := by decide +kernel
theorem dX1_raisePrice_8 : decode cX1_raisePrice 8 = .ok (.getfield 59, 3) := by decide +kernel
theorem dX1_raisePrice_11 : decode cX1_raisePrice 11 = .ok (.imul, 1) := by decide +kernel
theorem dX1_raisePrice_12 : decode cX1_raisePrice 12 = .ok (.bipush 100, 2) := by decide +kernel
theorem dX1_raisePrice_14 : decode cX1_raisePrice 14 = .ok (.idiv, 1) := by decide +kernel
theorem dX1_raisePrice_15 : decode cX1_raisePrice 15 = .ok (.invokestatic 128, 3) := by decide +kernel
theorem dX1_raisePrice_18 : decode cX1_raisePrice 18 = .ok (.istore_n 2, 1) := by decide +kernel
theorem dX1_raisePrice_19 : decode cX1_raisePrice 19 = .ok (.aload_n 0, 1) := by decide +kernel
theorem dX1_raisePrice_20 : decode cX1_raisePrice 20 = .ok (.getfield 18, 3) := by decide +kernel
theorem dX1_raisePrice_23 : decode cX1_raisePrice 23 = .ok (.iload_n 1, 1) := by decide +kernel
theorem dX1_raisePrice_24 : decode cX1_raisePrice 24 = .ok (.ldc 99, 2) := by decide +kernel
theorem dX1_raisePrice_26 : decode cX1_raisePrice 26 = .ok (.aload_n 0, 1) := by decide +kernel
theorem dX1_raisePrice_27 : decode cX1_raisePrice 27 = .ok (.getfield 18, 3) := by decide +kernel
theorem dX1_raisePrice_30 : decode cX1_raisePrice 30 = .ok (.iload_n 1, 1) := by decide +kernel
theorem dX1_raisePrice_31 : decode cX1_raisePrice 31 = .ok (.iaload, 1) := by decide +kernel
theorem dX1_raisePrice_32 : decode cX1_raisePrice 32 = .ok (.iload_n 2, 1) := by decide +kernel
theorem dX1_raisePrice_33 : decode cX1_raisePrice 33 = .ok (.iadd, 1) := by decide +kernel
theorem dX1_raisePrice_34 : decode cX1_raisePrice 34 = .ok (.invokestatic 83, 3) := by decide +kernel
theorem dX1_raisePrice_37 : decode cX1_raisePrice 37 = .ok (.iastore, 1) := by decide +kernel
theorem dX1_raisePrice_38 : decode cX1_raisePrice 38 = .ok (.return_, 1) := by decide +kernel
theorem dX1_addPack_0 : decode cX1_addPack 0 = .ok (.aload_n 0, 1) := by decide +kernel
theorem dX1_addPack_1 : decode cX1_addPack 1 = .ok (.getfield 27, 3) := by decide +kernel
theorem dX1_addPack_4 : decode cX1_addPack 4 = .ok (.iload_n 1, 1) := by decide +kernel
theorem dX1_addPack_5 : decode cX1_addPack 5 = .ok (.dup2, 1) := by decide +kernel
theorem dX1_addPack_6 : decode cX1_addPack 6 = .ok (.iaload, 1) := by decide +kernel
theorem dX1_addPack_7 : decode cX1_addPack 7 = .ok (.iconst 1, 1) := by decide +kernel
theorem dX1_addPack_8 : decode cX1_addPack 8 = .ok (.iadd, 1) := by decide +kernel
theorem dX1_addPack_9 : decode cX1_addPack 9 = .ok (.iastore, 1) := by decide +kernel
theorem dX1_addPack_10 : decode cX1_addPack 10 = .ok (.iload_n 1, 1) := by decide +kernel
theorem dX1_addPack_11 : decode cX1_addPack 11 = .ok (.aload_n 0, 1) := by decide +kernel
theorem dX1_addPack_12 : decode cX1_addPack 12 = .ok (.getfield 27, 3) := by decide +kernel
theorem dX1_addPack_15 : decode cX1_addPack 15 = .ok (.iload_n 1, 1) := by decide +kernel
theorem dX1_addPack_16 : decode cX1_addPack 16 = .ok (.iaload, 1) := by decide +kernel
theorem dX1_addPack_17 : decode cX1_addPack 17 = .ok (.invokestatic 88, 3) := by decide +kernel
theorem dX1_addPack_20 : decode cX1_addPack 20 = .ok (.istore 6, 2) := by decide +kernel
theorem dX1_addPack_22 : decode cX1_addPack 22 = .ok (.aload_n 0, 1) := by decide +kernel
theorem dX1_addPack_23 : decode cX1_addPack 23 = .ok (.getfield 36, 3) := by decide +kernel
theorem dX1_addPack_26 : decode cX1_addPack 26 = .ok (.iload 6, 2) := by decide +kernel
theorem dX1_addPack_28 : decode cX1_addPack 28 = .ok (.iconst 0, 1) := by decide +kernel
theorem dX1_addPack_29 : decode cX1_addPack 29 = .ok (.invokestatic 72, 3) := by decide +kernel
theorem dX1_addPack_32 : decode cX1_addPack 32 = .ok (.iload_n 2, 1) := by decide +kernel
theorem dX1_addPack_33 : decode cX1_addPack 33 = .ok (.iastore, 1) := by decide +kernel
theorem dX1_addPack_34 : decode cX1_addPack 34 = .ok (.aload_n 0, 1) := by decide +kernel
theorem dX1_addPack_35 : decode cX1_addPack 35 = .ok (.getfield 36, 3) := by decide +kernel
theorem dX1_addPack_38 : decode cX1_addPack 38 = .ok (.iload 6, 2) := by decide +kernel
theorem dX1_addPack_40 : decode cX1_addPack 40 = .ok (.iconst 1, 1) := by decide +kernel
theorem dX1_addPack_41 : decode cX1_addPack 41 = .ok (.invokestatic 72, 3) := by decide +kernel
theorem dX1_addPack_44 : decode cX1_addPack 44 = .ok (.iload_n 3, 1) := by decide +kernel
theorem dX1_addPack_45 : decode cX1_addPack 45 = .ok (.iastore, 1) := by decide +kernel
theorem dX1_addPack_46 : decode cX1_addPack 46 = .ok (.aload_n 0, 1) := by decide +kernel
theorem dX1_addPack_47 : decode cX1_addPack 47 = .ok (.getfield 36, 3) := by decide +kernel
theorem dX1_addPack_50 : decode cX1_addPack 50 = .ok (.iload 6, 2) := by decide +kernel
theorem dX1_addPack_52 : decode cX1_addPack 52 = .ok (.iconst 2, 1) := by decide +kernel
theorem dX1_addPack_53 : decode cX1_addPack 53 = .ok (.invokestatic 72, 3) := by decide +kernel
theorem dX1_addPack_56 : decode cX1_addPack 56 = .ok (.iload 4, 2) := by decide +kernel
theorem dX1_addPack_58 : decode cX1_addPack 58 = .ok (.iastore, 1) := by decide +kernel
theorem dX1_addPack_59 : decode cX1_addPack 59 = .ok (.aload_n 0, 1) := by decide +kernel
theorem dX1_addPack_60 : decode cX1_addPack 60 = .ok (.getfield 39, 3) := by decide +kernel
theorem dX1_addPack_63 : decode cX1_addPack 63 = .ok (.iload 6, 2) := by decide +kernel
theorem dX1_addPack_65 : decode cX1_addPack 65 = .ok (.iload 5, 2) := by decide +kernel
theorem dX1_addPack_67 : decode cX1_addPack 67 = .ok (.iastore, 1) := by decide +kernel
theorem dX1_addPack_68 : decode cX1_addPack 68 = .ok (.return_, 1) := by decide +kernel
theorem dX1_dropPack_0 : decode cX1_dropPack 0 = .ok (.iload_n 2, 1) := by decide +kernel
theorem dX1_dropPack_1 : decode cX1_dropPack 1 = .ok (.iconst 1, 1) := by decide +kernel
theorem dX1_dropPack_2 : decode cX1_dropPack 2 = .ok (.iadd, 1) := by decide +kernel
theorem dX1_dropPack_3 : decode cX1_dropPack 3 = .ok (.istore_n 3, 1) := by decide +kernel
theorem dX1_dropPack_4 : decode cX1_dropPack 4 = .ok (.iload_n 3, 1) := by decide +kernel
theorem dX1_dropPack_5 : decode cX1_dropPack 5 = .ok (.aload_n 0, 1) := by decide +kernel
theorem dX1_dropPack_6 : decode cX1_dropPack 6 = .ok (.getfield 27, 3) := by decide +kernel
theorem dX1_dropPack_9 : decode cX1_dropPack 9 = .ok (.iload_n 1, 1) := by decide +kernel
theorem dX1_dropPack_10 : decode cX1_dropPack 10 = .ok (.iaload, 1) := by decide +kernel
theorem dX1_dropPack_11 : decode cX1_dropPack 11 = .ok (.if_icmp .gt 73, 3) := by decide +kernel
theorem dX1_dropPack_14 : decode cX1_dropPack 14 = .ok (.iload_n 1, 1) := by decide +kernel
theorem dX1_dropPack_15 : decode cX1_dropPack 15 = .ok (.iload_n 3, 1) := by decide +kernel
theorem dX1_dropPack_16 : decode cX1_dropPack 16 = .ok (.invokestatic 88, 3) := by decide +kernel
theorem dX1_dropPack_19 : decode cX1_dropPack 19 = .ok (.istore 4, 2) := by decide +kernel
theorem dX1_dropPack_21 : decode cX1_dropPack 21 = .ok (.aload_n 0, 1) := by decide +kernel
theorem dX1_dropPack_22 : decode cX1_dropPack 22 = .ok (.getfield 39, 3) := by decide +kernel
theorem dX1_dropPack_25 : decode cX1_dropPack 25 = .ok (.iload 4, 2) := by decide +kernel
theorem dX1_dropPack_27 : decode cX1_dropPack 27 = .ok (.iconst 1, 1) := by decide +kernel
theorem dX1_dropPack_28 : decode cX1_dropPack 28 = .ok (.isub, 1) := by decide +kernel
theorem dX1_dropPack_29 : decode cX1_dropPack 29 = .ok (.aload_n 0, 1) := by decide +kernel
theorem dX1_dropPack_30 : decode cX1_dropPack 30 = .ok (.getfield 39, 3) := by decide +kernel
theorem dX1_dropPack_33 : decode cX1_dropPack 33 = .ok (.iload 4, 2) := by decide +kernel
theorem dX1_dropPack_35 : decode cX1_dropPack 35 = .ok (.iaload, 1) := by decide +kernel
theorem dX1_dropPack_36 : decode cX1_dropPack 36 = .ok (.iastore, 1) := by decide +kernel
theorem dX1_dropPack_37 : decode cX1_dropPack 37 = .ok (.iconst 0, 1) := by decide +kernel
theorem dX1_dropPack_38 : decode cX1_dropPack 38 = .ok (.istore 5, 2) := by decide +kernel
theorem dX1_dropPack_40 : decode cX1_dropPack 40 = .ok (.iload 5, 2) := by decide +kernel
theorem dX1_dropPack_42 : decode cX1_dropPack 42 = .ok (.iconst 3, 1) := by decide +kernel
theorem dX1_dropPack_43 : decode cX1_dropPack 43 = .ok (.if_icmp .ge 35, 3) := by decide +kernel
theorem dX1_dropPack_46 : decode cX1_dropPack 46 = .ok (.aload_n 0, 1) := by decide +kernel
theorem dX1_dropPack_47 : decode cX1_dropPack 47 = .ok (.getfield 36, 3) := by decide +kernel
theorem dX1_dropPack_50 : decode cX1_dropPack 50 = .ok (.iload 4, 2) := by decide +kernel
theorem dX1_dropPack_52 : decode cX1_dropPack 52 = .ok (.iconst 1, 1) := by decide +kernel
theorem dX1_dropPack_53 : decode cX1_dropPack 53 = .ok (.isub, 1) := by decide +kernel
theorem dX1_dropPack_54 : decode cX1_dropPack 54 = .ok (.iload 5, 2) := by decide +kernel
theorem dX1_dropPack_56 : decode cX1_dropPack 56 = .ok (.invokestatic 72, 3) := by decide +kernel
theorem dX1_dropPack_59 : decode cX1_dropPack 59 = .ok (.aload_n 0, 1) := by decide +kernel
theorem dX1_dropPack_60 : decode cX1_dropPack 60 = .ok (.getfield 36, 3) := by decide +kernel
theorem dX1_dropPack_63 : decode cX1_dropPack 63 = .ok (.iload 4, 2) := by decide +kernel
theorem dX1_dropPack_65 : decode cX1_dropPack 65 = .ok (.iload 5, 2) := by decide +kernel
theorem dX1_dropPack_67 : decode cX1_dropPack 67 = .ok (.invokestatic 72, 3) := by decide +kernel
theorem dX1_dropPack_70 : decode cX1_dropPack 70 = .ok (.iaload, 1) := by decide +kernel
theorem dX1_dropPack_71 : decode cX1_dropPack 71 = .ok (.iastore, 1) := by decide +kernel
theorem dX1_dropPack_72 : decode cX1_dropPack 72 = .ok (.iinc 5 1, 3) := by decide +kernel
theorem dX1_dropPack_75 : decode cX1_dropPack 75 = .ok (.goto (-35), 3) := by decide +kernel
theorem dX1_dropPack_78 : decode cX1_dropPack 78 = .ok (.iinc 3 1, 3) := by decide +kernel
theorem dX1_dropPack_81 : decode cX1_dropPack 81 = .ok (.goto (-77), 3) := by decide +kernel
theorem dX1_dropPack_84 : decode cX1_dropPack 84 = .ok (.aload_n 0, 1) := by decide +kernel
theorem dX1_dropPack_85 : decode cX1_dropPack 85 = .ok (.getfield 27, 3) := by decide +kernel
theorem dX1_dropPack_88 : decode cX1_dropPack 88 = .ok (.iload_n 1, 1) := by decide +kernel
theorem dX1_dropPack_89 : decode cX1_dropPack 89 = .ok (.dup2, 1) := by decide +kernel
theorem dX1_dropPack_90 : decode cX1_dropPack 90 = .ok (.iaload, 1) := by decide +kernel
theorem dX1_dropPack_91 : decode cX1_dropPack 91 = .ok (.iconst 1, 1) := by decide +kernel
theorem dX1_dropPack_92 : decode cX1_dropPack 92 = .ok (.isub, 1) := by decide +kernel
theorem dX1_dropPack_93 : decode cX1_dropPack 93 = .ok (.iastore, 1) := by decide +kernel
theorem dX1_dropPack_94 : decode cX1_dropPack 94 = .ok (.return_, 1) := by decide +kernel
theorem dX1_tryOffer_0 : decode cX1_tryOffer 0 = .ok (.aload_n 0, 1) := by decide +kernel
theorem dX1_tryOffer_1 : decode cX1_tryOffer 1 = .ok (.iload_n 1, 1) := by decide +kernel
theorem dX1_tryOffer_2 : decode cX1_tryOffer 2 = .ok (.iload_n 2, 1) := by decide +kernel
theorem dX1_tryOffer_3 : decode cX1_tryOffer 3 = .ok (.iload_n 3, 1) := by decide +kernel
theorem dX1_tryOffer_4 : decode cX1_tryOffer 4 = .ok (.invokevirtual 131, 3) := by decide +kernel
theorem dX1_tryOffer_7 : decode cX1_tryOffer 7 = .ok (.ifCond .eq 5, 3) := by decide +kernel
theorem dX1_tryOffer_10 : decode cX1_tryOffer 10 = .ok (.iconst 0, 1) := by decide +kernel
theorem dX1_tryOffer_11 : decode cX1_tryOffer 11 = .ok (.ireturn, 1) := by decide +kernel
theorem dX1_tryOffer_12 : decode cX1_tryOffer 12 = .ok (.aload_n 0, 1) := by decide +kernel
theorem dX1_tryOffer_13 : decode cX1_tryOffer 13 = .ok (.iload_n 1, 1) := by decide +kernel
theorem dX1_tryOffer_14 : decode cX1_tryOffer 14 = .ok (.iload_n 2, 1) := by decide +kernel
theorem dX1_tryOffer_15 : decode cX1_tryOffer 15 = .ok (.iload_n 3, 1) := by decide +kernel
theorem dX1_tryOffer_16 : decode cX1_tryOffer 16 = .ok (.invokevirtual 134, 3) := by decide +kernel
theorem dX1_tryOffer_19 : decode cX1_tryOffer 19 = .ok (.iconst 1, 1) := by decide +kernel
theorem dX1_tryOffer_20 : decode cX1_tryOffer 20 = .ok (.ireturn, 1) := by decide +kernel
theorem dX1_tryJoin_0 : decode cX1_tryJoin 0 = .ok (.aload_n 0, 1) := by decide +kernel
theorem dX1_tryJoin_1 : decode cX1_tryJoin 1 = .ok (.iload_n 1, 1) := by decide +kernel
theorem dX1_tryJoin_2 : decode cX1_tryJoin 2 = .ok (.iload_n 2, 1) := by decide +kernel
theorem dX1_tryJoin_3 : decode cX1_tryJoin 3 = .ok (.invokevirtual 138, 3) := by decide +kernel
theorem dX1_tryJoin_6 : decode cX1_tryJoin 6 = .ok (.ifCond .eq 5, 3) := by decide +kernel
theorem dX1_tryJoin_9 : decode cX1_tryJoin 9 = .ok (.iconst 0, 1) := by decide +kernel
theorem dX1_tryJoin_10 : decode cX1_tryJoin 10 = .ok (.ireturn, 1) := by decide +kernel
theorem dX1_tryJoin_11 : decode cX1_tryJoin 11 = .ok (.aload_n 0, 1) := by decide +kernel
theorem dX1_tryJoin_12 : decode cX1_tryJoin 12 = .ok (.iload_n 1, 1) := by decide +kernel
theorem dX1_tryJoin_13 : decode cX1_tryJoin 13 = .ok (.iload_n 2, 1) := by decide +kernel
theorem dX1_tryJoin_14 : decode cX1_tryJoin 14 = .ok (.invokevirtual 141, 3) := by decide +kernel
theorem dX1_tryJoin_17 : decode cX1_tryJoin 17 = .ok (.iconst 1, 1) := by decide +kernel
theorem dX1_tryJoin_18 : decode cX1_tryJoin 18 = .ok (.ireturn, 1) := by decide +kernel
theorem dX1_tryValue_0 : decode cX1_tryValue 0 = .ok (.aload_n 0, 1) := by decide +kernel
theorem dX1_tryValue_1 : decode cX1_tryValue 1 = .ok (.iload_n 1, 1) := by decide +kernel
theorem dX1_tryValue_2 : decode cX1_tryValue 2 = .ok (.iload_n 2, 1) := by decide +kernel
theorem dX1_tryValue_3 : decode cX1_tryValue 3 = .ok (.iload_n 3, 1) := by decide +kernel
theorem dX1_tryValue_4 : decode cX1_tryValue 4 = .ok (.invokevirtual 145, 3) := by decide +kernel
theorem dX1_tryValue_7 : decode cX1_tryValue 7 = .ok (.ifCond .eq 5, 3) := by decide +kernel
theorem dX1_tryValue_10 : decode cX1_tryValue 10 = .ok (.iconst 0, 1) := by decide +kernel
theorem dX1_tryValue_11 : decode cX1_tryValue 11 = .ok (.ireturn, 1) := by decide +kernel
theorem dX1_tryValue_12 : decode cX1_tryValue 12 = .ok (.aload_n 0, 1) := by decide +kernel
theorem dX1_tryValue_13 : decode cX1_tryValue 13 = .ok (.getfield 30, 3) := by decide +kernel
theorem dX1_tryValue_16 : decode cX1_tryValue 16 = .ok (.iload_n 1, 1) := by decide +kernel
theorem dX1_tryValue_17 : decode cX1_tryValue 17 = .ok (.iload_n 2, 1) := by decide +kernel
theorem dX1_tryValue_18 : decode cX1_tryValue 18 = .ok (.invokestatic 72, 3) := by decide +kernel
theorem dX1_tryValue_21 : decode cX1_tryValue 21 = .ok (.iload_n 3, 1) := by decide +kernel
theorem dX1_tryValue_22 : decode cX1_tryValue 22 = .ok (.iastore, 1) := by decide +kernel
theorem dX1_tryValue_23 : decode cX1_tryValue 23 = .ok (.iconst 1, 1) := by decide +kernel
theorem dX1_tryValue_24 : decode cX1_tryValue 24 = .ok (.ireturn, 1) := by decide +kernel
theorem dX1_tryAsk_0 : decode cX1_tryAsk 0 = .ok (.aload_n 0, 1) := by decide +kernel
theorem dX1_tryAsk_1 : decode cX1_tryAsk 1 = .ok (.iload_n 1, 1) := by decide +kernel
theorem dX1_tryAsk_2 : decode cX1_tryAsk 2 = .ok (.iload_n 2, 1) := by decide +kernel
theorem dX1_tryAsk_3 : decode cX1_tryAsk 3 = .ok (.iload_n 3, 1) := by decide +kernel
theorem dX1_tryAsk_4 : decode cX1_tryAsk 4 = .ok (.invokevirtual 148, 3) := by decide +kernel
theorem dX1_tryAsk_7 : decode cX1_tryAsk 7 = .ok (.ifCond .eq 5, 3) := by decide +kernel
theorem dX1_tryAsk_10 : decode cX1_tryAsk 10 = .ok (.iconst 0, 1) := by decide +kernel
theorem dX1_tryAsk_11 : decode cX1_tryAsk 11 = .ok (.ireturn, 1) := by decide +kernel
theorem dX1_tryAsk_12 : decode cX1_tryAsk 12 = .ok (.aload_n 0, 1) := by decide +kernel
theorem dX1_tryAsk_13 : decode cX1_tryAsk 13 = .ok (.getfield 33, 3) := by decide +kernel
theorem dX1_tryAsk_16 : decode cX1_tryAsk 16 = .ok (.iload_n 1, 1) := by decide +kernel
theorem dX1_tryAsk_17 : decode cX1_tryAsk 17 = .ok (.iload_n 2, 1) := by decide +kernel
theorem dX1_tryAsk_18 : decode cX1_tryAsk 18 = .ok (.invokestatic 72, 3) := by decide +kernel
theorem dX1_tryAsk_21 : decode cX1_tryAsk 21 = .ok (.iload_n 3, 1) := by decide +kernel
theorem dX1_tryAsk_22 : decode cX1_tryAsk 22 = .ok (.iastore, 1) := by decide +kernel
theorem dX1_tryAsk_23 : decode cX1_tryAsk 23 = .ok (.iconst 1, 1) := by decide +kernel
theorem dX1_tryAsk_24 : decode cX1_tryAsk 24 = .ok (.ireturn, 1) := by decide +kernel
theorem dX1_tryBid_0 : decode cX1_tryBid 0 = .ok (.aload_n 0, 1) := by decide +kernel
theorem dX1_tryBid_1 : decode cX1_tryBid 1 = .ok (.iload_n 1, 1) := by decide +kernel
theorem dX1_tryBid_2 : decode cX1_tryBid 2 = .ok (.invokevirtual 151, 3) := by decide +kernel
theorem dX1_tryBid_5 : decode cX1_tryBid 5 = .ok (.ifCond .eq 5, 3) := by decide +kernel
theorem dX1_tryBid_8 : decode cX1_tryBid 8 = .ok (.iconst 0, 1) := by decide +kernel
theorem dX1_tryBid_9 : decode cX1_tryBid 9 = .ok (.ireturn, 1) := by decide +kernel
theorem dX1_tryBid_10 : decode cX1_tryBid 10 = .ok (.aload_n 0, 1) := by decide +kernel
theorem dX1_tryBid_11 : decode cX1_tryBid 11 = .ok (.iload_n 1, 1) := by decide +kernel
theorem dX1_tryBid_12 : decode cX1_tryBid 12 = .ok (.invokevirtual 154, 3) := by decide +kernel
theorem dX1_tryBid_15 : decode cX1_tryBid 15 = .ok (.iconst 1, 1) := by decide +kernel
theorem dX1_tryBid_16 : decode cX1_tryBid 16 = .ok (.ireturn, 1) := by decide +kernel
theorem dX1_tryClose_0 : decode cX1_tryClose 0 = .ok (.aload_n 0, 1) := by decide +kernel
theorem dX1_tryClose_1 : decode cX1_tryClose 1 = .ok (.invokevirtual 157, 3) := by decide +kernel
theorem dX1_tryClose_4 : decode cX1_tryClose 4 = .ok (.ifCond .eq 5, 3) := by decide +kernel
theorem dX1_tryClose_7 : decode cX1_tryClose 7 = .ok (.iconst 0, 1) := by decide +kernel
theorem dX1_tryClose_8 : decode cX1_tryClose 8 = .ok (.ireturn, 1) := by decide +kernel
theorem dX1_tryClose_9 : decode cX1_tryClose 9 = .ok (.aload_n 0, 1) := by decide +kernel
theorem dX1_tryClose_10 : decode cX1_tryClose 10 = .ok (.invokevirtual 161, 3) := by decide +kernel
theorem dX1_tryClose_13 : decode cX1_tryClose 13 = .ok (.pop, 1) := by decide +kernel
theorem dX1_tryClose_14 : decode cX1_tryClose 14 = .ok (.iconst 1, 1) := by decide +kernel
theorem dX1_tryClose_15 : decode cX1_tryClose 15 = .ok (.ireturn, 1) := by decide +kernel
theorem dX1_tryAdd_0 : decode cX1_tryAdd 0 = .ok (.aload_n 0, 1) := by decide +kernel
theorem dX1_tryAdd_1 : decode cX1_tryAdd 1 = .ok (.iload_n 1, 1) := by decide +kernel
theorem dX1_tryAdd_2 : decode cX1_tryAdd 2 = .ok (.iload_n 2, 1) := by decide +kernel
theorem dX1_tryAdd_3 : decode cX1_tryAdd 3 = .ok (.iload_n 3, 1) := by decide +kernel
theorem dX1_tryAdd_4 : decode cX1_tryAdd 4 = .ok (.iload 4, 2) := by decide +kernel
theorem dX1_tryAdd_6 : decode cX1_tryAdd 6 = .ok (.iload 5, 2) := by decide +kernel
theorem dX1_tryAdd_8 : decode cX1_tryAdd 8 = .ok (.invokevirtual 164, 3) := by decide +kernel
theorem dX1_tryAdd_11 : decode cX1_tryAdd 11 = .ok (.ifCond .eq 5, 3) := by decide +kernel
theorem dX1_tryAdd_14 : decode cX1_tryAdd 14 = .ok (.iconst 0, 1) := by decide +kernel
theorem dX1_tryAdd_15 : decode cX1_tryAdd 15 = .ok (.ireturn, 1) := by decide +kernel
theorem dX1_tryAdd_16 : decode cX1_tryAdd 16 = .ok (.aload_n 0, 1) := by decide +kernel
theorem dX1_tryAdd_17 : decode cX1_tryAdd 17 = .ok (.iload_n 1, 1) := by decide +kernel
theorem dX1_tryAdd_18 : decode cX1_tryAdd 18 = .ok (.iload_n 2, 1) := by decide +kernel
theorem dX1_tryAdd_19 : decode cX1_tryAdd 19 = .ok (.iload_n 3, 1) := by decide +kernel
theorem dX1_tryAdd_20 : decode cX1_tryAdd 20 = .ok (.iload 4, 2) := by decide +kernel
theorem dX1_tryAdd_22 : decode cX1_tryAdd 22 = .ok (.iload 5, 2) := by decide +kernel
theorem dX1_tryAdd_24 : decode cX1_tryAdd 24 = .ok (.invokevirtual 168, 3) := by decide +kernel
theorem dX1_tryAdd_27 : decode cX1_tryAdd 27 = .ok (.iconst 1, 1) := by decide +kernel
theorem dX1_tryAdd_28 : decode cX1_tryAdd 28 = .ok (.ireturn, 1) := by decide +kernel
theorem dX1_tryDrop_0 : decode cX1_tryDrop 0 = .ok (.aload_n 0, 1) := by decide +kernel
theorem dX1_tryDrop_1 : decode cX1_tryDrop 1 = .ok (.iload_n 1, 1) := by decide +kernel
theorem dX1_tryDrop_2 : decode cX1_tryDrop 2 = .ok (.iload_n 2, 1) := by decide +kernel
theorem dX1_tryDrop_3 : decode cX1_tryDrop 3 = .ok (.invokevirtual 172, 3) := by decide +kernel
theorem dX1_tryDrop_6 : decode cX1_tryDrop 6 = .ok (.ifCond .eq 5, 3) := by decide +kernel
theorem dX1_tryDrop_9 : decode cX1_tryDrop 9 = .ok (.iconst 0, 1) := by decide +kernel
theorem dX1_tryDrop_10 : decode cX1_tryDrop 10 = .ok (.ireturn, 1) := by decide +kernel
theorem dX1_tryDrop_11 : decode cX1_tryDrop 11 = .ok (.aload_n 0, 1) := by decide +kernel
theorem dX1_tryDrop_12 : decode cX1_tryDrop 12 = .ok (.iload_n 1, 1) := by decide +kernel
theorem dX1_tryDrop_13 : decode cX1_tryDrop 13 = .ok (.iload_n 2, 1) := by decide +kernel
theorem dX1_tryDrop_14 : decode cX1_tryDrop 14 = .ok (.invokevirtual 175, 3) := by decide +kernel
theorem dX1_tryDrop_17 : decode cX1_tryDrop 17 = .ok (.iconst 1, 1) := by decide +kernel
theorem dX1_tryDrop_18 : decode cX1_tryDrop 18 = .ok (.ireturn, 1) := by decide +kernel
theorem dX1_trySet_0 : decode cX1_trySet 0 = .ok (.aload_n 0, 1) := by decide +kernel
theorem dX1_trySet_1 : decode cX1_trySet 1 = .ok (.iload_n 1, 1) := by decide +kernel
theorem dX1_trySet_2 : decode cX1_trySet 2 = .ok (.iload_n 2, 1) := by decide +kernel
theorem dX1_trySet_3 : decode cX1_trySet 3 = .ok (.invokevirtual 178, 3) := by decide +kernel
theorem dX1_trySet_6 : decode cX1_trySet 6 = .ok (.ifCond .eq 5, 3) := by decide +kernel
theorem dX1_trySet_9 : decode cX1_trySet 9 = .ok (.iconst 0, 1) := by decide +kernel
theorem dX1_trySet_10 : decode cX1_trySet 10 = .ok (.ireturn, 1) := by decide +kernel
theorem dX1_trySet_11 : decode cX1_trySet 11 = .ok (.aload_n 0, 1) := by decide +kernel
theorem dX1_trySet_12 : decode cX1_trySet 12 = .ok (.iload_n 1, 1) := by decide +kernel
theorem dX1_trySet_13 : decode cX1_trySet 13 = .ok (.iload_n 2, 1) := by decide +kernel
theorem dX1_trySet_14 : decode cX1_trySet 14 = .ok (.invokevirtual 181, 3) := by decide +kernel
theorem dX1_trySet_17 : decode cX1_trySet 17 = .ok (.iconst 1, 1) := by decide +kernel
theorem dX1_trySet_18 : decode cX1_trySet 18 = .ok (.ireturn, 1) := by decide +kernel
theorem dX2_init_0 : decode cX2_init 0 = .ok (.aload_n 0, 1) := by decide +kernel
theorem dX2_init_1 : decode cX2_init 1 = .ok (.invokespecial 3, 3) := by decide +kernel
theorem dX2_init_4 : decode cX2_init 4 = .ok (.aload_n 0, 1) := by decide +kernel
theorem dX2_init_5 : decode cX2_init 5 = .ok (.bipush 14, 2) := by decide +kernel
theorem dX2_init_7 : decode cX2_init 7 = .ok (.anewarray 9, 3) := by decide +kernel
theorem dX2_init_10 : decode cX2_init 10 = .ok (.putfield 11, 3) := by decide +kernel
theorem dX2_init_13 : decode cX2_init 13 = .ok (.iconst 0, 1) := by decide +kernel
theorem dX2_init_14 : decode cX2_init 14 = .ok (.istore_n 1, 1) := by decide +kernel
theorem dX2_init_15 : decode cX2_init 15 = .ok (.iload_n 1, 1) := by decide +kernel
theorem dX2_init_16 : decode cX2_init 16 = .ok (.bipush 14, 2) := by decide +kernel
theorem dX2_init_18 : decode cX2_init 18 = .ok (.if_icmp .ge 22, 3) := by decide +kernel
theorem dX2_init_21 : decode cX2_init 21 = .ok (.aload_n 0, 1) := by decide +kernel
theorem dX2_init_22 : decode cX2_init 22 = .ok (.getfield 11, 3) := by decide +kernel
theorem dX2_init_25 : decode cX2_init 25 = .ok (.iload_n 1, 1) := by decide +kernel
theorem dX2_init_26 : decode cX2_init 26 = .ok (.new 9, 3) := by decide +kernel
theorem dX2_init_29 : decode cX2_init 29 = .ok (.dup, 1) := by decide +kernel
theorem dX2_init_30 : decode cX2_init 30 = .ok (.invokespecial 17, 3) := by decide +kernel
theorem dX2_init_33 : decode cX2_init 33 = .ok (.aastore, 1) := by decide +kernel
theorem dX2_init_34 : decode cX2_init 34 = .ok (.iinc 1 1, 3) := by decide +kernel
theorem dX2_init_37 : decode cX2_init 37 = .ok (.goto (-22), 3) := by decide +kernel
theorem dX2_init_40 : decode cX2_init 40 = .ok (.return_, 1) := by decide +kernel
theorem dX2_isEmpty_0 : decode cX2_isEmpty 0 = .ok (.aload_n 0, 1) := by decide +kernel
theorem dX2_isEmpty_1 : decode cX2_isEmpty 1 = .ok (.getfield 18, 3) := by decide +kernel
theorem dX2_isEmpty_4 : decode cX2_isEmpty 4 = .ok (.ifCond .ne 7, 3) := by decide +kernel
theorem dX2_isEmpty_7 : decode cX2_isEmpty 7 = .ok (.iconst 1, 1) := by decide +kernel
theorem dX2_isEmpty_8 : decode cX2_isEmpty 8 = .ok (.goto 4, 3) := by decide +kernel
theorem dX2_isEmpty_11 : decode cX2_isEmpty 11 = .ok (.iconst 0, 1) := by decide +kernel
theorem dX2_isEmpty_12 : decode cX2_isEmpty 12 = .ok (.ireturn, 1) := by decide +kernel
theorem dX2_size_0 : decode cX2_size 0 = .ok (.aload_n 0, 1) := by decide +kernel
theorem dX2_size_1 : decode cX2_size 1 = .ok (.getfield 18, 3) := by decide +kernel
theorem dX2_size_4 : decode cX2_size 4 = .ok (.ireturn, 1) := by decide +kernel
theorem dX2_forgetAll_0 : decode cX2_forgetAll 0 = .ok (.aload_n 0, 1) := by decide +kernel
theorem dX2_forgetAll_1 : decode cX2_forgetAll 1 = .ok (.iconst 0, 1) := by decide +kernel
theorem dX2_forgetAll_2 : decode cX2_forgetAll 2 = .ok (.putfield 18, 3) := by decide +kernel
theorem dX2_forgetAll_5 : decode cX2_forgetAll 5 = .ok (.return_, 1) := by decide +kernel
theorem dX2_remember_0 : decode cX2_remember 0 = .ok (.aload_n 0, 1) := by decide +kernel
theorem dX2_remember_1 : decode cX2_remember 1 = .ok (.getfield 11, 3) := by decide +kernel
theorem dX2_remember_4 : decode cX2_remember 4 = .ok (.aload_n 0, 1) := by decide +kernel
theorem dX2_remember_5 : decode cX2_remember 5 = .ok (.getfield 22, 3) := by decide +kernel
theorem dX2_remember_8 : decode cX2_remember 8 = .ok (.aaload, 1) := by decide +kernel
theorem dX2_remember_9 : decode cX2_remember 9 = .ok (.aload_n 1, 1) := by decide +kernel
theorem dX2_remember_10 : decode cX2_remember 10 = .ok (.invokevirtual 25, 3) := by decide +kernel
theorem dX2_remember_13 : decode cX2_remember 13 = .ok (.aload_n 0, 1) := by decide +kernel
theorem dX2_remember_14 : decode cX2_remember 14 = .ok (.aload_n 0, 1) := by decide +kernel
theorem dX2_remember_15 : decode cX2_remember 15 = .ok (.getfield 22, 3) := by decide +kernel
theorem dX2_remember_18 : decode cX2_remember 18 = .ok (.bipush 13, 2) := by decide +kernel
theorem dX2_remember_20 : decode cX2_remember 20 = .ok (.if_icmp .ge 12, 3) := by decide +kernel
theorem dX2_remember_23 : decode cX2_remember 23 = .ok (.aload_n 0, 1) := by decide +kernel
theorem dX2_remember_24 : decode cX2_remember 24 = .ok (.getfield 22, 3) := by decide +kernel
theorem dX2_remember_27 : decode cX2_remember 27 = .ok (.iconst 1, 1) := by decide +kernel
theorem dX2_remember_28 : decode cX2_remember 28 = .ok (.iadd, 1) := by decide +kernel
theorem dX2_remember_29 : decode cX2_remember 29 = .ok (.goto 4, 3) := by decide +kernel
theorem dX2_remember_32 : decode cX2_remember 32 = .ok (.iconst 0, 1) := by decide +kernel
theorem dX2_remember_33 : decode cX2_remember 33 = .ok (.putfield 22, 3) := by decide +kernel
theorem dX2_remember_36 : decode cX2_remember 36 = .ok (.aload_n 0, 1) := by decide +kernel
theorem dX2_remember_37 : decode cX2_remember 37 = .ok (.aload_n 0, 1) := by decide +kernel
theorem dX2_remember_38 : decode cX2_remember 38 = .ok (.getfield 18, 3) := by decide +kernel
theorem dX2_remember_41 : decode cX2_remember 41 = .ok (.iconst 1, 1) := by decide +kernel
theorem dX2_remember_42 : decode cX2_remember 42 = .ok (.iadd, 1) := by decide +kernel
theorem dX2_remember_43 : decode cX2_remember 43 = .ok (.bipush 14, 2) := by decide +kernel
theorem dX2_remember_45 : decode cX2_remember 45 = .ok (.invokestatic 29, 3) := by decide +kernel
theorem dX2_remember_48 : decode cX2_remember 48 = .ok (.putfield 18, 3) := by decide +kernel
theorem dX2_remember_51 : decode cX2_remember 51 = .ok (.return_, 1) := by decide +kernel
theorem dX2_takeBack_0 : decode cX2_takeBack 0 = .ok (.aload_n 0, 1) := by decide +kernel
theorem dX2_takeBack_1 : decode cX2_takeBack 1 = .ok (.aload_n 0, 1) := by decide +kernel
theorem dX2_takeBack_2 : decode cX2_takeBack 2 = .ok (.getfield 22, 3) := by decide +kernel
theorem dX2_takeBack_5 : decode cX2_takeBack 5 = .ok (.ifCond .le 12, 3) := by decide +kernel
theorem dX2_takeBack_8 : decode cX2_takeBack 8 = .ok (.aload_n 0, 1) := by decide +kernel
theorem dX2_takeBack_9 : decode cX2_takeBack 9 = .ok (.getfield 22, 3) := by decide +kernel
theorem dX2_takeBack_12 : decode cX2_takeBack 12 = .ok (.iconst 1, 1) := by decide +kernel
theorem dX2_takeBack_13 : decode cX2_takeBack 13 = .ok (.isub, 1) := by decide +kernel
theorem dX2_takeBack_14 : decode cX2_takeBack 14 = .ok (.goto 5, 3) := by decide +kernel
theorem dX2_takeBack_17 : decode cX2_takeBack 17 = .ok (.bipush 13, 2) := by decide +kernel
theorem dX2_takeBack_19 : decode cX2_takeBack 19 = .ok (.putfield 22, 3) := by decide +kernel
theorem dX2_takeBack_22 : decode cX2_takeBack 22 = .ok (.aload_n 0, 1) := by decide +kernel
theorem dX2_takeBack_23 : decode cX2_takeBack 23 = .ok (.dup, 1) := by decide +kernel
theorem dX2_takeBack_24 : decode cX2_takeBack 24 = .ok (.getfield 18, 3) := by decide +kernel
theorem dX2_takeBack_27 : decode cX2_takeBack 27 = .ok (.iconst 1, 1) := by decide +kernel
theorem dX2_takeBack_28 : decode cX2_takeBack 28 = .ok (.isub, 1) := by decide +kernel
theorem dX2_takeBack_29 : decode cX2_takeBack 29 = .ok (.putfield 18, 3) := by decide +kernel
theorem dX2_takeBack_32 : decode cX2_takeBack 32 = .ok (.aload_n 1, 1) := by decide +kernel
theorem dX2_takeBack_33 : decode cX2_takeBack 33 = .ok (.aload_n 0, 1) := by decide +kernel
theorem dX2_takeBack_34 : decode cX2_takeBack 34 = .ok (.getfield 11, 3) := by decide +kernel
theorem dX2_takeBack_37 : decode cX2_takeBack 37 = .ok (.aload_n 0, 1) := by decide +kernel
theorem dX2_takeBack_38 : decode cX2_takeBack 38 = .ok (.getfield 22, 3) := by decide +kernel
theorem dX2_takeBack_41 : decode cX2_takeBack 41 = .ok (.aaload, 1) := by decide +kernel
theorem dX2_takeBack_42 : decode cX2_takeBack 42 = .ok (.invokevirtual 25, 3) := by decide +kernel
theorem dX2_takeBack_45 : decode cX2_takeBack 45 = .ok (.return_, 1) := by decide +kernel
theorem dX3_succeeds_0 : decode cX3_succeeds 0 = .ok (.iload_n 1, 1) := by decide +kernel
theorem dX3_succeeds_1 : decode cX3_succeeds 1 = .ok (.sipush 1000, 3) := by decide +kernel
theorem dX3_succeeds_4 : decode cX3_succeeds 4 = .ok (.idiv, 1) := by decide +kernel
theorem dX3_succeeds_5 : decode cX3_succeeds 5 = .ok (.bipush 10, 2) := by decide +kernel
theorem dX3_succeeds_7 : decode cX3_succeeds 7 = .ok (.irem, 1) := by decide +kernel
theorem dX3_succeeds_8 : decode cX3_succeeds 8 = .ok (.istore_n 2, 1) := by decide +kernel
theorem dX3_succeeds_9 : decode cX3_succeeds 9 = .ok (.iload_n 1, 1) := by decide +kernel
theorem dX3_succeeds_10 : decode cX3_succeeds 10 = .ok (.bipush 100, 2) := by decide +kernel
theorem dX3_succeeds_12 : decode cX3_succeeds 12 = .ok (.idiv, 1) := by decide +kernel
theorem dX3_succeeds_13 : decode cX3_succeeds 13 = .ok (.bipush 10, 2) := by decide +kernel
theorem dX3_succeeds_15 : decode cX3_succeeds 15 = .ok (.irem, 1) := by decide +kernel
theorem dX3_succeeds_16 : decode cX3_succeeds 16 = .ok (.istore_n 3, 1) := by decide +kernel
theorem dX3_succeeds_17 : decode cX3_succeeds 17 = .ok (.iload_n 1, 1) := by decide +kernel
theorem dX3_succeeds_18 : decode cX3_succeeds 18 = .ok (.bipush 100, 2) := by decide +kernel
theorem dX3_succeeds_20 : decode cX3_succeeds 20 = .ok (.irem, 1) := by decide +kernel
theorem dX3_succeeds_21 : decode cX3_succeeds 21 = .ok (.istore 4, 2) := by decide +kernel
theorem dX3_succeeds_23 : decode cX3_succeeds 23 = .ok (.iload_n 1, 1) := by decide +kernel
theorem dX3_succeeds_24 : decode cX3_succeeds 24 = .ok (.sipush 10000, 3) := by decide +kernel
theorem dX3_succeeds_27 : decode cX3_succeeds 27 = .ok (.idiv, 1) := by decide +kernel
theorem dX3_succeeds_28 : decode cX3_succeeds 28 = .ok (.tableswitch 251 1 9 #[52, 79, 101, 122, 134, 154, 174, 201, 230], 52) := by decide +kernel
theorem dX3_succeeds_80 : decode cX3_succeeds 80 = .ok (.iload_n 1, 1) := by decide +kernel
theorem dX3_succeeds_81 : decode cX3_succeeds 81 = .ok (.bipush 10, 2) := by decide +kernel
theorem dX3_succeeds_83 : decode cX3_succeeds 83 = .ok (.irem, 1) := by decide +kernel
theorem dX3_succeeds_84 : decode cX3_succeeds 84 = .ok (.ifCond .ne 21, 3) := by decide +kernel
theorem dX3_succeeds_87 : decode cX3_succeeds 87 = .ok (.aload_n 0, 1) := by decide +kernel
theorem dX3_succeeds_88 : decode cX3_succeeds 88 = .ok (.iload_n 2, 1) := by decide +kernel
theorem dX3_succeeds_89 : decode cX3_succeeds 89 = .ok (.iload_n 3, 1) := by decide +kernel
theorem dX3_succeeds_90 : decode cX3_succeeds 90 = .ok (.iload 4, 2) := by decide +kernel
theorem dX3_succeeds_92 : decode cX3_succeeds 92 = .ok (.bipush 10, 2) := by decide +kernel
theorem dX3_succeeds_94 : decode cX3_succeeds 94 = .ok (.idiv, 1) := by decide +kernel
theorem dX3_succeeds_95 : decode cX3_succeeds 95 = .ok (.invokevirtual 9, 3) := by decide +kernel
theorem dX3_succeeds_98 : decode cX3_succeeds 98 = .ok (.ifCond .eq 7, 3) := by decide +kernel
theorem dX3_succeeds_101 : decode cX3_succeeds 101 = .ok (.iconst 1, 1) := by decide +kernel
theorem dX3_succeeds_102 : decode cX3_succeeds 102 = .ok (.goto 4, 3) := by decide +kernel
theorem dX3_succeeds_105 : decode cX3_succeeds 105 = .ok (.iconst 0, 1) := by decide +kernel
theorem dX3_succeeds_106 : decode cX3_succeeds 106 = .ok (.ireturn, 1) := by decide +kernel
theorem dX3_succeeds_107 : decode cX3_succeeds 107 = .ok (.iload_n 1, 1) := by decide +kernel
theorem dX3_succeeds_108 : decode cX3_succeeds 108 = .ok (.sipush 1000, 3) := by decide +kernel
theorem dX3_succeeds_111 : decode cX3_succeeds 111 = .ok (.irem, 1) := by decide +kernel
theorem dX3_succeeds_112 : decode cX3_succeeds 112 = .ok (.ifCond .ne 15, 3) := by decide +kernel
theorem dX3_succeeds_115 : decode cX3_succeeds 115 = .ok (.aload_n 0, 1) := by decide +kernel
theorem dX3_succeeds_116 : decode cX3_succeeds 116 = .ok (.iload_n 2, 1) := by decide +kernel
theorem dX3_succeeds_117 : decode cX3_succeeds 117 = .ok (.invokevirtual 15, 3) := by decide +kernel
theorem dX3_succeeds_120 : decode cX3_succeeds 120 = .ok (.ifCond .eq 7, 3) := by decide +kernel
theorem dX3_succeeds_123 : decode cX3_succeeds 123 = .ok (.iconst 1, 1) := by decide +kernel
theorem dX3_succeeds_124 : decode cX3_succeeds 124 = .ok (.goto 4, 3) := by decide +kernel
theorem dX3_succeeds_127 : decode cX3_succeeds 127 = .ok (.iconst 0, 1) := by decide +kernel
theorem dX3_succeeds_128 : decode cX3_succeeds 128 = .ok (.ireturn, 1) := by decide +kernel
theorem dX3_succeeds_129 : decode cX3_succeeds 129 = .ok (.iload_n 1, 1) := by decide +kernel
theorem dX3_succeeds_130 : decode cX3_succeeds 130 = .ok (.sipush 10000, 3) := by decide +kernel
theorem dX3_succeeds_133 : decode cX3_succeeds 133 = .ok (.irem, 1) := by decide +kernel
theorem dX3_succeeds_134 : decode cX3_succeeds 134 = .ok (.ifCond .ne 14, 3) := by decide +kernel
theorem dX3_succeeds_137 : decode cX3_succeeds 137 = .ok (.aload_n 0, 1) := by decide +kernel
theorem dX3_succeeds_138 : decode cX3_succeeds 138 = .ok (.invokevirtual 19, 3) := by decide +kernel
theorem dX3_succeeds_141 : decode cX3_succeeds 141 = .ok (.ifCond .eq 7, 3) := by decide +kernel
theorem dX3_succeeds_144 : decode cX3_succeeds 144 = .ok (.iconst 1, 1) := by decide +kernel
theorem dX3_succeeds_145 : decode cX3_succeeds 145 = .ok (.goto 4, 3) := by decide +kernel
theorem dX3_succeeds_148 : decode cX3_succeeds 148 = .ok (.iconst 0, 1) := by decide +kernel
theorem dX3_succeeds_149 : decode cX3_succeeds 149 = .ok (.ireturn, 1) := by decide +kernel
theorem dX3_succeeds_150 : decode cX3_succeeds 150 = .ok (.aload_n 0, 1) := by decide +kernel
theorem dX3_succeeds_151 : decode cX3_succeeds 151 = .ok (.iload_n 2, 1) := by decide +kernel
theorem dX3_succeeds_152 : decode cX3_succeeds 152 = .ok (.iload_n 3, 1) := by decide +kernel
theorem dX3_succeeds_153 : decode cX3_succeeds 153 = .ok (.bipush 10, 2) := by decide +kernel
theorem dX3_succeeds_155 : decode cX3_succeeds 155 = .ok (.iload 4, 2) := by decide +kernel
theorem dX3_succeeds_157 : decode cX3_succeeds 157 = .ok (.imul, 1) := by decide +kernel
theorem dX3_succeeds_158 : decode cX3_succeeds 158 = .ok (.invokevirtual 23, 3) := by decide +kernel
theorem dX3_succeeds_161 : decode cX3_succeeds 161 = .ok (.ireturn, 1) := by decide +kernel
theorem dX3_succeeds_162 : decode cX3_succeeds 162 = .ok (.iload_n 3, 1) := by decide +kernel
theorem dX3_succeeds_163 : decode cX3_succeeds 163 = .ok (.ifCond .ne 17, 3) := by decide +kernel
theorem dX3_succeeds_166 : decode cX3_succeeds 166 = .ok (.aload_n 0, 1) := by decide +kernel
theorem dX3_succeeds_167 : decode cX3_succeeds 167 = .ok (.iload_n 2, 1) := by decide +kernel
theorem dX3_succeeds_168 : decode cX3_succeeds 168 = .ok (.iload 4, 2) := by decide +kernel
theorem dX3_succeeds_170 : decode cX3_succeeds 170 = .ok (.invokevirtual 26, 3) := by decide +kernel
theorem dX3_succeeds_173 : decode cX3_succeeds 173 = .ok (.ifCond .eq 7, 3) := by decide +kernel
theorem dX3_succeeds_176 : decode cX3_succeeds 176 = .ok (.iconst 1, 1) := by decide +kernel
theorem dX3_succeeds_177 : decode cX3_succeeds 177 = .ok (.goto 4, 3) := by decide +kernel
theorem dX3_succeeds_180 : decode cX3_succeeds 180 = .ok (.iconst 0, 1) := by decide +kernel
theorem dX3_succeeds_181 : decode cX3_succeeds 181 = .ok (.ireturn, 1) := by decide +kernel
theorem dX3_succeeds_182 : decode cX3_succeeds 182 = .ok (.iload 4, 2) := by decide +kernel
theorem dX3_succeeds_184 : decode cX3_succeeds 184 = .ok (.ifCond .ne 16, 3) := by decide +kernel
theorem dX3_succeeds_187 : decode cX3_succeeds 187 = .ok (.aload_n 0, 1) := by decide +kernel
theorem dX3_succeeds_188 : decode cX3_succeeds 188 = .ok (.iload_n 2, 1) := by decide +kernel
theorem dX3_succeeds_189 : decode cX3_succeeds 189 = .ok (.iload_n 3, 1) := by decide +kernel
theorem dX3_succeeds_190 : decode cX3_succeeds 190 = .ok (.invokevirtual 30, 3) := by decide +kernel
theorem dX3_succeeds_193 : decode cX3_succeeds 193 = .ok (.ifCond .eq 7, 3) := by decide +kernel
theorem dX3_succeeds_196 : decode cX3_succeeds 196 = .ok (.iconst 1, 1) := by decide +kernel
theorem dX3_succeeds_197 : decode cX3_succeeds 197 = .ok (.goto 4, 3) := by decide +kernel
theorem dX3_succeeds_200 : decode cX3_succeeds 200 = .ok (.iconst 0, 1) := by decide +kernel
theorem dX3_succeeds_201 : decode cX3_succeeds 201 = .ok (.ireturn, 1) := by decide +kernel
theorem dX3_succeeds_202 : decode cX3_succeeds 202 = .ok (.iload_n 2, 1) := by decide +kernel
theorem dX3_succeeds_203 : decode cX3_succeeds 203 = .ok (.invokestatic 33, 3) := by decide +kernel
theorem dX3_succeeds_206 : decode cX3_succeeds 206 = .ok (.ifCond .ne 21, 3) := by decide +kernel
theorem dX3_succeeds_209 : decode cX3_succeeds 209 = .ok (.aload_n 0, 1) := by decide +kernel
theorem dX3_succeeds_210 : decode cX3_succeeds 210 = .ok (.getfield 36, 3) := by decide +kernel
theorem dX3_succeeds_213 : decode cX3_succeeds 213 = .ok (.iload_n 2, 1) := by decide +kernel
theorem dX3_succeeds_214 : decode cX3_succeeds 214 = .ok (.iaload, 1) := by decide +kernel
theorem dX3_succeeds_215 : decode cX3_succeeds 215 = .ok (.iload_n 1, 1) := by decide +kernel
theorem dX3_succeeds_216 : decode cX3_succeeds 216 = .ok (.sipush 1000, 3) := by decide +kernel
theorem dX3_succeeds_219 : decode cX3_succeeds 219 = .ok (.irem, 1) := by decide +kernel
theorem dX3_succeeds_220 : decode cX3_succeeds 220 = .ok (.if_icmp .lt 7, 3) := by decide +kernel
theorem dX3_succeeds_223 : decode cX3_succeeds 223 = .ok (.iconst 1, 1) := by decide +kernel
theorem dX3_succeeds_224 : decode cX3_succeeds 224 = .ok (.goto 4, 3) := by decide +kernel
theorem dX3_succeeds_227 : decode cX3_succeeds 227 = .ok (.iconst 0, 1) := by decide +kernel
theorem dX3_succeeds_228 : decode cX3_succeeds 228 = .ok (.ireturn, 1) := by decide +kernel
theorem dX3_succeeds_229 : decode cX3_succeeds 229 = .ok (.iload_n 3, 1) := by decide +kernel
theorem dX3_succeeds_230 : decode cX3_succeeds 230 = .ok (.ifCond .ne 26, 3) := by decide +kernel
theorem dX3_succeeds_233 : decode cX3_succeeds 233 = .ok (.aload_n 0, 1) := by decide +kernel
theorem dX3_succeeds_234 : decode cX3_succeeds 234 = .ok (.iload_n 2, 1) := by decide +kernel
theorem dX3_succeeds_235 : decode cX3_succeeds 235 = .ok (.invokevirtual 40, 3) := by decide +kernel
theorem dX3_succeeds_238 : decode cX3_succeeds 238 = .ok (.ifCond .ne 18, 3) := by decide +kernel
theorem dX3_succeeds_241 : decode cX3_succeeds 241 = .ok (.aload_n 0, 1) := by decide +kernel
theorem dX3_succeeds_242 : decode cX3_succeeds 242 = .ok (.getfield 43, 3) := by decide +kernel
theorem dX3_succeeds_245 : decode cX3_succeeds 245 = .ok (.iload_n 2, 1) := by decide +kernel
theorem dX3_succeeds_246 : decode cX3_succeeds 246 = .ok (.iaload, 1) := by decide +kernel
theorem dX3_succeeds_247 : decode cX3_succeeds 247 = .ok (.iload 4, 2) := by decide +kernel
theorem dX3_succeeds_249 : decode cX3_succeeds 249 = .ok (.if_icmp .lt 7, 3) := by decide +kernel
theorem dX3_succeeds_252 : decode cX3_succeeds 252 = .ok (.iconst 1, 1) := by decide +kernel
theorem dX3_succeeds_253 : decode cX3_succeeds 253 = .ok (.goto 4, 3) := by decide +kernel
theorem dX3_succeeds_256 : decode cX3_succeeds 256 = .ok (.iconst 0, 1) := by decide +kernel
theorem dX3_succeeds_257 : decode cX3_succeeds 257 = .ok (.ireturn, 1) := by decide +kernel
theorem dX3_succeeds_258 : decode cX3_succeeds 258 = .ok (.iload_n 1, 1) := by decide +kernel
theorem dX3_succeeds_259 : decode cX3_succeeds 259 = .ok (.sipush 10000, 3) := by decide +kernel
theorem dX3_succeeds_262 : decode cX3_succeeds 262 = .ok (.irem, 1) := by decide +kernel
theorem dX3_succeeds_263 : decode cX3_succeeds 263 = .ok (.ifCond .ne 14, 3) := by decide +kernel
theorem dX3_succeeds_266 : decode cX3_succeeds 266 = .ok (.aload_n 0, 1) := by decide +kernel
theorem dX3_succeeds_267 : decode cX3_succeeds 267 = .ok (.getfield 46, 3) := by decide +kernel
theorem dX3_succeeds_270 : decode cX3_succeeds 270 = .ok (.ifCond .eq 7, 3) := by decide +kernel
theorem dX3_succeeds_273 : decode cX3_succeeds 273 = .ok (.iconst 1, 1) := by decide +kernel
theorem dX3_succeeds_274 : decode cX3_succeeds 274 = .ok (.goto 4, 3) := by decide +kernel
theorem dX3_succeeds_277 : decode cX3_succeeds 277 = .ok (.iconst 0, 1) := by decide +kernel
theorem dX3_succeeds_278 : decode cX3_succeeds 278 = .ok (.ireturn, 1) := by decide +kernel
theorem dX3_succeeds_279 : decode cX3_succeeds 279 = .ok (.iconst 0, 1) := by decide +kernel
theorem dX3_succeeds_280 : decode cX3_succeeds 280 = .ok (.ireturn, 1) := by decide +kernel
theorem dX3_takeTurn_0 : decode cX3_takeTurn 0 = .ok (.aload_n 0, 1) := by decide +kernel
theorem dX3_takeTurn_1 : decode cX3_takeTurn 1 = .ok (.getfield 50, 3) := by decide +kernel
theorem dX3_takeTurn_4 : decode cX3_takeTurn 4 = .ok (.ifCond .le 10, 3) := by decide +kernel
theorem dX3_takeTurn_7 : decode cX3_takeTurn 7 = .ok (.aload_n 0, 1) := by decide +kernel
theorem dX3_takeTurn_8 : decode cX3_takeTurn 8 = .ok (.getfield 50, 3) := by decide +kernel
theorem dX3_takeTurn_11 : decode cX3_takeTurn 11 = .ok (.goto 4, 3) := by decide +kernel
theorem dX3_takeTurn_14 : decode cX3_takeTurn 14 = .ok (.iconst 1, 1) := by decide +kernel
theorem dX3_takeTurn_15 : decode cX3_takeTurn 15 = .ok (.istore_n 2, 1) := by decide +kernel
theorem dX3_takeTurn_16 : decode cX3_takeTurn 16 = .ok (.iload_n 1, 1) := by decide +kernel
theorem dX3_takeTurn_17 : decode cX3_takeTurn 17 = .ok (.bipush 16, 2) := by decide +kernel
theorem dX3_takeTurn_19 : decode cX3_takeTurn 19 = .ok (.idiv, 1) := by decide +kernel
theorem dX3_takeTurn_20 : decode cX3_takeTurn 20 = .ok (.iload_n 2, 1) := by decide +kernel
theorem dX3_takeTurn_21 : decode cX3_takeTurn 21 = .ok (.irem, 1) := by decide +kernel
theorem dX3_takeTurn_22 : decode cX3_takeTurn 22 = .ok (.istore_n 3, 1) := by decide +kernel
theorem dX3_takeTurn_23 : decode cX3_takeTurn 23 = .ok (.iload_n 1, 1) := by decide +kernel
theorem dX3_takeTurn_24 : decode cX3_takeTurn 24 = .ok (.sipush 128, 3) := by decide +kernel
theorem dX3_takeTurn_27 : decode cX3_takeTurn 27 = .ok (.idiv, 1) := by decide +kernel
theorem dX3_takeTurn_28 : decode cX3_takeTurn 28 = .ok (.iconst 3, 1) := by decide +kernel
theorem dX3_takeTurn_29 : decode cX3_takeTurn 29 = .ok (.irem, 1) := by decide +kernel
theorem dX3_takeTurn_30 : decode cX3_takeTurn 30 = .ok (.istore 4, 2) := by decide +kernel
theorem dX3_takeTurn_32 : decode cX3_takeTurn 32 = .ok (.iload_n 1, 1) := by decide +kernel
theorem dX3_takeTurn_33 : decode cX3_takeTurn 33 = .ok (.bipush 16, 2) := by decide +kernel
theorem dX3_takeTurn_35 : decode cX3_takeTurn 35 = .ok (.irem, 1) := by decide +kernel
theorem dX3_takeTurn_36 : decode cX3_takeTurn 36 = .ok (.istore 5, 2) := by decide +kernel
theorem dX3_takeTurn_38 : decode cX3_takeTurn 38 = .ok (.iload 5, 2) := by decide +kernel
theorem dX3_takeTurn_40 : decode cX3_takeTurn 40 = .ok (.ifCond .ne 27, 3) := by decide +kernel
theorem dX3_takeTurn_43 : decode cX3_takeTurn 43 = .ok (.aload_n 0, 1) := by decide +kernel
theorem dX3_takeTurn_44 : decode cX3_takeTurn 44 = .ok (.iload_n 1, 1) := by decide +kernel
theorem dX3_takeTurn_45 : decode cX3_takeTurn 45 = .ok (.bipush 16, 2) := by decide +kernel
theorem dX3_takeTurn_47 : decode cX3_takeTurn 47 = .ok (.idiv, 1) := by decide +kernel
theorem dX3_takeTurn_48 : decode cX3_takeTurn 48 = .ok (.bipush 20, 2) := by decide +kernel
theorem dX3_takeTurn_50 : decode cX3_takeTurn 50 = .ok (.irem, 1) := by decide +kernel
theorem dX3_takeTurn_51 : decode cX3_takeTurn 51 = .ok (.iconst 1, 1) := by decide +kernel
theorem dX3_takeTurn_52 : decode cX3_takeTurn 52 = .ok (.iload_n 1, 1) := by decide +kernel
theorem dX3_takeTurn_53 : decode cX3_takeTurn 53 = .ok (.sipush 512, 3) := by decide +kernel
theorem dX3_takeTurn_56 : decode cX3_takeTurn 56 = .ok (.idiv, 1) := by decide +kernel
theorem dX3_takeTurn_57 : decode cX3_takeTurn 57 = .ok (.iconst 5, 1) := by decide +kernel
theorem dX3_takeTurn_58 : decode cX3_takeTurn 58 = .ok (.irem, 1) := by decide +kernel
theorem dX3_takeTurn_59 : decode cX3_takeTurn 59 = .ok (.iadd, 1) := by decide +kernel
theorem dX3_takeTurn_60 : decode cX3_takeTurn 60 = .ok (.invokevirtual 54, 3) := by decide +kernel
theorem dX3_takeTurn_63 : decode cX3_takeTurn 63 = .ok (.pop, 1) := by decide +kernel
theorem dX3_takeTurn_64 : decode cX3_takeTurn 64 = .ok (.goto 121, 3) := by decide +kernel
theorem dX3_takeTurn_67 : decode cX3_takeTurn 67 = .ok (.iload 5, 2) := by decide +kernel
theorem dX3_takeTurn_69 : decode cX3_takeTurn 69 = .ok (.iconst 3, 1) := by decide +kernel
theorem dX3_takeTurn_70 : decode cX3_takeTurn 70 = .ok (.if_icmp .gt 22, 3) := by decide +kernel
theorem dX3_takeTurn_73 : decode cX3_takeTurn 73 = .ok (.aload_n 0, 1) := by decide +kernel
theorem dX3_takeTurn_74 : decode cX3_takeTurn 74 = .ok (.iload_n 3, 1) := by decide +kernel
theorem dX3_takeTurn_75 : decode cX3_takeTurn 75 = .ok (.iload 4, 2) := by decide +kernel
theorem dX3_takeTurn_77 : decode cX3_takeTurn 77 = .ok (.iload_n 1, 1) := by decide +kernel
theorem dX3_takeTurn_78 : decode cX3_takeTurn 78 = .ok (.sipush 512, 3) := by decide +kernel
theorem dX3_takeTurn_81 : decode cX3_takeTurn 81 = .ok (.idiv, 1) := by decide +kernel
theorem dX3_takeTurn_82 : decode cX3_takeTurn 82 = .ok (.bipush 100, 2) := by decide +kernel
theorem dX3_takeTurn_84 : decode cX3_takeTurn 84 = .ok (.irem, 1) := by decide +kernel
theorem dX3_takeTurn_85 : decode cX3_takeTurn 85 = .ok (.invokevirtual 23, 3) := by decide +kernel
theorem dX3_takeTurn_88 : decode cX3_takeTurn 88 = .ok (.pop, 1) := by decide +kernel
theorem dX3_takeTurn_89 : decode cX3_takeTurn 89 = .ok (.goto 96, 3) := by decide +kernel
theorem dX3_takeTurn_92 : decode cX3_takeTurn 92 = .ok (.iload 5, 2) := by decide +kernel
theorem dX3_takeTurn_94 : decode cX3_takeTurn 94 = .ok (.bipush 6, 2) := by decide +kernel
theorem dX3_takeTurn_96 : decode cX3_takeTurn 96 = .ok (.if_icmp .gt 21, 3) := by decide +kernel
theorem dX3_takeTurn_99 : decode cX3_takeTurn 99 = .ok (.aload_n 0, 1) := by decide +kernel
theorem dX3_takeTurn_100 : decode cX3_takeTurn 100 = .ok (.iload_n 3, 1) := by decide +kernel
theorem dX3_takeTurn_101 : decode cX3_takeTurn 101 = .ok (.iload 4, 2) := by decide +kernel
theorem dX3_takeTurn_103 : decode cX3_takeTurn 103 = .ok (.iload_n 1, 1) := by decide +kernel
theorem dX3_takeTurn_104 : decode cX3_takeTurn 104 = .ok (.sipush 512, 3) := by decide +kernel
theorem dX3_takeTurn_107 : decode cX3_takeTurn 107 = .ok (.idiv, 1) := by decide +kernel
theorem dX3_takeTurn_108 : decode cX3_takeTurn 108 = .ok (.iconst 4, 1) := by decide +kernel
theorem dX3_takeTurn_109 : decode cX3_takeTurn 109 = .ok (.irem, 1) := by decide +kernel
theorem dX3_takeTurn_110 : decode cX3_takeTurn 110 = .ok (.invokevirtual 9, 3) := by decide +kernel
theorem dX3_takeTurn_113 : decode cX3_takeTurn 113 = .ok (.pop, 1) := by decide +kernel
theorem dX3_takeTurn_114 : decode cX3_takeTurn 114 = .ok (.goto 71, 3) := by decide +kernel
theorem dX3_takeTurn_117 : decode cX3_takeTurn 117 = .ok (.iload 5, 2) := by decide +kernel
theorem dX3_takeTurn_119 : decode cX3_takeTurn 119 = .ok (.bipush 10, 2) := by decide +kernel
theorem dX3_takeTurn_121 : decode cX3_takeTurn 121 = .ok (.if_icmp .gt 12, 3) := by decide +kernel
theorem dX3_takeTurn_124 : decode cX3_takeTurn 124 = .ok (.aload_n 0, 1) := by decide +kernel
theorem dX3_takeTurn_125 : decode cX3_takeTurn 125 = .ok (.iload_n 3, 1) := by decide +kernel
theorem dX3_takeTurn_126 : decode cX3_takeTurn 126 = .ok (.invokevirtual 15, 3) := by decide +kernel
theorem dX3_takeTurn_129 : decode cX3_takeTurn 129 = .ok (.pop, 1) := by decide +kernel
theorem dX3_takeTurn_130 : decode cX3_takeTurn 130 = .ok (.goto 55, 3) := by decide +kernel
theorem dX3_takeTurn_133 : decode cX3_takeTurn 133 = .ok (.iload 5, 2) := by decide +kernel
theorem dX3_takeTurn_135 : decode cX3_takeTurn 135 = .ok (.bipush 13, 2) := by decide +kernel
theorem dX3_takeTurn_137 : decode cX3_takeTurn 137 = .ok (.if_icmp .gt 11, 3) := by decide +kernel
theorem dX3_takeTurn_140 : decode cX3_takeTurn 140 = .ok (.aload_n 0, 1) := by decide +kernel
theorem dX3_takeTurn_141 : decode cX3_takeTurn 141 = .ok (.invokevirtual 19, 3) := by decide +kernel
theorem dX3_takeTurn_144 : decode cX3_takeTurn 144 = .ok (.pop, 1) := by decide +kernel
theorem dX3_takeTurn_145 : decode cX3_takeTurn 145 = .ok (.goto 40, 3) := by decide +kernel
theorem dX3_takeTurn_148 : decode cX3_takeTurn 148 = .ok (.aload_n 0, 1) := by decide +kernel
theorem dX3_takeTurn_149 : decode cX3_takeTurn 149 = .ok (.iload_n 3, 1) := by decide +kernel
theorem dX3_takeTurn_150 : decode cX3_takeTurn 150 = .ok (.iload_n 1, 1) := by decide +kernel
theorem dX3_takeTurn_151 : decode cX3_takeTurn 151 = .ok (.sipush 512, 3) := by decide +kernel
theorem dX3_takeTurn_154 : decode cX3_takeTurn 154 = .ok (.idiv, 1) := by decide +kernel
theorem dX3_takeTurn_155 : decode cX3_takeTurn 155 = .ok (.iconst 3, 1) := by decide +kernel
theorem dX3_takeTurn_156 : decode cX3_takeTurn 156 = .ok (.irem, 1) := by decide +kernel
theorem dX3_takeTurn_157 : decode cX3_takeTurn 157 = .ok (.iload_n 1, 1) := by decide +kernel
theorem dX3_takeTurn_158 : decode cX3_takeTurn 158 = .ok (.sipush 2048, 3) := by decide +kernel
theorem dX3_takeTurn_161 : decode cX3_takeTurn 161 = .ok (.idiv, 1) := by decide +kernel
theorem dX3_takeTurn_162 : decode cX3_takeTurn 162 = .ok (.iconst 3, 1) := by decide +kernel
theorem dX3_takeTurn_163 : decode cX3_takeTurn 163 = .ok (.irem, 1) := by decide +kernel
theorem dX3_takeTurn_164 : decode cX3_takeTurn 164 = .ok (.iload_n 1, 1) := by decide +kernel
theorem dX3_takeTurn_165 : decode cX3_takeTurn 165 = .ok (.sipush 8192, 3) := by decide +kernel
theorem dX3_takeTurn_168 : decode cX3_takeTurn 168 = .ok (.idiv, 1) := by decide +kernel
theorem dX3_takeTurn_169 : decode cX3_takeTurn 169 = .ok (.iconst 3, 1) := by decide +kernel
theorem dX3_takeTurn_170 : decode cX3_takeTurn 170 = .ok (.irem, 1) := by decide +kernel
theorem dX3_takeTurn_171 : decode cX3_takeTurn 171 = .ok (.iconst 1, 1) := by decide +kernel
theorem dX3_takeTurn_172 : decode cX3_takeTurn 172 = .ok (.iload_n 1, 1) := by decide +kernel
theorem dX3_takeTurn_173 : decode cX3_takeTurn 173 = .ok (.ldc 57, 2) := by decide +kernel
theorem dX3_takeTurn_175 : decode cX3_takeTurn 175 = .ok (.idiv, 1) := by decide +kernel
theorem dX3_takeTurn_176 : decode cX3_takeTurn 176 = .ok (.sipush 200, 3) := by decide +kernel
theorem dX3_takeTurn_179 : decode cX3_takeTurn 179 = .ok (.irem, 1) := by decide +kernel
theorem dX3_takeTurn_180 : decode cX3_takeTurn 180 = .ok (.iadd, 1) := by decide +kernel
theorem dX3_takeTurn_181 : decode cX3_takeTurn 181 = .ok (.invokevirtual 58, 3) := by decide +kernel
theorem dX3_takeTurn_184 : decode cX3_takeTurn 184 = .ok (.pop, 1) := by decide +kernel
theorem dX3_takeTurn_185 : decode cX3_takeTurn 185 = .ok (.return_, 1) := by decide +kernel
theorem dX4_init_0 : decode cX4_init 0 = .ok (.aload_n 0, 1) := by decide +kernel
theorem dX4_init_1 : decode cX4_init 1 = .ok (.invokespecial 3, 3) := by decide +kernel
theorem dX4_init_4 : decode cX4_init 4 = .ok (.aload_n 0, 1) := by decide +kernel
theorem dX4_init_5 : decode cX4_init 5 = .ok (.bipush 120, 2) := by decide +kernel
theorem dX4_init_7 : decode cX4_init 7 = .ok (.newarray .char, 2) := by decide +kernel
theorem dX4_init_9 : decode cX4_init 9 = .ok (.putfield 9, 3) := by decide +kernel
theorem dX4_init_12 : decode cX4_init 12 = .ok (.return_, 1) := by decide +kernel
theorem dX4_isFull_0 : decode cX4_isFull 0 = .ok (.aload_n 0, 1) := by decide +kernel
theorem dX4_isFull_1 : decode cX4_isFull 1 = .ok (.getfield 15, 3) := by decide +kernel
theorem dX4_isFull_4 : decode cX4_isFull 4 = .ok (.bipush 120, 2) := by decide +kernel
theorem dX4_isFull_6 : decode cX4_isFull 6 = .ok (.if_icmp .lt 7, 3) := by decide +kernel
theorem dX4_isFull_9 : decode cX4_isFull 9 = .ok (.iconst 1, 1) := by decide +kernel
theorem dX4_isFull_10 : decode cX4_isFull 10 = .ok (.goto 4, 3) := by decide +kernel
theorem dX4_isFull_13 : decode cX4_isFull 13 = .ok (.iconst 0, 1) := by decide +kernel
theorem dX4_isFull_14 : decode cX4_isFull 14 = .ok (.ireturn, 1) := by decide +kernel
theorem dX4_put_0 : decode cX4_put 0 = .ok (.aload_n 0, 1) := by decide +kernel
theorem dX4_put_1 : decode cX4_put 1 = .ok (.getfield 9, 3) := by decide +kernel
theorem dX4_put_4 : decode cX4_put 4 = .ok (.aload_n 0, 1) := by decide +kernel
theorem dX4_put_5 : decode cX4_put 5 = .ok (.getfield 15, 3) := by decide +kernel
theorem dX4_put_8 : decode cX4_put 8 = .ok (.iload_n 1, 1) := by decide +kernel
theorem dX4_put_9 : decode cX4_put 9 = .ok (.castore, 1) := by decide +kernel
theorem dX4_put_10 : decode cX4_put 10 = .ok (.aload_n 0, 1) := by decide +kernel
theorem dX4_put_11 : decode cX4_put 11 = .ok (.dup, 1) := by decide +kernel
theorem dX4_put_12 : decode cX4_put 12 = .ok (.getfield 15, 3) := by decide +kernel
theorem dX4_put_15 : decode cX4_put 15 = .ok (.iconst 1, 1) := by decide +kernel
theorem dX4_put_16 : decode cX4_put 16 = .ok (.iadd, 1) := by decide +kernel
theorem dX4_put_17 : decode cX4_put 17 = .ok (.putfield 15, 3) := by decide +kernel
theorem dX4_put_20 : decode cX4_put 20 = .ok (.aload_n 0, 1) := by decide +kernel
theorem dX4_put_21 : decode cX4_put 21 = .ok (.getfield 15, 3) := by decide +kernel
theorem dX4_put_24 : decode cX4_put 24 = .ok (.ireturn, 1) := by decide +kernel
theorem dX4_empty_0 : decode cX4_empty 0 = .ok (.aload_n 0, 1) := by decide +kernel
theorem dX4_empty_1 : decode cX4_empty 1 = .ok (.getfield 15, 3) := by decide +kernel
theorem dX4_empty_4 : decode cX4_empty 4 = .ok (.istore_n 1, 1) := by decide +kernel
theorem dX4_empty_5 : decode cX4_empty 5 = .ok (.aload_n 0, 1) := by decide +kernel
theorem dX4_empty_6 : decode cX4_empty 6 = .ok (.iconst 0, 1) := by decide +kernel
theorem dX4_empty_7 : decode cX4_empty 7 = .ok (.putfield 15, 3) := by decide +kernel
theorem dX4_empty_10 : decode cX4_empty 10 = .ok (.iload_n 1, 1) := by decide +kernel
theorem dX4_empty_11 : decode cX4_empty 11 = .ok (.ireturn, 1) := by decide +kernel
theorem dX4_firstError_0 : decode cX4_firstError 0 = .ok (.aload_n 0, 1) := by decide +kernel
theorem dX4_firstError_1 : decode cX4_firstError 1 = .ok (.getfield 15, 3) := by decide +kernel
theorem dX4_firstError_4 : decode cX4_firstError 4 = .ok (.ifCond .eq 14, 3) := by decide +kernel
theorem dX4_firstError_7 : decode cX4_firstError 7 = .ok (.aload_n 0, 1) := by decide +kernel
theorem dX4_firstError_8 : decode cX4_firstError 8 = .ok (.getfield 9, 3) := by decide +kernel
theorem dX4_firstError_11 : decode cX4_firstError 11 = .ok (.iconst 0, 1) := by decide +kernel
theorem dX4_firstError_12 : decode cX4_firstError 12 = .ok (.caload, 1) := by decide +kernel
theorem dX4_firstError_13 : decode cX4_firstError 13 = .ok (.bipush 76, 2) := by decide +kernel
theorem dX4_firstError_15 : decode cX4_firstError 15 = .ok (.if_icmp .eq 5, 3) := by decide +kernel
theorem dX4_firstError_18 : decode cX4_firstError 18 = .ok (.iconst 0, 1) := by decide +kernel
theorem dX4_firstError_19 : decode cX4_firstError 19 = .ok (.ireturn, 1) := by decide +kernel
theorem dX4_firstError_20 : decode cX4_firstError 20 = .ok (.iconst 1, 1) := by decide +kernel
theorem dX4_firstError_21 : decode cX4_firstError 21 = .ok (.istore_n 1, 1) := by decide +kernel
theorem dX4_firstError_22 : decode cX4_firstError 22 = .ok (.iload_n 1, 1) := by decide +kernel
theorem dX4_firstError_23 : decode cX4_firstError 23 = .ok (.aload_n 0, 1) := by decide +kernel
theorem dX4_firstError_24 : decode cX4_firstError 24 = .ok (.getfield 15, 3) := by decide +kernel
theorem dX4_firstError_27 : decode cX4_firstError 27 = .ok (.if_icmp .ge 82, 3) := by decide +kernel
theorem dX4_firstError_30 : decode cX4_firstError 30 = .ok (.aload_n 0, 1) := by decide +kernel
theorem dX4_firstError_31 : decode cX4_firstError 31 = .ok (.getfield 9, 3) := by decide +kernel
theorem dX4_firstError_34 : decode cX4_firstError 34 = .ok (.iload_n 1, 1) := by decide +kernel
theorem dX4_firstError_35 : decode cX4_firstError 35 = .ok (.caload, 1) := by decide +kernel
theorem dX4_firstError_36 : decode cX4_firstError 36 = .ok (.istore_n 2, 1) := by decide +kernel
theorem dX4_firstError_37 : decode cX4_firstError 37 = .ok (.iload_n 2, 1) := by decide +kernel
theorem dX4_firstError_38 : decode cX4_firstError 38 = .ok (.invokestatic 19, 3) := by decide +kernel
theorem dX4_firstError_41 : decode cX4_firstError 41 = .ok (.ifCond .ne 5, 3) := by decide +kernel
theorem dX4_firstError_44 : decode cX4_firstError 44 = .ok (.iload_n 1, 1) := by decide +kernel
theorem dX4_firstError_45 : decode cX4_firstError 45 = .ok (.ireturn, 1) := by decide +kernel
theorem dX4_firstError_46 : decode cX4_firstError 46 = .ok (.iload_n 1, 1) := by decide +kernel
theorem dX4_firstError_47 : decode cX4_firstError 47 = .ok (.iconst 1, 1) := by decide +kernel
theorem dX4_firstError_48 : decode cX4_firstError 48 = .ok (.iadd, 1) := by decide +kernel
theorem dX4_firstError_49 : decode cX4_firstError 49 = .ok (.iload_n 2, 1) := by decide +kernel
theorem dX4_firstError_50 : decode cX4_firstError 50 = .ok (.invokestatic 23, 3) := by decide +kernel
theorem dX4_firstError_53 : decode cX4_firstError 53 = .ok (.iadd, 1) := by decide +kernel
theorem dX4_firstError_54 : decode cX4_firstError 54 = .ok (.istore_n 3, 1) := by decide +kernel
theorem dX4_firstError_55 : decode cX4_firstError 55 = .ok (.iload_n 1, 1) := by decide +kernel
theorem dX4_firstError_56 : decode cX4_firstError 56 = .ok (.iconst 1, 1) := by decide +kernel
theorem dX4_firstError_57 : decode cX4_firstError 57 = .ok (.iadd, 1) := by decide +kernel
theorem dX4_firstError_58 : decode cX4_firstError 58 = .ok (.istore 4, 2) := by decide +kernel
theorem dX4_firstError_60 : decode cX4_firstError 60 = .ok (.iload 4, 2) := by decide +kernel
theorem dX4_firstError_62 : decode cX4_firstError 62 = .ok (.iload_n 3, 1) := by decide +kernel
theorem dX4_firstError_63 : decode cX4_firstError 63 = .ok (.if_icmp .ge 41, 3) := by decide +kernel
theorem dX4_firstError_66 : decode cX4_firstError 66 = .ok (.iload 4, 2) := by decide +kernel
theorem dX4_firstError_68 : decode cX4_firstError 68 = .ok (.aload_n 0, 1) := by decide +kernel
theorem dX4_firstError_69 : decode cX4_firstError 69 = .ok (.getfield 15, 3) := by decide +kernel
theorem dX4_firstError_72 : decode cX4_firstError 72 = .ok (.if_icmp .ge 23, 3) := by decide +kernel
theorem dX4_firstError_75 : decode cX4_firstError 75 = .ok (.iload_n 2, 1) := by decide +kernel
theorem dX4_firstError_76 : decode cX4_firstError 76 = .ok (.iload 4, 2) := by decide +kernel
theorem dX4_firstError_78 : decode cX4_firstError 78 = .ok (.iload_n 1, 1) := by decide +kernel
theorem dX4_firstError_79 : decode cX4_firstError 79 = .ok (.isub, 1) := by decide +kernel
theorem dX4_firstError_80 : decode cX4_firstError 80 = .ok (.iconst 1, 1) := by decide +kernel
theorem dX4_firstError_81 : decode cX4_firstError 81 = .ok (.isub, 1) := by decide +kernel
theorem dX4_firstError_82 : decode cX4_firstError 82 = .ok (.aload_n 0, 1) := by decide +kernel
theorem dX4_firstError_83 : decode cX4_firstError 83 = .ok (.getfield 9, 3) := by decide +kernel
theorem dX4_firstError_86 : decode cX4_firstError 86 = .ok (.iload 4, 2) := by decide +kernel
theorem dX4_firstError_88 : decode cX4_firstError 88 = .ok (.caload, 1) := by decide +kernel
theorem dX4_firstError_89 : decode cX4_firstError 89 = .ok (.invokestatic 27, 3) := by decide +kernel
theorem dX4_firstError_92 : decode cX4_firstError 92 = .ok (.ifCond .ne 6, 3) := by decide +kernel
theorem dX4_firstError_95 : decode cX4_firstError 95 = .ok (.iload 4, 2) := by decide +kernel
theorem dX4_firstError_97 : decode cX4_firstError 97 = .ok (.ireturn, 1) := by decide +kernel
theorem dX4_firstError_98 : decode cX4_firstError 98 = .ok (.iinc 4 1, 3) := by decide +kernel
theorem dX4_firstError_101 : decode cX4_firstError 101 = .ok (.goto (-41), 3) := by decide +kernel
theorem dX4_firstError_104 : decode cX4_firstError 104 = .ok (.iload_n 3, 1) := by decide +kernel
theorem dX4_firstError_105 : decode cX4_firstError 105 = .ok (.istore_n 1, 1) := by decide +kernel
theorem dX4_firstError_106 : decode cX4_firstError 106 = .ok (.goto (-84), 3) := by decide +kernel
theorem dX4_firstError_109 : decode cX4_firstError 109 = .ok (.iconst (-1), 1) := by decide +kernel
theorem dX4_firstError_110 : decode cX4_firstError 110 = .ok (.ireturn, 1) := by decide +kernel
theorem dX4_doCommands_0 : decode cX4_doCommands 0 = .ok (.iconst 0, 1) := by decide +kernel
theorem dX4_doCommands_1 : decode cX4_doCommands 1 = .ok (.istore_n 2, 1) := by decide +kernel
theorem dX4_doCommands_2 : decode cX4_doCommands 2 = .ok (.iconst 1, 1) := by decide +kernel
theorem dX4_doCommands_3 : decode cX4_doCommands 3 = .ok (.istore_n 3, 1) := by decide +kernel
theorem dX4_doCommands_4 : decode cX4_doCommands 4 = .ok (.iload_n 3, 1) := by decide +kernel
theorem dX4_doCommands_5 : decode cX4_doCommands 5 = .ok (.aload_n 0, 1) := by decide +kernel
theorem dX4_doCommands_6 : decode cX4_doCommands 6 = .ok (.getfield 15, 3) := by decide +kernel
theorem dX4_doCommands_9 : decode cX4_doCommands 9 = .ok (.if_icmp .ge 32, 3) := by decide +kernel
theorem dX4_doCommands_12 : decode cX4_doCommands 12 = .ok (.aload_n 0, 1) := by decide +kernel
theorem dX4_doCommands_13 : decode cX4_doCommands 13 = .ok (.aload_n 1, 1) := by decide +kernel
theorem dX4_doCommands_14 : decode cX4_doCommands 14 = .ok (.iload_n 3, 1) := by decide +kernel
theorem dX4_doCommands_15 : decode cX4_doCommands 15 = .ok (.invokevirtual 31, 3) := by decide +kernel
theorem dX4_doCommands_18 : decode cX4_doCommands 18 = .ok (.ifCond .ne 6, 3) := by decide +kernel
theorem dX4_doCommands_21 : decode cX4_doCommands 21 = .ok (.iinc 2 1, 3) := by decide +kernel
theorem dX4_doCommands_24 : decode cX4_doCommands 24 = .ok (.iload_n 3, 1) := by decide +kernel
theorem dX4_doCommands_25 : decode cX4_doCommands 25 = .ok (.iconst 1, 1) := by decide +kernel
theorem dX4_doCommands_26 : decode cX4_doCommands 26 = .ok (.aload_n 0, 1) := by decide +kernel
theorem dX4_doCommands_27 : decode cX4_doCommands 27 = .ok (.getfield 9, 3) := by decide +kernel
theorem dX4_doCommands_30 : decode cX4_doCommands 30 = .ok (.iload_n 3, 1) := by decide +kernel
theorem dX4_doCommands_31 : decode cX4_doCommands 31 = .ok (.caload, 1) := by decide +kernel
theorem dX4_doCommands_32 : decode cX4_doCommands 32 = .ok (.invokestatic 23, 3) := by decide +kernel
theorem dX4_doCommands_35 : decode cX4_doCommands 35 = .ok (.iadd, 1) := by decide +kernel
theorem dX4_doCommands_36 : decode cX4_doCommands 36 = .ok (.iadd, 1) := by decide +kernel
theorem dX4_doCommands_37 : decode cX4_doCommands 37 = .ok (.istore_n 3, 1) := by decide +kernel
theorem dX4_doCommands_38 : decode cX4_doCommands 38 = .ok (.goto (-34), 3) := by decide +kernel
theorem dX4_doCommands_41 : decode cX4_doCommands 41 = .ok (.iload_n 2, 1) := by decide +kernel
theorem dX4_doCommands_42 : decode cX4_doCommands 42 = .ok (.ireturn, 1) := by decide +kernel
theorem dX4_doCommand_0 : decode cX4_doCommand 0 = .ok (.aload_n 0, 1) := by decide +kernel
theorem dX4_doCommand_1 : decode cX4_doCommand 1 = .ok (.getfield 9, 3) := by decide +kernel
theorem dX4_doCommand_4 : decode cX4_doCommand 4 = .ok (.iload_n 2, 1) := by decide +kernel
theorem dX4_doCommand_5 : decode cX4_doCommand 5 = .ok (.caload, 1) := by decide +kernel
theorem dX4_doCommand_6 : decode cX4_doCommand 6 = .ok (.lookupswitch 184 #[(98, 87), (99, 179), (113, 137), (115, 58), (118, 108), (119, 166)], 58) := by decide +kernel
theorem dX4_doCommand_64 : decode cX4_doCommand 64 = .ok (.aload_n 1, 1) := by decide +kernel
theorem dX4_doCommand_65 : decode cX4_doCommand 65 = .ok (.aload_n 0, 1) := by decide +kernel
theorem dX4_doCommand_66 : decode cX4_doCommand 66 = .ok (.iload_n 2, 1) := by decide +kernel
theorem dX4_doCommand_67 : decode cX4_doCommand 67 = .ok (.iconst 1, 1) := by decide +kernel
theorem dX4_doCommand_68 : decode cX4_doCommand 68 = .ok (.iadd, 1) := by decide +kernel
theorem dX4_doCommand_69 : decode cX4_doCommand 69 = .ok (.iconst 1, 1) := by decide +kernel
theorem dX4_doCommand_70 : decode cX4_doCommand 70 = .ok (.invokevirtual 35, 3) := by decide +kernel
theorem dX4_doCommand_73 : decode cX4_doCommand 73 = .ok (.aload_n 0, 1) := by decide +kernel
theorem dX4_doCommand_74 : decode cX4_doCommand 74 = .ok (.iload_n 2, 1) := by decide +kernel
theorem dX4_doCommand_75 : decode cX4_doCommand 75 = .ok (.iconst 2, 1) := by decide +kernel
theorem dX4_doCommand_76 : decode cX4_doCommand 76 = .ok (.iadd, 1) := by decide +kernel
theorem dX4_doCommand_77 : decode cX4_doCommand 77 = .ok (.iconst 1, 1) := by decide +kernel
theorem dX4_doCommand_78 : decode cX4_doCommand 78 = .ok (.invokevirtual 35, 3) := by decide +kernel
theorem dX4_doCommand_81 : decode cX4_doCommand 81 = .ok (.aload_n 0, 1) := by decide +kernel
theorem dX4_doCommand_82 : decode cX4_doCommand 82 = .ok (.iload_n 2, 1) := by decide +kernel
theorem dX4_doCommand_83 : decode cX4_doCommand 83 = .ok (.iconst 3, 1) := by decide +kernel
theorem dX4_doCommand_84 : decode cX4_doCommand 84 = .ok (.iadd, 1) := by decide +kernel
theorem dX4_doCommand_85 : decode cX4_doCommand 85 = .ok (.iconst 1, 1) := by decide +kernel
theorem dX4_doCommand_86 : decode cX4_doCommand 86 = .ok (.invokevirtual 35, 3) := by decide +kernel
theorem dX4_doCommand_89 : decode cX4_doCommand 89 = .ok (.invokevirtual 39, 3) := by decide +kernel
theorem dX4_doCommand_92 : decode cX4_doCommand 92 = .ok (.ireturn, 1) := by decide +kernel
theorem dX4_doCommand_93 : decode cX4_doCommand 93 = .ok (.aload_n 1, 1) := by decide +kernel
theorem dX4_doCommand_94 : decode cX4_doCommand 94 = .ok (.aload_n 0, 1) := by decide +kernel
theorem dX4_doCommand_95 : decode cX4_doCommand 95 = .ok (.iload_n 2, 1) := by decide +kernel
theorem dX4_doCommand_96 : decode cX4_doCommand 96 = .ok (.iconst 1, 1) := by decide +kernel
theorem dX4_doCommand_97 : decode cX4_doCommand 97 = .ok (.iadd, 1) := by decide +kernel
theorem dX4_doCommand_98 : decode cX4_doCommand 98 = .ok (.iconst 2, 1) := by decide +kernel
theorem dX4_doCommand_99 : decode cX4_doCommand 99 = .ok (.invokevirtual 35, 3) := by decide +kernel
theorem dX4_doCommand_102 : decode cX4_doCommand 102 = .ok (.aload_n 0, 1) := by decide +kernel
theorem dX4_doCommand_103 : decode cX4_doCommand 103 = .ok (.iload_n 2, 1) := by decide +kernel
theorem dX4_doCommand_104 : decode cX4_doCommand 104 = .ok (.iconst 3, 1) := by decide +kernel
theorem dX4_doCommand_105 : decode cX4_doCommand 105 = .ok (.iadd, 1) := by decide +kernel
theorem dX4_doCommand_106 : decode cX4_doCommand 106 = .ok (.iconst 1, 1) := by decide +kernel
theorem dX4_doCommand_107 : decode cX4_doCommand 107 = .ok (.invokevirtual 35, 3) := by decide +kernel
theorem dX4_doCommand_110 : decode cX4_doCommand 110 = .ok (.invokevirtual 45, 3) := by decide +kernel
theorem dX4_doCommand_113 : decode cX4_doCommand 113 = .ok (.ireturn, 1) := by decide +kernel
theorem dX4_doCommand_114 : decode cX4_doCommand 114 = .ok (.aload_n 1, 1) := by decide +kernel
theorem dX4_doCommand_115 : decode cX4_doCommand 115 = .ok (.aload_n 0, 1) := by decide +kernel
theorem dX4_doCommand_116 : decode cX4_doCommand 116 = .ok (.iload_n 2, 1) := by decide +kernel
theorem dX4_doCommand_117 : decode cX4_doCommand 117 = .ok (.iconst 1, 1) := by decide +kernel
theorem dX4_doCommand_118 : decode cX4_doCommand 118 = .ok (.iadd, 1) := by decide +kernel
theorem dX4_doCommand_119 : decode cX4_doCommand 119 = .ok (.iconst 1, 1) := by decide +kernel
theorem dX4_doCommand_120 : decode cX4_doCommand 120 = .ok (.invokevirtual 35, 3) := by decide +kernel
theorem dX4_doCommand_123 : decode cX4_doCommand 123 = .ok (.aload_n 0, 1) := by decide +kernel
theorem dX4_doCommand_124 : decode cX4_doCommand 124 = .ok (.iload_n 2, 1) := by decide +kernel
theorem dX4_doCommand_125 : decode cX4_doCommand 125 = .ok (.iconst 2, 1) := by decide +kernel
theorem dX4_doCommand_126 : decode cX4_doCommand 126 = .ok (.iadd, 1) := by decide +kernel
theorem dX4_doCommand_127 : decode cX4_doCommand 127 = .ok (.iconst 1, 1) := by decide +kernel
theorem dX4_doCommand_128 : decode cX4_doCommand 128 = .ok (.invokevirtual 35, 3) := by decide +kernel
theorem dX4_doCommand_131 : decode cX4_doCommand 131 = .ok (.aload_n 0, 1) := by decide +kernel
theorem dX4_doCommand_132 : decode cX4_doCommand 132 = .ok (.iload_n 2, 1) := by decide +kernel
theorem dX4_doCommand_133 : decode cX4_doCommand 133 = .ok (.iconst 3, 1) := by decide +kernel
theorem dX4_doCommand_134 : decode cX4_doCommand 134 = .ok (.iadd, 1) := by decide +kernel
theorem dX4_doCommand_135 : decode cX4_doCommand 135 = .ok (.iconst 3, 1) := by decide +kernel
theorem dX4_doCommand_136 : decode cX4_doCommand 136 = .ok (.invokevirtual 35, 3) := by decide +kernel
theorem dX4_doCommand_139 : decode cX4_doCommand 139 = .ok (.invokevirtual 49, 3) := by decide +kernel
theorem dX4_doCommand_142 : decode cX4_doCommand 142 = .ok (.ireturn, 1) := by decide +kernel
theorem dX4_doCommand_143 : decode cX4_doCommand 143 = .ok (.aload_n 1, 1) := by decide +kernel
theorem dX4_doCommand_144 : decode cX4_doCommand 144 = .ok (.aload_n 0, 1) := by decide +kernel
theorem dX4_doCommand_145 : decode cX4_doCommand 145 = .ok (.iload_n 2, 1) := by decide +kernel
theorem dX4_doCommand_146 : decode cX4_doCommand 146 = .ok (.iconst 1, 1) := by decide +kernel
theorem dX4_doCommand_147 : decode cX4_doCommand 147 = .ok (.iadd, 1) := by decide +kernel
theorem dX4_doCommand_148 : decode cX4_doCommand 148 = .ok (.iconst 1, 1) := by decide +kernel
theorem dX4_doCommand_149 : decode cX4_doCommand 149 = .ok (.invokevirtual 35, 3) := by decide +kernel
theorem dX4_doCommand_152 : decode cX4_doCommand 152 = .ok (.aload_n 0, 1) := by decide +kernel
theorem dX4_doCommand_153 : decode cX4_doCommand 153 = .ok (.iload_n 2, 1) := by decide +kernel
theorem dX4_doCommand_154 : decode cX4_doCommand 154 = .ok (.iconst 2, 1) := by decide +kernel
theorem dX4_doCommand_155 : decode cX4_doCommand 155 = .ok (.iadd, 1) := by decide +kernel
theorem dX4_doCommand_156 : decode cX4_doCommand 156 = .ok (.iconst 1, 1) := by decide +kernel
theorem dX4_doCommand_157 : decode cX4_doCommand 157 = .ok (.invokevirtual 35, 3) := by decide +kernel
theorem dX4_doCommand_160 : decode cX4_doCommand 160 = .ok (.aload_n 0, 1) := by decide +kernel
theorem dX4_doCommand_161 : decode cX4_doCommand 161 = .ok (.iload_n 2, 1) := by decide +kernel
theorem dX4_doCommand_162 : decode cX4_doCommand 162 = .ok (.iconst 3, 1) := by decide +kernel
theorem dX4_doCommand_163 : decode cX4_doCommand 163 = .ok (.iadd, 1) := by decide +kernel
theorem dX4_doCommand_164 : decode cX4_doCommand 164 = .ok (.iconst 1, 1) := by decide +kernel
theorem dX4_doCommand_165 : decode cX4_doCommand 165 = .ok (.invokevirtual 35, 3) := by decide +kernel
theorem dX4_doCommand_168 : decode cX4_doCommand 168 = .ok (.invokevirtual 52, 3) := by decide +kernel
theorem dX4_doCommand_171 : decode cX4_doCommand 171 = .ok (.ireturn, 1) := by decide +kernel
theorem dX4_doCommand_172 : decode cX4_doCommand 172 = .ok (.aload_n 1, 1) := by decide +kernel
theorem dX4_doCommand_173 : decode cX4_doCommand 173 = .ok (.aload_n 0, 1) := by decide +kernel
theorem dX4_doCommand_174 : decode cX4_doCommand 174 = .ok (.iload_n 2, 1) := by decide +kernel
theorem dX4_doCommand_175 : decode cX4_doCommand 175 = .ok (.iconst 1, 1) := by decide +kernel
theorem dX4_doCommand_176 : decode cX4_doCommand 176 = .ok (.iadd, 1) := by decide +kernel
theorem dX4_doCommand_177 : decode cX4_doCommand 177 = .ok (.iconst 1, 1) := by decide +kernel
theorem dX4_doCommand_178 : decode cX4_doCommand 178 = .ok (.invokevirtual 35, 3) := by decide +kernel
theorem dX4_doCommand_181 : decode cX4_doCommand 181 = .ok (.invokevirtual 55, 3) := by decide +kernel
theorem dX4_doCommand_184 : decode cX4_doCommand 184 = .ok (.ireturn, 1) := by decide +kernel
theorem dX4_doCommand_185 : decode cX4_doCommand 185 = .ok (.aload_n 1, 1) := by decide +kernel
theorem dX4_doCommand_186 : decode cX4_doCommand 186 = .ok (.invokevirtual 59, 3) := by decide +kernel
theorem dX4_doCommand_189 : decode cX4_doCommand 189 = .ok (.ireturn, 1) := by decide +kernel
theorem dX4_doCommand_190 : decode cX4_doCommand 190 = .ok (.iconst 0, 1) := by decide +kernel
theorem dX4_doCommand_191 : decode cX4_doCommand 191 = .ok (.ireturn, 1) := by decide +kernel
theorem dX4_number_0 : decode cX4_number 0 = .ok (.iconst 0, 1) := by decide +kernel
theorem dX4_number_1 : decode cX4_number 1 = .ok (.istore_n 3, 1) := by decide +kernel
theorem dX4_number_2 : decode cX4_number 2 = .ok (.iload_n 1, 1) := by decide +kernel
theorem dX4_number_3 : decode cX4_number 3 = .ok (.istore 4, 2) := by decide +kernel
theorem dX4_number_5 : decode cX4_number 5 = .ok (.iload 4, 2) := by decide +kernel
theorem dX4_number_7 : decode cX4_number 7 = .ok (.iload_n 1, 1) := by decide +kernel
theorem dX4_number_8 : decode cX4_number 8 = .ok (.iload_n 2, 1) := by decide +kernel
theorem dX4_number_9 : decode cX4_number 9 = .ok (.iadd, 1) := by decide +kernel
theorem dX4_number_10 : decode cX4_number 10 = .ok (.if_icmp .ge 34, 3) := by decide +kernel
theorem dX4_number_13 : decode cX4_number 13 = .ok (.iload 4, 2) := by decide +kernel
theorem dX4_number_15 : decode cX4_number 15 = .ok (.aload_n 0, 1) := by decide +kernel
theorem dX4_number_16 : decode cX4_number 16 = .ok (.getfield 15, 3) := by decide +kernel
theorem dX4_number_19 : decode cX4_number 19 = .ok (.if_icmp .ge 25, 3) := by decide +kernel
theorem dX4_number_22 : decode cX4_number 22 = .ok (.bipush 10, 2) := by decide +kernel
theorem dX4_number_24 : decode cX4_number 24 = .ok (.iload_n 3, 1) := by decide +kernel
theorem dX4_number_25 : decode cX4_number 25 = .ok (.imul, 1) := by decide +kernel
theorem dX4_number_26 : decode cX4_number 26 = .ok (.aload_n 0, 1) := by decide +kernel
theorem dX4_number_27 : decode cX4_number 27 = .ok (.getfield 9, 3) := by decide +kernel
theorem dX4_number_30 : decode cX4_number 30 = .ok (.iload 4, 2) := by decide +kernel
theorem dX4_number_32 : decode cX4_number 32 = .ok (.caload, 1) := by decide +kernel
theorem dX4_number_33 : decode cX4_number 33 = .ok (.bipush 48, 2) := by decide +kernel
theorem dX4_number_35 : decode cX4_number 35 = .ok (.isub, 1) := by decide +kernel
theorem dX4_number_36 : decode cX4_number 36 = .ok (.iadd, 1) := by decide +kernel
theorem dX4_number_37 : decode cX4_number 37 = .ok (.istore_n 3, 1) := by decide +kernel
theorem dX4_number_38 : decode cX4_number 38 = .ok (.iinc 4 1, 3) := by decide +kernel
theorem dX4_number_41 : decode cX4_number 41 = .ok (.goto (-36), 3) := by decide +kernel
theorem dX4_number_44 : decode cX4_number 44 = .ok (.iload_n 3, 1) := by decide +kernel
theorem dX4_number_45 : decode cX4_number 45 = .ok (.ireturn, 1) := by decide +kernel
theorem dX4_isCommand_0 : decode cX4_isCommand 0 = .ok (.ldc 63, 2) := by decide +kernel
theorem dX4_isCommand_2 : decode cX4_isCommand 2 = .ok (.iload_n 0, 1) := by decide +kernel
theorem dX4_isCommand_3 : decode cX4_isCommand 3 = .ok (.invokevirtual 65, 3) := by decide +kernel
theorem dX4_isCommand_6 : decode cX4_isCommand 6 = .ok (.ifCond .lt 7, 3) := by decide +kernel
theorem dX4_isCommand_9 : decode cX4_isCommand 9 = .ok (.iconst 1, 1) := by decide +kernel
theorem dX4_isCommand_10 : decode cX4_isCommand 10 = .ok (.goto 4, 3) := by decide +kernel
theorem dX4_isCommand_13 : decode cX4_isCommand 13 = .ok (.iconst 0, 1) := by decide +kernel
theorem dX4_isCommand_14 : decode cX4_isCommand 14 = .ok (.ireturn, 1) := by decide +kernel
theorem dX4_digitsOf_0 : decode cX4_digitsOf 0 = .ok (.iload_n 0, 1) := by decide +kernel
theorem dX4_digitsOf_1 : decode cX4_digitsOf 1 = .ok (.invokestatic 71, 3) := by decide +kernel
theorem dX4_digitsOf_4 : decode cX4_digitsOf 4 = .ok (.invokevirtual 75, 3) := by decide +kernel
theorem dX4_digitsOf_7 : decode cX4_digitsOf 7 = .ok (.ireturn, 1) := by decide +kernel
theorem dX4_allows_0 : decode cX4_allows 0 = .ok (.iload_n 0, 1) := by decide +kernel
theorem dX4_allows_1 : decode cX4_allows 1 = .ok (.invokestatic 78, 3) := by decide +kernel
theorem dX4_allows_4 : decode cX4_allows 4 = .ok (.astore_n 3, 1) := by decide +kernel
theorem dX4_allows_5 : decode cX4_allows 5 = .ok (.iload_n 0, 1) := by decide +kernel
theorem dX4_allows_6 : decode cX4_allows 6 = .ok (.invokestatic 71, 3) := by decide +kernel
theorem dX4_allows_9 : decode cX4_allows 9 = .ok (.astore 4, 2) := by decide +kernel
theorem dX4_allows_11 : decode cX4_allows 11 = .ok (.iload_n 1, 1) := by decide +kernel
theorem dX4_allows_12 : decode cX4_allows 12 = .ok (.aload_n 3, 1) := by decide +kernel
theorem dX4_allows_13 : decode cX4_allows 13 = .ok (.invokevirtual 75, 3) := by decide +kernel
theorem dX4_allows_16 : decode cX4_allows 16 = .ok (.if_icmp .ge 12, 3) := by decide +kernel
theorem dX4_allows_19 : decode cX4_allows 19 = .ok (.iload_n 1, 1) := by decide +kernel
theorem dX4_allows_20 : decode cX4_allows 20 = .ok (.aload 4, 2) := by decide +kernel
theorem dX4_allows_22 : decode cX4_allows 22 = .ok (.invokevirtual 75, 3) := by decide +kernel
theorem dX4_allows_25 : decode cX4_allows 25 = .ok (.if_icmp .lt 5, 3) := by decide +kernel
theorem dX4_allows_28 : decode cX4_allows 28 = .ok (.iconst 0, 1) := by decide +kernel
theorem dX4_allows_29 : decode cX4_allows 29 = .ok (.ireturn, 1) := by decide +kernel
theorem dX4_allows_30 : decode cX4_allows 30 = .ok (.iload_n 2, 1) := by decide +kernel
theorem dX4_allows_31 : decode cX4_allows 31 = .ok (.aload_n 3, 1) := by decide +kernel
theorem dX4_allows_32 : decode cX4_allows 32 = .ok (.iload_n 1, 1) := by decide +kernel
theorem dX4_allows_33 : decode cX4_allows 33 = .ok (.invokevirtual 81, 3) := by decide +kernel
theorem dX4_allows_36 : decode cX4_allows 36 = .ok (.if_icmp .lt 17, 3) := by decide +kernel
theorem dX4_allows_39 : decode cX4_allows 39 = .ok (.iload_n 2, 1) := by decide +kernel
theorem dX4_allows_40 : decode cX4_allows 40 = .ok (.aload 4, 2) := by decide +kernel
theorem dX4_allows_42 : decode cX4_allows 42 = .ok (.iload_n 1, 1) := by decide +kernel
theorem dX4_allows_43 : decode cX4_allows 43 = .ok (.invokevirtual 81, 3) := by decide +kernel
theorem dX4_allows_46 : decode cX4_allows 46 = .ok (.if_icmp .gt 7, 3) := by decide +kernel
theorem dX4_allows_49 : decode cX4_allows 49 = .ok (.iconst 1, 1) := by decide +kernel
theorem dX4_allows_50 : decode cX4_allows 50 = .ok (.goto 4, 3) := by decide +kernel
theorem dX4_allows_53 : decode cX4_allows 53 = .ok (.iconst 0, 1) := by decide +kernel
theorem dX4_allows_54 : decode cX4_allows 54 = .ok (.ireturn, 1) := by decide +kernel
theorem dX4_leastDigits_0 : decode cX4_leastDigits 0 = .ok (.iload_n 0, 1) := by decide +kernel
theorem dX4_leastDigits_1 : decode cX4_leastDigits 1 = .ok (.lookupswitch 66 #[(98, 54), (113, 60), (115, 51), (118, 57), (119, 63)], 51) := by decide +kernel
theorem dX4_leastDigits_52 : decode cX4_leastDigits 52 = .ok (.ldc 85, 2) := by decide +kernel
theorem dX4_leastDigits_54 : decode cX4_leastDigits 54 = .ok (.areturn, 1) := by decide +kernel
theorem dX4_leastDigits_55 : decode cX4_leastDigits 55 = .ok (.ldc 87, 2) := by decide +kernel
theorem dX4_leastDigits_57 : decode cX4_leastDigits 57 = .ok (.areturn, 1) := by decide +kernel
theorem dX4_leastDigits_58 : decode cX4_leastDigits 58 = .ok (.ldc 89, 2) := by decide +kernel
theorem dX4_leastDigits_60 : decode cX4_leastDigits 60 = .ok (.areturn, 1) := by decide +kernel
theorem dX4_leastDigits_61 : decode cX4_leastDigits 61 = .ok (.ldc 91, 2) := by decide +kernel
theorem dX4_leastDigits_63 : decode cX4_leastDigits 63 = .ok (.areturn, 1) := by decide +kernel
theorem dX4_leastDigits_64 : decode cX4_leastDigits 64 = .ok (.ldc 93, 2) := by decide +kernel
theorem dX4_leastDigits_66 : decode cX4_leastDigits 66 = .ok (.areturn, 1) := by decide +kernel
theorem dX4_leastDigits_67 : decode cX4_leastDigits 67 = .ok (.ldc 95, 2) := by decide +kernel
theorem dX4_leastDigits_69 : decode cX4_leastDigits 69 = .ok (.areturn, 1) := by decide +kernel
theorem dX4_greatestDigits_0 : decode cX4_greatestDigits 0 = .ok (.iload_n 0, 1) := by decide +kernel
theorem dX4_greatestDigits_1 : decode cX4_greatestDigits 1 = .ok (.lookupswitch 66 #[(98, 54), (113, 60), (115, 51), (118, 57), (119, 63)], 51) := by decide +kernel
theorem dX4_greatestDigits_52 : decode cX4_greatestDigits 52 = .ok (.ldc 97, 2) := by decide +kernel
theorem dX4_greatestDigits_54 : decode cX4_greatestDigits 54 = .ok (.areturn, 1) := by decide +kernel
theorem dX4_greatestDigits_55 : decode cX4_greatestDigits 55 = .ok (.ldc 99, 2) := by decide +kernel
theorem dX4_greatestDigits_57 : decode cX4_greatestDigits 57 = .ok (.areturn, 1) := by decide +kernel
theorem dX4_greatestDigits_58 : decode cX4_greatestDigits 58 = .ok (.ldc 101, 2) := by decide +kernel
theorem dX4_greatestDigits_60 : decode cX4_greatestDigits 60 = .ok (.areturn, 1) := by decide +kernel
theorem dX4_greatestDigits_61 : decode cX4_greatestDigits 61 = .ok (.ldc 103, 2) := by decide +kernel
theorem dX4_greatestDigits_63 : decode cX4_greatestDigits 63 = .ok (.areturn, 1) := by decide +kernel
theorem dX4_greatestDigits_64 : decode cX4_greatestDigits 64 = .ok (.ldc 105, 2) := by decide +kernel
theorem dX4_greatestDigits_66 : decode cX4_greatestDigits 66 = .ok (.areturn, 1) := by decide +kernel
theorem dX4_greatestDigits_67 : decode cX4_greatestDigits 67 = .ok (.ldc 95, 2) := by decide +kernel
theorem dX4_greatestDigits_69 : decode cX4_greatestDigits 69 = .ok (.areturn, 1) := by decide +kernel
theorem dX5_init_0 : decode cX5_init 0 = .ok (.aload_n 0, 1) := by decide +kernel
theorem dX5_init_1 : decode cX5_init 1 = .ok (.invokespecial 1, 3) := by decide +kernel
theorem dX5_init_4 : decode cX5_init 4 = .ok (.aload_n 0, 1) := by decide +kernel
theorem dX5_init_5 : decode cX5_init 5 = .ok (.new 7, 3) := by decide +kernel
theorem dX5_init_8 : decode cX5_init 8 = .ok (.dup, 1) := by decide +kernel
theorem dX5_init_9 : decode cX5_init 9 = .ok (.invokespecial 9, 3) := by decide +kernel
theorem dX5_init_12 : decode cX5_init 12 = .ok (.putfield 10, 3) := by decide +kernel
theorem dX5_init_15 : decode cX5_init 15 = .ok (.aload_n 0, 1) := by decide +kernel
theorem dX5_init_16 : decode cX5_init 16 = .ok (.new 7, 3) := by decide +kernel
theorem dX5_init_19 : decode cX5_init 19 = .ok (.dup, 1) := by decide +kernel
theorem dX5_init_20 : decode cX5_init 20 = .ok (.invokespecial 9, 3) := by decide +kernel
theorem dX5_init_23 : decode cX5_init 23 = .ok (.putfield 16, 3) := by decide +kernel
theorem dX5_init_26 : decode cX5_init 26 = .ok (.aload_n 0, 1) := by decide +kernel
theorem dX5_init_27 : decode cX5_init 27 = .ok (.new 19, 3) := by decide +kernel
theorem dX5_init_30 : decode cX5_init 30 = .ok (.dup, 1) := by decide +kernel
theorem dX5_init_31 : decode cX5_init 31 = .ok (.invokespecial 21, 3) := by decide +kernel
theorem dX5_init_34 : decode cX5_init 34 = .ok (.putfield 22, 3) := by decide +kernel
theorem dX5_init_37 : decode cX5_init 37 = .ok (.aload_n 0, 1) := by decide +kernel
theorem dX5_init_38 : decode cX5_init 38 = .ok (.iconst 2, 1) := by decide +kernel
theorem dX5_init_39 : decode cX5_init 39 = .ok (.anewarray 7, 3) := by decide +kernel
theorem dX5_init_42 : decode cX5_init 42 = .ok (.dup, 1) := by decide +kernel
theorem dX5_init_43 : decode cX5_init 43 = .ok (.iconst 0, 1) := by decide +kernel
theorem dX5_init_44 : decode cX5_init 44 = .ok (.new 7, 3) := by decide +kernel
theorem dX5_init_47 : decode cX5_init 47 = .ok (.dup, 1) := by decide +kernel
theorem dX5_init_48 : decode cX5_init 48 = .ok (.invokespecial 9, 3) := by decide +kernel
theorem dX5_init_51 : decode cX5_init 51 = .ok (.aastore, 1) := by decide +kernel
theorem dX5_init_52 : decode cX5_init 52 = .ok (.dup, 1) := by decide +kernel
theorem dX5_init_53 : decode cX5_init 53 = .ok (.iconst 1, 1) := by decide +kernel
theorem dX5_init_54 : decode cX5_init 54 = .ok (.new 7, 3) := by decide +kernel
theorem dX5_init_57 : decode cX5_init 57 = .ok (.dup, 1) := by decide +kernel
theorem dX5_init_58 : decode cX5_init 58 = .ok (.invokespecial 9, 3) := by decide +kernel
theorem dX5_init_61 : decode cX5_init 61 = .ok (.aastore, 1) := by decide +kernel
theorem dX5_init_62 : decode cX5_init 62 = .ok (.putfield 26, 3) := by decide +kernel
theorem dX5_init_65 : decode cX5_init 65 = .ok (.aload_n 0, 1) := by decide +kernel
theorem dX5_init_66 : decode cX5_init 66 = .ok (.iconst 2, 1) := by decide +kernel
theorem dX5_init_67 : decode cX5_init 67 = .ok (.newarray .boolean, 2) := by decide +kernel
theorem dX5_init_69 : decode cX5_init 69 = .ok (.putfield 30, 3) := by decide +kernel
theorem dX5_init_72 : decode cX5_init 72 = .ok (.aload_n 0, 1) := by decide +kernel
theorem dX5_init_73 : decode cX5_init 73 = .ok (.new 34, 3) := by decide +kernel
theorem dX5_init_76 : decode cX5_init 76 = .ok (.dup, 1) := by decide +kernel
theorem dX5_init_77 : decode cX5_init 77 = .ok (.invokespecial 36, 3) := by decide +kernel
theorem dX5_init_80 : decode cX5_init 80 = .ok (.putfield 37, 3) := by decide +kernel
theorem dX5_init_83 : decode cX5_init 83 = .ok (.aload_n 0, 1) := by decide +kernel
theorem dX5_init_84 : decode cX5_init 84 = .ok (.new 41, 3) := by decide +kernel
theorem dX5_init_87 : decode cX5_init 87 = .ok (.dup, 1) := by decide +kernel
theorem dX5_init_88 : decode cX5_init 88 = .ok (.invokespecial 43, 3) := by decide +kernel
theorem dX5_init_91 : decode cX5_init 91 = .ok (.putfield 44, 3) := by decide +kernel
theorem dX5_init_94 : decode cX5_init 94 = .ok (.return_, 1) := by decide +kernel
theorem dX5_append_0 : decode cX5_append 0 = .ok (.iload_n 1, 1) := by decide +kernel
theorem dX5_append_1 : decode cX5_append 1 = .ok (.iconst 0, 1) := by decide +kernel
theorem dX5_append_2 : decode cX5_append 2 = .ok (.sipush 255, 3) := by decide +kernel
theorem dX5_append_5 : decode cX5_append 5 = .ok (.invokestatic 48, 3) := by decide +kernel
theorem dX5_append_8 : decode cX5_append 8 = .ok (.ifCond .eq 13, 3) := by decide +kernel
theorem dX5_append_11 : decode cX5_append 11 = .ok (.new 52, 3) := by decide +kernel
theorem dX5_append_14 : decode cX5_append 14 = .ok (.dup, 1) := by decide +kernel
theorem dX5_append_15 : decode cX5_append 15 = .ok (.ldc 54, 2) := by decide +kernel
theorem dX5_append_17 : decode cX5_append 17 = .ok (.invokespecial 56, 3) := by decide +kernel
theorem dX5_append_20 : decode cX5_append 20 = .ok (.athrow, 1) := by decide +kernel
theorem dX5_append_21 : decode cX5_append 21 = .ok (.aload_n 0, 1) := by decide +kernel
theorem dX5_append_22 : decode cX5_append 22 = .ok (.getfield 37, 3) := by decide +kernel
theorem dX5_append_25 : decode cX5_append 25 = .ok (.invokevirtual 59, 3) := by decide +kernel
theorem dX5_append_28 : decode cX5_append 28 = .ok (.ifCond .eq 13, 3) := by decide +kernel
theorem dX5_append_31 : decode cX5_append 31 = .ok (.new 63, 3) := by decide +kernel
theorem dX5_append_34 : decode cX5_append 34 = .ok (.dup, 1) := by decide +kernel
theorem dX5_append_35 : decode cX5_append 35 = .ok (.ldc 65, 2) := by decide +kernel
theorem dX5_append_37 : decode cX5_append 37 = .ok (.invokespecial 67, 3) := by decide +kernel
theorem dX5_append_40 : decode cX5_append 40 = .ok (.athrow, 1) := by decide +kernel
theorem dX5_append_41 : decode cX5_append 41 = .ok (.aload_n 0, 1) := by decide +kernel
theorem dX5_append_42 : decode cX5_append 42 = .ok (.getfield 37, 3) := by decide +kernel
theorem dX5_append_45 : decode cX5_append 45 = .ok (.iload_n 1, 1) := by decide +kernel
theorem dX5_append_46 : decode cX5_append 46 = .ok (.i2c, 1) := by decide +kernel
theorem dX5_append_47 : decode cX5_append 47 = .ok (.invokevirtual 68, 3) := by decide +kernel
theorem dX5_append_50 : decode cX5_append 50 = .ok (.ireturn, 1) := by decide +kernel
theorem dX5_clearText_0 : decode cX5_clearText 0 = .ok (.aload_n 0, 1) := by decide +kernel
theorem dX5_clearText_1 : decode cX5_clearText 1 = .ok (.getfield 37, 3) := by decide +kernel
theorem dX5_clearText_4 : decode cX5_clearText 4 = .ok (.invokevirtual 72, 3) := by decide +kernel
theorem dX5_clearText_7 : decode cX5_clearText 7 = .ok (.ireturn, 1) := by decide +kernel
theorem dX5_errorPosition_0 : decode cX5_errorPosition 0 = .ok (.aload_n 0, 1) := by decide +kernel
theorem dX5_errorPosition_1 : decode cX5_errorPosition 1 = .ok (.getfield 37, 3) := by decide +kernel
theorem dX5_errorPosition_4 : decode cX5_errorPosition 4 = .ok (.invokevirtual 76, 3) := by decide +kernel
theorem dX5_errorPosition_7 : decode cX5_errorPosition 7 = .ok (.ireturn, 1) := by decide +kernel
theorem dX5_load_0 : decode cX5_load 0 = .ok (.aload_n 0, 1) := by decide +kernel
theorem dX5_load_1 : decode cX5_load 1 = .ok (.getfield 37, 3) := by decide +kernel
theorem dX5_load_4 : decode cX5_load 4 = .ok (.invokevirtual 76, 3) := by decide +kernel
theorem dX5_load_7 : decode cX5_load 7 = .ok (.iconst (-1), 1) := by decide +kernel
theorem dX5_load_8 : decode cX5_load 8 = .ok (.if_icmp .eq 13, 3) := by decide +kernel
theorem dX5_load_11 : decode cX5_load 11 = .ok (.new 63, 3) := by decide +kernel
theorem dX5_load_14 : decode cX5_load 14 = .ok (.dup, 1) := by decide +kernel
theorem dX5_load_15 : decode cX5_load 15 = .ok (.ldc 79, 2) := by decide +kernel
theorem dX5_load_17 : decode cX5_load 17 = .ok (.invokespecial 67, 3) := by decide +kernel
theorem dX5_load_20 : decode cX5_load 20 = .ok (.athrow, 1) := by decide +kernel
theorem dX5_load_21 : decode cX5_load 21 = .ok (.aload_n 0, 1) := by decide +kernel
theorem dX5_load_22 : decode cX5_load 22 = .ok (.getfield 10, 3) := by decide +kernel
theorem dX5_load_25 : decode cX5_load 25 = .ok (.invokevirtual 81, 3) := by decide +kernel
theorem dX5_load_28 : decode cX5_load 28 = .ok (.aload_n 0, 1) := by decide +kernel
theorem dX5_load_29 : decode cX5_load 29 = .ok (.getfield 22, 3) := by decide +kernel
theorem dX5_load_32 : decode cX5_load 32 = .ok (.invokevirtual 84, 3) := by decide +kernel
theorem dX5_load_35 : decode cX5_load 35 = .ok (.iconst 0, 1) := by decide +kernel
theorem dX5_load_36 : decode cX5_load 36 = .ok (.istore_n 1, 1) := by decide +kernel
theorem dX5_load_37 : decode cX5_load 37 = .ok (.iload_n 1, 1) := by decide +kernel
theorem dX5_load_38 : decode cX5_load 38 = .ok (.iconst 2, 1) := by decide +kernel
theorem dX5_load_39 : decode cX5_load 39 = .ok (.if_icmp .ge 16, 3) := by decide +kernel
theorem dX5_load_42 : decode cX5_load 42 = .ok (.aload_n 0, 1) := by decide +kernel
theorem dX5_load_43 : decode cX5_load 43 = .ok (.getfield 30, 3) := by decide +kernel
theorem dX5_load_46 : decode cX5_load 46 = .ok (.iload_n 1, 1) := by decide +kernel
theorem dX5_load_47 : decode cX5_load 47 = .ok (.iconst 0, 1) := by decide +kernel
theorem dX5_load_48 : decode cX5_load 48 = .ok (.bastore, 1) := by decide +kernel
theorem dX5_load_49 : decode cX5_load 49 = .ok (.iinc 1 1, 3) := by decide +kernel
theorem dX5_load_52 : decode cX5_load 52 = .ok (.goto (-15), 3) := by decide +kernel
theorem dX5_load_55 : decode cX5_load 55 = .ok (.aload_n 0, 1) := by decide +kernel
theorem dX5_load_56 : decode cX5_load 56 = .ok (.getfield 37, 3) := by decide +kernel
theorem dX5_load_59 : decode cX5_load 59 = .ok (.aload_n 0, 1) := by decide +kernel
theorem dX5_load_60 : decode cX5_load 60 = .ok (.getfield 10, 3) := by decide +kernel
theorem dX5_load_63 : decode cX5_load 63 = .ok (.invokevirtual 87, 3) := by decide +kernel
theorem dX5_load_66 : decode cX5_load 66 = .ok (.ireturn, 1) := by decide +kernel
theorem dX5_about_0 : decode cX5_about 0 = .ok (.iload_n 1, 1) := by decide +kernel
theorem dX5_about_1 : decode cX5_about 1 = .ok (.tableswitch 95 0 5 #[39, 47, 55, 71, 79, 87], 39) := by decide +kernel
theorem dX5_about_40 : decode cX5_about 40 = .ok (.aload_n 0, 1) := by decide +kernel
theorem dX5_about_41 : decode cX5_about 41 = .ok (.getfield 10, 3) := by decide +kernel
theorem dX5_about_44 : decode cX5_about 44 = .ok (.getfield 91, 3) := by decide +kernel
theorem dX5_about_47 : decode cX5_about 47 = .ok (.ireturn, 1) := by decide +kernel
theorem dX5_about_48 : decode cX5_about 48 = .ok (.aload_n 0, 1) := by decide +kernel
theorem dX5_about_49 : decode cX5_about 49 = .ok (.getfield 10, 3) := by decide +kernel
theorem dX5_about_52 : decode cX5_about 52 = .ok (.getfield 95, 3) := by decide +kernel
theorem dX5_about_55 : decode cX5_about 55 = .ok (.ireturn, 1) := by decide +kernel
theorem dX5_about_56 : decode cX5_about 56 = .ok (.aload_n 0, 1) := by decide +kernel
theorem dX5_about_57 : decode cX5_about 57 = .ok (.getfield 10, 3) := by decide +kernel
theorem dX5_about_60 : decode cX5_about 60 = .ok (.getfield 98, 3) := by decide +kernel
theorem dX5_about_63 : decode cX5_about 63 = .ok (.ifCond .eq 7, 3) := by decide +kernel
theorem dX5_about_66 : decode cX5_about 66 = .ok (.iconst 1, 1) := by decide +kernel
theorem dX5_about_67 : decode cX5_about 67 = .ok (.goto 4, 3) := by decide +kernel
theorem dX5_about_70 : decode cX5_about 70 = .ok (.iconst 0, 1) := by decide +kernel
theorem dX5_about_71 : decode cX5_about 71 = .ok (.ireturn, 1) := by decide +kernel
theorem dX5_about_72 : decode cX5_about 72 = .ok (.aload_n 0, 1) := by decide +kernel
theorem dX5_about_73 : decode cX5_about 73 = .ok (.getfield 10, 3) := by decide +kernel
theorem dX5_about_76 : decode cX5_about 76 = .ok (.invokevirtual 102, 3) := by decide +kernel
theorem dX5_about_79 : decode cX5_about 79 = .ok (.ireturn, 1) := by decide +kernel
theorem dX5_about_80 : decode cX5_about 80 = .ok (.aload_n 0, 1) := by decide +kernel
theorem dX5_about_81 : decode cX5_about 81 = .ok (.getfield 10, 3) := by decide +kernel
theorem dX5_about_84 : decode cX5_about 84 = .ok (.invokevirtual 105, 3) := by decide +kernel
theorem dX5_about_87 : decode cX5_about 87 = .ok (.ireturn, 1) := by decide +kernel
theorem dX5_about_88 : decode cX5_about 88 = .ok (.aload_n 0, 1) := by decide +kernel
theorem dX5_about_89 : decode cX5_about 89 = .ok (.getfield 10, 3) := by decide +kernel
theorem dX5_about_92 : decode cX5_about 92 = .ok (.invokevirtual 108, 3) := by decide +kernel
theorem dX5_about_95 : decode cX5_about 95 = .ok (.ireturn, 1) := by decide +kernel
theorem dX5_about_96 : decode cX5_about 96 = .ok (.new 52, 3) := by decide +kernel
theorem dX5_about_99 : decode cX5_about 99 = .ok (.dup, 1) := by decide +kernel
theorem dX5_about_100 : decode cX5_about 100 = .ok (.ldc 111, 2) := by decide +kernel
theorem dX5_about_102 : decode cX5_about 102 = .ok (.invokespecial 56, 3) := by decide +kernel
theorem dX5_about_105 : decode cX5_about 105 = .ok (.athrow, 1) := by decide +kernel
theorem dX5_kind_0 : decode cX5_kind 0 = .ok (.aload_n 0, 1) := by decide +kernel
theorem dX5_kind_1 : decode cX5_kind 1 = .ok (.iload_n 1, 1) := by decide +kernel
theorem dX5_kind_2 : decode cX5_kind 2 = .ok (.invokevirtual 113, 3) := by decide +kernel
theorem dX5_kind_5 : decode cX5_kind 5 = .ok (.iload_n 2, 1) := by decide +kernel
theorem dX5_kind_6 : decode cX5_kind 6 = .ok (.tableswitch 69 0 3 #[30, 40, 50, 60], 30) := by decide +kernel
theorem dX5_kind_36 : decode cX5_kind 36 = .ok (.aload_n 0, 1) := by decide +kernel
theorem dX5_kind_37 : decode cX5_kind 37 = .ok (.getfield 10, 3) := by decide +kernel
theorem dX5_kind_40 : decode cX5_kind 40 = .ok (.getfield 117, 3) := by decide +kernel
theorem dX5_kind_43 : decode cX5_kind 43 = .ok (.iload_n 1, 1) := by decide +kernel
theorem dX5_kind_44 : decode cX5_kind 44 = .ok (.iaload, 1) := by decide +kernel
theorem dX5_kind_45 : decode cX5_kind 45 = .ok (.ireturn, 1) := by decide +kernel
theorem dX5_kind_46 : decode cX5_kind 46 = .ok (.aload_n 0, 1) := by decide +kernel
theorem dX5_kind_47 : decode cX5_kind 47 = .ok (.getfield 10, 3) := by decide +kernel
theorem dX5_kind_50 : decode cX5_kind 50 = .ok (.getfield 121, 3) := by decide +kernel
theorem dX5_kind_53 : decode cX5_kind 53 = .ok (.iload_n 1, 1) := by decide +kernel
theorem dX5_kind_54 : decode cX5_kind 54 = .ok (.iaload, 1) := by decide +kernel
theorem dX5_kind_55 : decode cX5_kind 55 = .ok (.ireturn, 1) := by decide +kernel
theorem dX5_kind_56 : decode cX5_kind 56 = .ok (.aload_n 0, 1) := by decide +kernel
theorem dX5_kind_57 : decode cX5_kind 57 = .ok (.getfield 10, 3) := by decide +kernel
theorem dX5_kind_60 : decode cX5_kind 60 = .ok (.getfield 124, 3) := by decide +kernel
theorem dX5_kind_63 : decode cX5_kind 63 = .ok (.iload_n 1, 1) := by decide +kernel
theorem dX5_kind_64 : decode cX5_kind 64 = .ok (.iaload, 1) := by decide +kernel
theorem dX5_kind_65 : decode cX5_kind 65 = .ok (.ireturn, 1) := by decide +kernel
theorem dX5_kind_66 : decode cX5_kind 66 = .ok (.aload_n 0, 1) := by decide +kernel
theorem dX5_kind_67 : decode cX5_kind 67 = .ok (.getfield 10, 3) := by decide +kernel
theorem dX5_kind_70 : decode cX5_kind 70 = .ok (.iload_n 1, 1) := by decide +kernel
theorem dX5_kind_71 : decode cX5_kind 71 = .ok (.invokevirtual 127, 3) := by decide +kernel
theorem dX5_kind_74 : decode cX5_kind 74 = .ok (.ireturn, 1) := by decide +kernel
theorem dX5_kind_75 : decode cX5_kind 75 = .ok (.new 52, 3) := by decide +kernel
theorem dX5_kind_78 : decode cX5_kind 78 = .ok (.dup, 1) := by decide +kernel
theorem dX5_kind_79 : decode cX5_kind 79 = .ok (.ldc 131, 2) := by decide +kernel
theorem dX5_kind_81 : decode cX5_kind 81 = .ok (.invokespecial 56, 3) := by decide +kernel
theorem dX5_kind_84 : decode cX5_kind 84 = .ok (.athrow, 1) := by decide +kernel
theorem dX5_bidder_0 : decode cX5_bidder 0 = .ok (.aload_n 0, 1) := by decide +kernel
theorem dX5_bidder_1 : decode cX5_bidder 1 = .ok (.iload_n 1, 1) := by decide +kernel
theorem dX5_bidder_2 : decode cX5_bidder 2 = .ok (.invokevirtual 133, 3) := by decide +kernel
theorem dX5_bidder_5 : decode cX5_bidder 5 = .ok (.iload_n 2, 1) := by decide +kernel
theorem dX5_bidder_6 : decode cX5_bidder 6 = .ok (.tableswitch 82 0 4 #[34, 44, 54, 63, 73], 34) := by decide +kernel
theorem dX5_bidder_40 : decode cX5_bidder 40 = .ok (.aload_n 0, 1) := by decide +kernel
theorem dX5_bidder_41 : decode cX5_bidder 41 = .ok (.getfield 10, 3) := by decide +kernel
theorem dX5_bidder_44 : decode cX5_bidder 44 = .ok (.getfield 136, 3) := by decide +kernel
theorem dX5_bidder_47 : decode cX5_bidder 47 = .ok (.iload_n 1, 1) := by decide +kernel
theorem dX5_bidder_48 : decode cX5_bidder 48 = .ok (.iaload, 1) := by decide +kernel
theorem dX5_bidder_49 : decode cX5_bidder 49 = .ok (.ireturn, 1) := by decide +kernel
theorem dX5_bidder_50 : decode cX5_bidder 50 = .ok (.aload_n 0, 1) := by decide +kernel
theorem dX5_bidder_51 : decode cX5_bidder 51 = .ok (.getfield 10, 3) := by decide +kernel
theorem dX5_bidder_54 : decode cX5_bidder 54 = .ok (.getfield 139, 3) := by decide +kernel
theorem dX5_bidder_57 : decode cX5_bidder 57 = .ok (.iload_n 1, 1) := by decide +kernel
theorem dX5_bidder_58 : decode cX5_bidder 58 = .ok (.iaload, 1) := by decide +kernel
theorem dX5_bidder_59 : decode cX5_bidder 59 = .ok (.ireturn, 1) := by decide +kernel
theorem dX5_bidder_60 : decode cX5_bidder 60 = .ok (.aload_n 0, 1) := by decide +kernel
theorem dX5_bidder_61 : decode cX5_bidder 61 = .ok (.getfield 10, 3) := by decide +kernel
theorem dX5_bidder_64 : decode cX5_bidder 64 = .ok (.iload_n 1, 1) := by decide +kernel
theorem dX5_bidder_65 : decode cX5_bidder 65 = .ok (.invokevirtual 142, 3) := by decide +kernel
theorem dX5_bidder_68 : decode cX5_bidder 68 = .ok (.ireturn, 1) := by decide +kernel
theorem dX5_bidder_69 : decode cX5_bidder 69 = .ok (.aload_n 0, 1) := by decide +kernel
theorem dX5_bidder_70 : decode cX5_bidder 70 = .ok (.getfield 10, 3) := by decide +kernel
theorem dX5_bidder_73 : decode cX5_bidder 73 = .ok (.getfield 145, 3) := by decide +kernel
theorem dX5_bidder_76 : decode cX5_bidder 76 = .ok (.iload_n 1, 1) := by decide +kernel
theorem dX5_bidder_77 : decode cX5_bidder 77 = .ok (.iaload, 1) := by decide +kernel
theorem dX5_bidder_78 : decode cX5_bidder 78 = .ok (.ireturn, 1) := by decide +kernel
theorem dX5_bidder_79 : decode cX5_bidder 79 = .ok (.aload_n 0, 1) := by decide +kernel
theorem dX5_bidder_80 : decode cX5_bidder 80 = .ok (.getfield 10, 3) := by decide +kernel
theorem dX5_bidder_83 : decode cX5_bidder 83 = .ok (.iload_n 1, 1) := by decide +kernel
theorem dX5_bidder_84 : decode cX5_bidder 84 = .ok (.invokevirtual 148, 3) := by decide +kernel
theorem dX5_bidder_87 : decode cX5_bidder 87 = .ok (.ireturn, 1) := by decide +kernel
theorem dX5_bidder_88 : decode cX5_bidder 88 = .ok (.new 52, 3) := by decide +kernel
theorem dX5_bidder_91 : decode cX5_bidder 91 = .ok (.dup, 1) := by decide +kernel
theorem dX5_bidder_92 : decode cX5_bidder 92 = .ok (.ldc 151, 2) := by decide +kernel
theorem dX5_bidder_94 : decode cX5_bidder 94 = .ok (.invokespecial 56, 3) := by decide +kernel
theorem dX5_bidder_97 : decode cX5_bidder 97 = .ok (.athrow, 1) := by decide +kernel
theorem dX5_demand_0 : decode cX5_demand 0 = .ok (.aload_n 0, 1) := by decide +kernel
theorem dX5_demand_1 : decode cX5_demand 1 = .ok (.iload_n 1, 1) := by decide +kernel
theorem dX5_demand_2 : decode cX5_demand 2 = .ok (.invokevirtual 133, 3) := by decide +kernel
theorem dX5_demand_5 : decode cX5_demand 5 = .ok (.aload_n 0, 1) := by decide +kernel
theorem dX5_demand_6 : decode cX5_demand 6 = .ok (.iload_n 2, 1) := by decide +kernel
theorem dX5_demand_7 : decode cX5_demand 7 = .ok (.invokevirtual 113, 3) := by decide +kernel
theorem dX5_demand_10 : decode cX5_demand 10 = .ok (.aload_n 0, 1) := by decide +kernel
theorem dX5_demand_11 : decode cX5_demand 11 = .ok (.getfield 10, 3) := by decide +kernel
theorem dX5_demand_14 : decode cX5_demand 14 = .ok (.getfield 153, 3) := by decide +kernel
theorem dX5_demand_17 : decode cX5_demand 17 = .ok (.iload_n 1, 1) := by decide +kernel
theorem dX5_demand_18 : decode cX5_demand 18 = .ok (.iload_n 2, 1) := by decide +kernel
theorem dX5_demand_19 : decode cX5_demand 19 = .ok (.invokestatic 156, 3) := by decide +kernel
theorem dX5_demand_22 : decode cX5_demand 22 = .ok (.iaload, 1) := by decide +kernel
theorem dX5_demand_23 : decode cX5_demand 23 = .ok (.ireturn, 1) := by decide +kernel
theorem dX5_pack_0 : decode cX5_pack 0 = .ok (.aload_n 0, 1) := by decide +kernel
theorem dX5_pack_1 : decode cX5_pack 1 = .ok (.iload_n 1, 1) := by decide +kernel
theorem dX5_pack_2 : decode cX5_pack 2 = .ok (.invokevirtual 133, 3) := by decide +kernel
theorem dX5_pack_5 : decode cX5_pack 5 = .ok (.iload_n 2, 1) := by decide +kernel
theorem dX5_pack_6 : decode cX5_pack 6 = .ok (.iconst 0, 1) := by decide +kernel
theorem dX5_pack_7 : decode cX5_pack 7 = .ok (.aload_n 0, 1) := by decide +kernel
theorem dX5_pack_8 : decode cX5_pack 8 = .ok (.getfield 10, 3) := by decide +kernel
theorem dX5_pack_11 : decode cX5_pack 11 = .ok (.getfield 145, 3) := by decide +kernel
theorem dX5_pack_14 : decode cX5_pack 14 = .ok (.iload_n 1, 1) := by decide +kernel
theorem dX5_pack_15 : decode cX5_pack 15 = .ok (.iaload, 1) := by decide +kernel
theorem dX5_pack_16 : decode cX5_pack 16 = .ok (.invokestatic 48, 3) := by decide +kernel
theorem dX5_pack_19 : decode cX5_pack 19 = .ok (.ifCond .eq 13, 3) := by decide +kernel
theorem dX5_pack_22 : decode cX5_pack 22 = .ok (.new 160, 3) := by decide +kernel
theorem dX5_pack_25 : decode cX5_pack 25 = .ok (.dup, 1) := by decide +kernel
theorem dX5_pack_26 : decode cX5_pack 26 = .ok (.ldc 162, 2) := by decide +kernel
theorem dX5_pack_28 : decode cX5_pack 28 = .ok (.invokespecial 164, 3) := by decide +kernel
theorem dX5_pack_31 : decode cX5_pack 31 = .ok (.athrow, 1) := by decide +kernel
theorem dX5_pack_32 : decode cX5_pack 32 = .ok (.iload_n 3, 1) := by decide +kernel
theorem dX5_pack_33 : decode cX5_pack 33 = .ok (.iconst 0, 1) := by decide +kernel
theorem dX5_pack_34 : decode cX5_pack 34 = .ok (.iconst 3, 1) := by decide +kernel
theorem dX5_pack_35 : decode cX5_pack 35 = .ok (.invokestatic 48, 3) := by decide +kernel
theorem dX5_pack_38 : decode cX5_pack 38 = .ok (.ifCond .eq 13, 3) := by decide +kernel
theorem dX5_pack_41 : decode cX5_pack 41 = .ok (.new 52, 3) := by decide +kernel
theorem dX5_pack_44 : decode cX5_pack 44 = .ok (.dup, 1) := by decide +kernel
theorem dX5_pack_45 : decode cX5_pack 45 = .ok (.ldc 131, 2) := by decide +kernel
theorem dX5_pack_47 : decode cX5_pack 47 = .ok (.invokespecial 56, 3) := by decide +kernel
theorem dX5_pack_50 : decode cX5_pack 50 = .ok (.athrow, 1) := by decide +kernel
theorem dX5_pack_51 : decode cX5_pack 51 = .ok (.iload_n 3, 1) := by decide +kernel
theorem dX5_pack_52 : decode cX5_pack 52 = .ok (.iconst 3, 1) := by decide +kernel
theorem dX5_pack_53 : decode cX5_pack 53 = .ok (.if_icmp .ne 15, 3) := by decide +kernel
theorem dX5_pack_56 : decode cX5_pack 56 = .ok (.aload_n 0, 1) := by decide +kernel
theorem dX5_pack_57 : decode cX5_pack 57 = .ok (.getfield 10, 3) := by decide +kernel
theorem dX5_pack_60 : decode cX5_pack 60 = .ok (.iload_n 1, 1) := by decide +kernel
theorem dX5_pack_61 : decode cX5_pack 61 = .ok (.iload_n 2, 1) := by decide +kernel
theorem dX5_pack_62 : decode cX5_pack 62 = .ok (.invokevirtual 165, 3) := by decide +kernel
theorem dX5_pack_65 : decode cX5_pack 65 = .ok (.goto 13, 3) := by decide +kernel
theorem dX5_pack_68 : decode cX5_pack 68 = .ok (.aload_n 0, 1) := by decide +kernel
theorem dX5_pack_69 : decode cX5_pack 69 = .ok (.getfield 10, 3) := by decide +kernel
theorem dX5_pack_72 : decode cX5_pack 72 = .ok (.iload_n 1, 1) := by decide +kernel
theorem dX5_pack_73 : decode cX5_pack 73 = .ok (.iload_n 2, 1) := by decide +kernel
theorem dX5_pack_74 : decode cX5_pack 74 = .ok (.iload_n 3, 1) := by decide +kernel
theorem dX5_pack_75 : decode cX5_pack 75 = .ok (.invokevirtual 168, 3) := by decide +kernel
theorem dX5_pack_78 : decode cX5_pack 78 = .ok (.ireturn, 1) := by decide +kernel
theorem dX5_setting_0 : decode cX5_setting 0 = .ok (.iload_n 1, 1) := by decide +kernel
theorem dX5_setting_1 : decode cX5_setting 1 = .ok (.iconst 0, 1) := by decide +kernel
theorem dX5_setting_2 : decode cX5_setting 2 = .ok (.iconst 1, 1) := by decide +kernel
theorem dX5_setting_3 : decode cX5_setting 3 = .ok (.invokestatic 48, 3) := by decide +kernel
theorem dX5_setting_6 : decode cX5_setting 6 = .ok (.ifCond .eq 13, 3) := by decide +kernel
theorem dX5_setting_9 : decode cX5_setting 9 = .ok (.new 52, 3) := by decide +kernel
theorem dX5_setting_12 : decode cX5_setting 12 = .ok (.dup, 1) := by decide +kernel
theorem dX5_setting_13 : decode cX5_setting 13 = .ok (.ldc 172, 2) := by decide +kernel
theorem dX5_setting_15 : decode cX5_setting 15 = .ok (.invokespecial 56, 3) := by decide +kernel
theorem dX5_setting_18 : decode cX5_setting 18 = .ok (.athrow, 1) := by decide +kernel
theorem dX5_setting_19 : decode cX5_setting 19 = .ok (.aload_n 0, 1) := by decide +kernel
theorem dX5_setting_20 : decode cX5_setting 20 = .ok (.getfield 10, 3) := by decide +kernel
theorem dX5_setting_23 : decode cX5_setting 23 = .ok (.iload_n 1, 1) := by decide +kernel
theorem dX5_setting_24 : decode cX5_setting 24 = .ok (.invokevirtual 174, 3) := by decide +kernel
theorem dX5_setting_27 : decode cX5_setting 27 = .ok (.ireturn, 1) := by decide +kernel
theorem dX5_offer_0 : decode cX5_offer 0 = .ok (.aload_n 0, 1) := by decide +kernel
theorem dX5_offer_1 : decode cX5_offer 1 = .ok (.getfield 10, 3) := by decide +kernel
theorem dX5_offer_4 : decode cX5_offer 4 = .ok (.iload_n 1, 1) := by decide +kernel
theorem dX5_offer_5 : decode cX5_offer 5 = .ok (.iload_n 2, 1) := by decide +kernel
theorem dX5_offer_6 : decode cX5_offer 6 = .ok (.iload_n 3, 1) := by decide +kernel
theorem dX5_offer_7 : decode cX5_offer 7 = .ok (.invokevirtual 177, 3) := by decide +kernel
theorem dX5_offer_10 : decode cX5_offer 10 = .ok (.invokestatic 180, 3) := by decide +kernel
theorem dX5_offer_13 : decode cX5_offer 13 = .ok (.aload_n 0, 1) := by decide +kernel
theorem dX5_offer_14 : decode cX5_offer 14 = .ok (.getfield 22, 3) := by decide +kernel
theorem dX5_offer_17 : decode cX5_offer 17 = .ok (.aload_n 0, 1) := by decide +kernel
theorem dX5_offer_18 : decode cX5_offer 18 = .ok (.getfield 10, 3) := by decide +kernel
theorem dX5_offer_21 : decode cX5_offer 21 = .ok (.invokevirtual 183, 3) := by decide +kernel
theorem dX5_offer_24 : decode cX5_offer 24 = .ok (.aload_n 0, 1) := by decide +kernel
theorem dX5_offer_25 : decode cX5_offer 25 = .ok (.getfield 10, 3) := by decide +kernel
theorem dX5_offer_28 : decode cX5_offer 28 = .ok (.getfield 117, 3) := by decide +kernel
theorem dX5_offer_31 : decode cX5_offer 31 = .ok (.iload_n 1, 1) := by decide +kernel
theorem dX5_offer_32 : decode cX5_offer 32 = .ok (.iaload, 1) := by decide +kernel
theorem dX5_offer_33 : decode cX5_offer 33 = .ok (.istore 4, 2) := by decide +kernel
theorem dX5_offer_35 : decode cX5_offer 35 = .ok (.aload_n 0, 1) := by decide +kernel
theorem dX5_offer_36 : decode cX5_offer 36 = .ok (.getfield 10, 3) := by decide +kernel
theorem dX5_offer_39 : decode cX5_offer 39 = .ok (.iload_n 1, 1) := by decide +kernel
theorem dX5_offer_40 : decode cX5_offer 40 = .ok (.iload_n 2, 1) := by decide +kernel
theorem dX5_offer_41 : decode cX5_offer 41 = .ok (.iload_n 3, 1) := by decide +kernel
theorem dX5_offer_42 : decode cX5_offer 42 = .ok (.invokevirtual 187, 3) := by decide +kernel
theorem dX5_offer_45 : decode cX5_offer 45 = .ok (.iload 4, 2) := by decide +kernel
theorem dX5_offer_47 : decode cX5_offer 47 = .ok (.ireturn, 1) := by decide +kernel
theorem dX5_price_0 : decode cX5_price 0 = .ok (.aload_n 0, 1) := by decide +kernel
theorem dX5_price_1 : decode cX5_price 1 = .ok (.getfield 10, 3) := by decide +kernel
theorem dX5_price_4 : decode cX5_price 4 = .ok (.iload_n 1, 1) := by decide +kernel
theorem dX5_price_5 : decode cX5_price 5 = .ok (.iload_n 2, 1) := by decide +kernel
theorem dX5_price_6 : decode cX5_price 6 = .ok (.invokevirtual 191, 3) := by decide +kernel
theorem dX5_price_9 : decode cX5_price 9 = .ok (.invokestatic 180, 3) := by decide +kernel
theorem dX5_price_12 : decode cX5_price 12 = .ok (.aload_n 0, 1) := by decide +kernel
theorem dX5_price_13 : decode cX5_price 13 = .ok (.getfield 22, 3) := by decide +kernel
theorem dX5_price_16 : decode cX5_price 16 = .ok (.aload_n 0, 1) := by decide +kernel
theorem dX5_price_17 : decode cX5_price 17 = .ok (.getfield 10, 3) := by decide +kernel
theorem dX5_price_20 : decode cX5_price 20 = .ok (.invokevirtual 183, 3) := by decide +kernel
theorem dX5_price_23 : decode cX5_price 23 = .ok (.aload_n 0, 1) := by decide +kernel
theorem dX5_price_24 : decode cX5_price 24 = .ok (.getfield 10, 3) := by decide +kernel
theorem dX5_price_27 : decode cX5_price 27 = .ok (.getfield 124, 3) := by decide +kernel
theorem dX5_price_30 : decode cX5_price 30 = .ok (.iload_n 1, 1) := by decide +kernel
theorem dX5_price_31 : decode cX5_price 31 = .ok (.iaload, 1) := by decide +kernel
theorem dX5_price_32 : decode cX5_price 32 = .ok (.istore_n 3, 1) := by decide +kernel
theorem dX5_price_33 : decode cX5_price 33 = .ok (.aload_n 0, 1) := by decide +kernel
theorem dX5_price_34 : decode cX5_price 34 = .ok (.getfield 10, 3) := by decide +kernel
theorem dX5_price_37 : decode cX5_price 37 = .ok (.getfield 124, 3) := by decide +kernel
theorem dX5_price_40 : decode cX5_price 40 = .ok (.iload_n 1, 1) := by decide +kernel
theorem dX5_price_41 : decode cX5_price 41 = .ok (.iload_n 2, 1) := by decide +kernel
theorem dX5_price_42 : decode cX5_price 42 = .ok (.iastore, 1) := by decide +kernel
theorem dX5_price_43 : decode cX5_price 43 = .ok (.iload_n 3, 1) := by decide +kernel
theorem dX5_price_44 : decode cX5_price 44 = .ok (.ireturn, 1) := by decide +kernel
theorem dX5_join_0 : decode cX5_join 0 = .ok (.aload_n 0, 1) := by decide +kernel
theorem dX5_join_1 : decode cX5_join 1 = .ok (.getfield 10, 3) := by decide +kernel
theorem dX5_join_4 : decode cX5_join 4 = .ok (.iload_n 1, 1) := by decide +kernel
theorem dX5_join_5 : decode cX5_join 5 = .ok (.iload_n 2, 1) := by decide +kernel
theorem dX5_join_6 : decode cX5_join 6 = .ok (.invokevirtual 194, 3) := by decide +kernel
theorem dX5_join_9 : decode cX5_join 9 = .ok (.invokestatic 180, 3) := by decide +kernel
theorem dX5_join_12 : decode cX5_join 12 = .ok (.aload_n 0, 1) := by decide +kernel
theorem dX5_join_13 : decode cX5_join 13 = .ok (.getfield 22, 3) := by decide +kernel
theorem dX5_join_16 : decode cX5_join 16 = .ok (.aload_n 0, 1) := by decide +kernel
theorem dX5_join_17 : decode cX5_join 17 = .ok (.getfield 10, 3) := by decide +kernel
theorem dX5_join_20 : decode cX5_join 20 = .ok (.invokevirtual 183, 3) := by decide +kernel
theorem dX5_join_23 : decode cX5_join 23 = .ok (.aload_n 0, 1) := by decide +kernel
theorem dX5_join_24 : decode cX5_join 24 = .ok (.getfield 10, 3) := by decide +kernel
theorem dX5_join_27 : decode cX5_join 27 = .ok (.iload_n 1, 1) := by decide +kernel
theorem dX5_join_28 : decode cX5_join 28 = .ok (.iload_n 2, 1) := by decide +kernel
theorem dX5_join_29 : decode cX5_join 29 = .ok (.invokevirtual 197, 3) := by decide +kernel
theorem dX5_join_32 : decode cX5_join 32 = .ok (.aload_n 0, 1) := by decide +kernel
theorem dX5_join_33 : decode cX5_join 33 = .ok (.getfield 10, 3) := by decide +kernel
theorem dX5_join_36 : decode cX5_join 36 = .ok (.getfield 91, 3) := by decide +kernel
theorem dX5_join_39 : decode cX5_join 39 = .ok (.iconst 1, 1) := by decide +kernel
theorem dX5_join_40 : decode cX5_join 40 = .ok (.isub, 1) := by decide +kernel
theorem dX5_join_41 : decode cX5_join 41 = .ok (.ireturn, 1) := by decide +kernel
theorem dX5_value_0 : decode cX5_value 0 = .ok (.aload_n 0, 1) := by decide +kernel
theorem dX5_value_1 : decode cX5_value 1 = .ok (.getfield 10, 3) := by decide +kernel
theorem dX5_value_4 : decode cX5_value 4 = .ok (.iload_n 1, 1) := by decide +kernel
theorem dX5_value_5 : decode cX5_value 5 = .ok (.iload_n 2, 1) := by decide +kernel
theorem dX5_value_6 : decode cX5_value 6 = .ok (.iload_n 3, 1) := by decide +kernel
theorem dX5_value_7 : decode cX5_value 7 = .ok (.invokevirtual 201, 3) := by decide +kernel
theorem dX5_value_10 : decode cX5_value 10 = .ok (.invokestatic 180, 3) := by decide +kernel
theorem dX5_value_13 : decode cX5_value 13 = .ok (.aload_n 0, 1) := by decide +kernel
theorem dX5_value_14 : decode cX5_value 14 = .ok (.getfield 22, 3) := by decide +kernel
theorem dX5_value_17 : decode cX5_value 17 = .ok (.aload_n 0, 1) := by decide +kernel
theorem dX5_value_18 : decode cX5_value 18 = .ok (.getfield 10, 3) := by decide +kernel
theorem dX5_value_21 : decode cX5_value 21 = .ok (.invokevirtual 183, 3) := by decide +kernel
theorem dX5_value_24 : decode cX5_value 24 = .ok (.aload_n 0, 1) := by decide +kernel
theorem dX5_value_25 : decode cX5_value 25 = .ok (.getfield 10, 3) := by decide +kernel
theorem dX5_value_28 : decode cX5_value 28 = .ok (.getfield 204, 3) := by decide +kernel
theorem dX5_value_31 : decode cX5_value 31 = .ok (.iload_n 1, 1) := by decide +kernel
theorem dX5_value_32 : decode cX5_value 32 = .ok (.iload_n 2, 1) := by decide +kernel
theorem dX5_value_33 : decode cX5_value 33 = .ok (.invokestatic 156, 3) := by decide +kernel
theorem dX5_value_36 : decode cX5_value 36 = .ok (.iaload, 1) := by decide +kernel
theorem dX5_value_37 : decode cX5_value 37 = .ok (.istore 4, 2) := by decide +kernel
theorem dX5_value_39 : decode cX5_value 39 = .ok (.aload_n 0, 1) := by decide +kernel
theorem dX5_value_40 : decode cX5_value 40 = .ok (.getfield 10, 3) := by decide +kernel
theorem dX5_value_43 : decode cX5_value 43 = .ok (.getfield 204, 3) := by decide +kernel
theorem dX5_value_46 : decode cX5_value 46 = .ok (.iload_n 1, 1) := by decide +kernel
theorem dX5_value_47 : decode cX5_value 47 = .ok (.iload_n 2, 1) := by decide +kernel
theorem dX5_value_48 : decode cX5_value 48 = .ok (.invokestatic 156, 3) := by decide +kernel
theorem dX5_value_51 : decode cX5_value 51 = .ok (.iload_n 3, 1) := by decide +kernel
theorem dX5_value_52 : decode cX5_value 52 = .ok (.iastore, 1) := by decide +kernel
theorem dX5_value_53 : decode cX5_value 53 = .ok (.iload 4, 2) := by decide +kernel
theorem dX5_value_55 : decode cX5_value 55 = .ok (.ireturn, 1) := by decide +kernel
theorem dX5_ask_0 : decode cX5_ask 0 = .ok (.aload_n 0, 1) := by decide +kernel
theorem dX5_ask_1 : decode cX5_ask 1 = .ok (.getfield 10, 3) := by decide +kernel
theorem dX5_ask_4 : decode cX5_ask 4 = .ok (.iload_n 1, 1) := by decide +kernel
theorem dX5_ask_5 : decode cX5_ask 5 = .ok (.iload_n 2, 1) := by decide +kernel
theorem dX5_ask_6 : decode cX5_ask 6 = .ok (.iload_n 3, 1) := by decide +kernel
theorem dX5_ask_7 : decode cX5_ask 7 = .ok (.invokevirtual 207, 3) := by decide +kernel
theorem dX5_ask_10 : decode cX5_ask 10 = .ok (.invokestatic 180, 3) := by decide +kernel
theorem dX5_ask_13 : decode cX5_ask 13 = .ok (.aload_n 0, 1) := by decide +kernel
theorem dX5_ask_14 : decode cX5_ask 14 = .ok (.getfield 22, 3) := by decide +kernel
theorem dX5_ask_17 : decode cX5_ask 17 = .ok (.aload_n 0, 1) := by decide +kernel
theorem dX5_ask_18 : decode cX5_ask 18 = .ok (.getfield 10, 3) := by decide +kernel
theorem dX5_ask_21 : decode cX5_ask 21 = .ok (.invokevirtual 183, 3) := by decide +kernel
theorem dX5_ask_24 : decode cX5_ask 24 = .ok (.aload_n 0, 1) := by decide +kernel
theorem dX5_ask_25 : decode cX5_ask 25 = .ok (.getfield 10, 3) := by decide +kernel
theorem dX5_ask_28 : decode cX5_ask 28 = .ok (.getfield 153, 3) := by decide +kernel
theorem dX5_ask_31 : decode cX5_ask 31 = .ok (.iload_n 1, 1) := by decide +kernel
theorem dX5_ask_32 : decode cX5_ask 32 = .ok (.iload_n 2, 1) := by decide +kernel
theorem dX5_ask_33 : decode cX5_ask 33 = .ok (.invokestatic 156, 3) := by decide +kernel
theorem dX5_ask_36 : decode cX5_ask 36 = .ok (.iload_n 3, 1) := by decide +kernel
theorem dX5_ask_37 : decode cX5_ask 37 = .ok (.iastore, 1) := by decide +kernel
theorem dX5_ask_38 : decode cX5_ask 38 = .ok (.aload_n 0, 1) := by decide +kernel
theorem dX5_ask_39 : decode cX5_ask 39 = .ok (.getfield 10, 3) := by decide +kernel
theorem dX5_ask_42 : decode cX5_ask 42 = .ok (.iload_n 1, 1) := by decide +kernel
theorem dX5_ask_43 : decode cX5_ask 43 = .ok (.invokevirtual 142, 3) := by decide +kernel
theorem dX5_ask_46 : decode cX5_ask 46 = .ok (.ireturn, 1) := by decide +kernel
theorem dX5_bid_0 : decode cX5_bid 0 = .ok (.aload_n 0, 1) := by decide +kernel
theorem dX5_bid_1 : decode cX5_bid 1 = .ok (.getfield 10, 3) := by decide +kernel
theorem dX5_bid_4 : decode cX5_bid 4 = .ok (.iload_n 1, 1) := by decide +kernel
theorem dX5_bid_5 : decode cX5_bid 5 = .ok (.invokevirtual 210, 3) := by decide +kernel
theorem dX5_bid_8 : decode cX5_bid 8 = .ok (.invokestatic 180, 3) := by decide +kernel
theorem dX5_bid_11 : decode cX5_bid 11 = .ok (.aload_n 0, 1) := by decide +kernel
theorem dX5_bid_12 : decode cX5_bid 12 = .ok (.getfield 22, 3) := by decide +kernel
theorem dX5_bid_15 : decode cX5_bid 15 = .ok (.aload_n 0, 1) := by decide +kernel
theorem dX5_bid_16 : decode cX5_bid 16 = .ok (.getfield 10, 3) := by decide +kernel
theorem dX5_bid_19 : decode cX5_bid 19 = .ok (.invokevirtual 183, 3) := by decide +kernel
theorem dX5_bid_22 : decode cX5_bid 22 = .ok (.aload_n 0, 1) := by decide +kernel
theorem dX5_bid_23 : decode cX5_bid 23 = .ok (.getfield 10, 3) := by decide +kernel
theorem dX5_bid_26 : decode cX5_bid 26 = .ok (.iload_n 1, 1) := by decide +kernel
theorem dX5_bid_27 : decode cX5_bid 27 = .ok (.invokevirtual 213, 3) := by decide +kernel
theorem dX5_bid_30 : decode cX5_bid 30 = .ok (.aload_n 0, 1) := by decide +kernel
theorem dX5_bid_31 : decode cX5_bid 31 = .ok (.getfield 10, 3) := by decide +kernel
theorem dX5_bid_34 : decode cX5_bid 34 = .ok (.iload_n 1, 1) := by decide +kernel
theorem dX5_bid_35 : decode cX5_bid 35 = .ok (.invokevirtual 148, 3) := by decide +kernel
theorem dX5_bid_38 : decode cX5_bid 38 = .ok (.ireturn, 1) := by decide +kernel
theorem dX5_close_0 : decode cX5_close 0 = .ok (.aload_n 0, 1) := by decide +kernel
theorem dX5_close_1 : decode cX5_close 1 = .ok (.getfield 10, 3) := by decide +kernel
theorem dX5_close_4 : decode cX5_close 4 = .ok (.invokevirtual 216, 3) := by decide +kernel
theorem dX5_close_7 : decode cX5_close 7 = .ok (.invokestatic 180, 3) := by decide +kernel
theorem dX5_close_10 : decode cX5_close 10 = .ok (.aload_n 0, 1) := by decide +kernel
theorem dX5_close_11 : decode cX5_close 11 = .ok (.getfield 22, 3) := by decide +kernel
theorem dX5_close_14 : decode cX5_close 14 = .ok (.aload_n 0, 1) := by decide +kernel
theorem dX5_close_15 : decode cX5_close 15 = .ok (.getfield 10, 3) := by decide +kernel
theorem dX5_close_18 : decode cX5_close 18 = .ok (.invokevirtual 183, 3) := by decide +kernel
theorem dX5_close_21 : decode cX5_close 21 = .ok (.aload_n 0, 1) := by decide +kernel
theorem dX5_close_22 : decode cX5_close 22 = .ok (.getfield 10, 3) := by decide +kernel
theorem dX5_close_25 : decode cX5_close 25 = .ok (.invokevirtual 219, 3) := by decide +kernel
theorem dX5_close_28 : decode cX5_close 28 = .ok (.ireturn, 1) := by decide +kernel
theorem dX5_add_0 : decode cX5_add 0 = .ok (.aload_n 0, 1) := by decide +kernel
theorem dX5_add_1 : decode cX5_add 1 = .ok (.getfield 10, 3) := by decide +kernel
theorem dX5_add_4 : decode cX5_add 4 = .ok (.iload_n 1, 1) := by decide +kernel
theorem dX5_add_5 : decode cX5_add 5 = .ok (.iload_n 2, 1) := by decide +kernel
theorem dX5_add_6 : decode cX5_add 6 = .ok (.iload_n 3, 1) := by decide +kernel
theorem dX5_add_7 : decode cX5_add 7 = .ok (.iload 4, 2) := by decide +kernel
theorem dX5_add_9 : decode cX5_add 9 = .ok (.iload 5, 2) := by decide +kernel
theorem dX5_add_11 : decode cX5_add 11 = .ok (.invokevirtual 222, 3) := by decide +kernel
theorem dX5_add_14 : decode cX5_add 14 = .ok (.invokestatic 180, 3) := by decide +kernel
theorem dX5_add_17 : decode cX5_add 17 = .ok (.aload_n 0, 1) := by decide +kernel
theorem dX5_add_18 : decode cX5_add 18 = .ok (.getfield 22, 3) := by decide +kernel
theorem dX5_add_21 : decode cX5_add 21 = .ok (.aload_n 0, 1) := by decide +kernel
theorem dX5_add_22 : decode cX5_add 22 = .ok (.getfield 10, 3) := by decide +kernel
theorem dX5_add_25 : decode cX5_add 25 = .ok (.invokevirtual 183, 3) := by decide +kernel
theorem dX5_add_28 : decode cX5_add 28 = .ok (.aload_n 0, 1) := by decide +kernel
theorem dX5_add_29 : decode cX5_add 29 = .ok (.getfield 10, 3) := by decide +kernel
theorem dX5_add_32 : decode cX5_add 32 = .ok (.iload_n 1, 1) := by decide +kernel
theorem dX5_add_33 : decode cX5_add 33 = .ok (.iload_n 2, 1) := by decide +kernel
theorem dX5_add_34 : decode cX5_add 34 = .ok (.iload_n 3, 1) := by decide +kernel
theorem dX5_add_35 : decode cX5_add 35 = .ok (.iload 4, 2) := by decide +kernel
theorem dX5_add_37 : decode cX5_add 37 = .ok (.iload 5, 2) := by decide +kernel
theorem dX5_add_39 : decode cX5_add 39 = .ok (.invokevirtual 226, 3) := by decide +kernel
theorem dX5_add_42 : decode cX5_add 42 = .ok (.aload_n 0, 1) := by decide +kernel
theorem dX5_add_43 : decode cX5_add 43 = .ok (.getfield 10, 3) := by decide +kernel
theorem dX5_add_46 : decode cX5_add 46 = .ok (.getfield 145, 3) := by decide +kernel
theorem dX5_add_49 : decode cX5_add 49 = .ok (.iload_n 1, 1) := by decide +kernel
theorem dX5_add_50 : decode cX5_add 50 = .ok (.iaload, 1) := by decide +kernel
theorem dX5_add_51 : decode cX5_add 51 = .ok (.ireturn, 1) := by decide +kernel
theorem dX5_drop_0 : decode cX5_drop 0 = .ok (.aload_n 0, 1) := by decide +kernel
theorem dX5_drop_1 : decode cX5_drop 1 = .ok (.getfield 10, 3) := by decide +kernel
theorem dX5_drop_4 : decode cX5_drop 4 = .ok (.iload_n 1, 1) := by decide +kernel
theorem dX5_drop_5 : decode cX5_drop 5 = .ok (.iload_n 2, 1) := by decide +kernel
theorem dX5_drop_6 : decode cX5_drop 6 = .ok (.invokevirtual 230, 3) := by decide +kernel
theorem dX5_drop_9 : decode cX5_drop 9 = .ok (.invokestatic 180, 3) := by decide +kernel
theorem dX5_drop_12 : decode cX5_drop 12 = .ok (.aload_n 0, 1) := by decide +kernel
theorem dX5_drop_13 : decode cX5_drop 13 = .ok (.getfield 22, 3) := by decide +kernel
theorem dX5_drop_16 : decode cX5_drop 16 = .ok (.aload_n 0, 1) := by decide +kernel
theorem dX5_drop_17 : decode cX5_drop 17 = .ok (.getfield 10, 3) := by decide +kernel
theorem dX5_drop_20 : decode cX5_drop 20 = .ok (.invokevirtual 183, 3) := by decide +kernel
theorem dX5_drop_23 : decode cX5_drop 23 = .ok (.aload_n 0, 1) := by decide +kernel
theorem dX5_drop_24 : decode cX5_drop 24 = .ok (.getfield 10, 3) := by decide +kernel
theorem dX5_drop_27 : decode cX5_drop 27 = .ok (.iload_n 1, 1) := by decide +kernel
theorem dX5_drop_28 : decode cX5_drop 28 = .ok (.iload_n 2, 1) := by decide +kernel
theorem dX5_drop_29 : decode cX5_drop 29 = .ok (.invokevirtual 233, 3) := by decide +kernel
theorem dX5_drop_32 : decode cX5_drop 32 = .ok (.aload_n 0, 1) := by decide +kernel
theorem dX5_drop_33 : decode cX5_drop 33 = .ok (.getfield 10, 3) := by decide +kernel
theorem dX5_drop_36 : decode cX5_drop 36 = .ok (.getfield 145, 3) := by decide +kernel
theorem dX5_drop_39 : decode cX5_drop 39 = .ok (.iload_n 1, 1) := by decide +kernel
theorem dX5_drop_40 : decode cX5_drop 40 = .ok (.iaload, 1) := by decide +kernel
theorem dX5_drop_41 : decode cX5_drop 41 = .ok (.ireturn, 1) := by decide +kernel
theorem dX5_set_0 : decode cX5_set 0 = .ok (.aload_n 0, 1) := by decide +kernel
theorem dX5_set_1 : decode cX5_set 1 = .ok (.getfield 10, 3) := by decide +kernel
theorem dX5_set_4 : decode cX5_set 4 = .ok (.iload_n 1, 1) := by decide +kernel
theorem dX5_set_5 : decode cX5_set 5 = .ok (.iload_n 2, 1) := by decide +kernel
theorem dX5_set_6 : decode cX5_set 6 = .ok (.invokevirtual 236, 3) := by decide +kernel
theorem dX5_set_9 : decode cX5_set 9 = .ok (.invokestatic 180, 3) := by decide +kernel
theorem dX5_set_12 : decode cX5_set 12 = .ok (.aload_n 0, 1) := by decide +kernel
theorem dX5_set_13 : decode cX5_set 13 = .ok (.getfield 22, 3) := by decide +kernel
theorem dX5_set_16 : decode cX5_set 16 = .ok (.aload_n 0, 1) := by decide +kernel
theorem dX5_set_17 : decode cX5_set 17 = .ok (.getfield 10, 3) := by decide +kernel
theorem dX5_set_20 : decode cX5_set 20 = .ok (.invokevirtual 183, 3) := by decide +kernel
theorem dX5_set_23 : decode cX5_set 23 = .ok (.aload_n 0, 1) := by decide +kernel
theorem dX5_set_24 : decode cX5_set 24 = .ok (.getfield 10, 3) := by decide +kernel
theorem dX5_set_27 : decode cX5_set 27 = .ok (.iload_n 1, 1) := by decide +kernel
theorem dX5_set_28 : decode cX5_set 28 = .ok (.invokevirtual 174, 3) := by decide +kernel
theorem dX5_set_31 : decode cX5_set 31 = .ok (.istore_n 3, 1) := by decide +kernel
theorem dX5_set_32 : decode cX5_set 32 = .ok (.aload_n 0, 1) := by decide +kernel
theorem dX5_set_33 : decode cX5_set 33 = .ok (.getfield 10, 3) := by decide +kernel
theorem dX5_set_36 : decode cX5_set 36 = .ok (.iload_n 1, 1) := by decide +kernel
theorem dX5_set_37 : decode cX5_set 37 = .ok (.iload_n 2, 1) := by decide +kernel
theorem dX5_set_38 : decode cX5_set 38 = .ok (.invokevirtual 239, 3) := by decide +kernel
theorem dX5_set_41 : decode cX5_set 41 = .ok (.iload_n 3, 1) := by decide +kernel
theorem dX5_set_42 : decode cX5_set 42 = .ok (.ireturn, 1) := by decide +kernel
theorem dX5_undo_0 : decode cX5_undo 0 = .ok (.aload_n 0, 1) := by decide +kernel
theorem dX5_undo_1 : decode cX5_undo 1 = .ok (.getfield 22, 3) := by decide +kernel
theorem dX5_undo_4 : decode cX5_undo 4 = .ok (.invokevirtual 242, 3) := by decide +kernel
theorem dX5_undo_7 : decode cX5_undo 7 = .ok (.ifCond .eq 13, 3) := by decide +kernel
theorem dX5_undo_10 : decode cX5_undo 10 = .ok (.new 63, 3) := by decide +kernel
theorem dX5_undo_13 : decode cX5_undo 13 = .ok (.dup, 1) := by decide +kernel
theorem dX5_undo_14 : decode cX5_undo 14 = .ok (.ldc 245, 2) := by decide +kernel
theorem dX5_undo_16 : decode cX5_undo 16 = .ok (.invokespecial 67, 3) := by decide +kernel
theorem dX5_undo_19 : decode cX5_undo 19 = .ok (.athrow, 1) := by decide +kernel
theorem dX5_undo_20 : decode cX5_undo 20 = .ok (.aload_n 0, 1) := by decide +kernel
theorem dX5_undo_21 : decode cX5_undo 21 = .ok (.getfield 22, 3) := by decide +kernel
theorem dX5_undo_24 : decode cX5_undo 24 = .ok (.aload_n 0, 1) := by decide +kernel
theorem dX5_undo_25 : decode cX5_undo 25 = .ok (.getfield 10, 3) := by decide +kernel
theorem dX5_undo_28 : decode cX5_undo 28 = .ok (.invokevirtual 247, 3) := by decide +kernel
theorem dX5_undo_31 : decode cX5_undo 31 = .ok (.aload_n 0, 1) := by decide +kernel
theorem dX5_undo_32 : decode cX5_undo 32 = .ok (.getfield 22, 3) := by decide +kernel
theorem dX5_undo_35 : decode cX5_undo 35 = .ok (.invokevirtual 250, 3) := by decide +kernel
theorem dX5_undo_38 : decode cX5_undo 38 = .ok (.ireturn, 1) := by decide +kernel
theorem dX5_best_0 : decode cX5_best 0 = .ok (.aload_n 0, 1) := by decide +kernel
theorem dX5_best_1 : decode cX5_best 1 = .ok (.getfield 44, 3) := by decide +kernel
theorem dX5_best_4 : decode cX5_best 4 = .ok (.aload_n 0, 1) := by decide +kernel
theorem dX5_best_5 : decode cX5_best 5 = .ok (.getfield 10, 3) := by decide +kernel
theorem dX5_best_8 : decode cX5_best 8 = .ok (.iconst (-1), 1) := by decide +kernel
theorem dX5_best_9 : decode cX5_best 9 = .ok (.iconst (-1), 1) := by decide +kernel
theorem dX5_best_10 : decode cX5_best 10 = .ok (.invokevirtual 253, 3) := by decide +kernel
theorem dX5_best_13 : decode cX5_best 13 = .ok (.ireturn, 1) := by decide +kernel
theorem dX5_gets_0 : decode cX5_gets 0 = .ok (.aload_n 0, 1) := by decide +kernel
theorem dX5_gets_1 : decode cX5_gets 1 = .ok (.iload_n 1, 1) := by decide +kernel
theorem dX5_gets_2 : decode cX5_gets 2 = .ok (.invokevirtual 133, 3) := by decide +kernel
theorem dX5_gets_5 : decode cX5_gets 5 = .ok (.aload_n 0, 1) := by decide +kernel
theorem dX5_gets_6 : decode cX5_gets 6 = .ok (.getfield 44, 3) := by decide +kernel
theorem dX5_gets_9 : decode cX5_gets 9 = .ok (.aload_n 0, 1) := by decide +kernel
theorem dX5_gets_10 : decode cX5_gets 10 = .ok (.getfield 10, 3) := by decide +kernel
theorem dX5_gets_13 : decode cX5_gets 13 = .ok (.iconst (-1), 1) := by decide +kernel
theorem dX5_gets_14 : decode cX5_gets 14 = .ok (.iconst (-1), 1) := by decide +kernel
theorem dX5_gets_15 : decode cX5_gets 15 = .ok (.invokevirtual 253, 3) := by decide +kernel
theorem dX5_gets_18 : decode cX5_gets 18 = .ok (.pop, 1) := by decide +kernel
theorem dX5_gets_19 : decode cX5_gets 19 = .ok (.aload_n 0, 1) := by decide +kernel
theorem dX5_gets_20 : decode cX5_gets 20 = .ok (.getfield 44, 3) := by decide +kernel
theorem dX5_gets_23 : decode cX5_gets 23 = .ok (.iload_n 1, 1) := by decide +kernel
theorem dX5_gets_24 : decode cX5_gets 24 = .ok (.invokevirtual 257, 3) := by decide +kernel
theorem dX5_gets_27 : decode cX5_gets 27 = .ok (.ireturn, 1) := by decide +kernel
theorem dX5_pays_0 : decode cX5_pays 0 = .ok (.aload_n 0, 1) := by decide +kernel
theorem dX5_pays_1 : decode cX5_pays 1 = .ok (.iload_n 1, 1) := by decide +kernel
theorem dX5_pays_2 : decode cX5_pays 2 = .ok (.invokevirtual 133, 3) := by decide +kernel
theorem dX5_pays_5 : decode cX5_pays 5 = .ok (.aload_n 0, 1) := by decide +kernel
theorem dX5_pays_6 : decode cX5_pays 6 = .ok (.getfield 44, 3) := by decide +kernel
theorem dX5_pays_9 : decode cX5_pays 9 = .ok (.aload_n 0, 1) := by decide +kernel
theorem dX5_pays_10 : decode cX5_pays 10 = .ok (.getfield 10, 3) := by decide +kernel
theorem dX5_pays_13 : decode cX5_pays 13 = .ok (.iconst (-1), 1) := by decide +kernel
theorem dX5_pays_14 : decode cX5_pays 14 = .ok (.iconst (-1), 1) := by decide +kernel
theorem dX5_pays_15 : decode cX5_pays 15 = .ok (.invokevirtual 253, 3) := by decide +kernel
theorem dX5_pays_18 : decode cX5_pays 18 = .ok (.istore_n 2, 1) := by decide +kernel
theorem dX5_pays_19 : decode cX5_pays 19 = .ok (.aload_n 0, 1) := by decide +kernel
theorem dX5_pays_20 : decode cX5_pays 20 = .ok (.getfield 44, 3) := by decide +kernel
theorem dX5_pays_23 : decode cX5_pays 23 = .ok (.iload_n 1, 1) := by decide +kernel
theorem dX5_pays_24 : decode cX5_pays 24 = .ok (.invokevirtual 257, 3) := by decide +kernel
theorem dX5_pays_27 : decode cX5_pays 27 = .ok (.istore_n 3, 1) := by decide +kernel
theorem dX5_pays_28 : decode cX5_pays 28 = .ok (.iload_n 3, 1) := by decide +kernel
theorem dX5_pays_29 : decode cX5_pays 29 = .ok (.iconst (-1), 1) := by decide +kernel
theorem dX5_pays_30 : decode cX5_pays 30 = .ok (.if_icmp .ne 7, 3) := by decide +kernel
theorem dX5_pays_33 : decode cX5_pays 33 = .ok (.iconst 0, 1) := by decide +kernel
theorem dX5_pays_34 : decode cX5_pays 34 = .ok (.goto 12, 3) := by decide +kernel
theorem dX5_pays_37 : decode cX5_pays 37 = .ok (.aload_n 0, 1) := by decide +kernel
theorem dX5_pays_38 : decode cX5_pays 38 = .ok (.getfield 10, 3) := by decide +kernel
theorem dX5_pays_41 : decode cX5_pays 41 = .ok (.iload_n 1, 1) := by decide +kernel
theorem dX5_pays_42 : decode cX5_pays 42 = .ok (.iload_n 3, 1) := by decide +kernel
theorem dX5_pays_43 : decode cX5_pays 43 = .ok (.invokevirtual 165, 3) := by decide +kernel
theorem dX5_pays_46 : decode cX5_pays 46 = .ok (.istore 4, 2) := by decide +kernel
theorem dX5_pays_48 : decode cX5_pays 48 = .ok (.aload_n 0, 1) := by decide +kernel
theorem dX5_pays_49 : decode cX5_pays 49 = .ok (.getfield 44, 3) := by decide +kernel
theorem dX5_pays_52 : decode cX5_pays 52 = .ok (.aload_n 0, 1) := by decide +kernel
theorem dX5_pays_53 : decode cX5_pays 53 = .ok (.getfield 10, 3) := by decide +kernel
theorem dX5_pays_56 : decode cX5_pays 56 = .ok (.iload_n 1, 1) := by decide +kernel
theorem dX5_pays_57 : decode cX5_pays 57 = .ok (.iconst (-1), 1) := by decide +kernel
theorem dX5_pays_58 : decode cX5_pays 58 = .ok (.invokevirtual 253, 3) := by decide +kernel
theorem dX5_pays_61 : decode cX5_pays 61 = .ok (.iload_n 2, 1) := by decide +kernel
theorem dX5_pays_62 : decode cX5_pays 62 = .ok (.iload 4, 2) := by decide +kernel
theorem dX5_pays_64 : decode cX5_pays 64 = .ok (.isub, 1) := by decide +kernel
theorem dX5_pays_65 : decode cX5_pays 65 = .ok (.isub, 1) := by decide +kernel
theorem dX5_pays_66 : decode cX5_pays 66 = .ok (.ireturn, 1) := by decide +kernel
theorem dX5_oneMore_0 : decode cX5_oneMore 0 = .ok (.aload_n 0, 1) := by decide +kernel
theorem dX5_oneMore_1 : decode cX5_oneMore 1 = .ok (.iload_n 1, 1) := by decide +kernel
theorem dX5_oneMore_2 : decode cX5_oneMore 2 = .ok (.invokevirtual 113, 3) := by decide +kernel
theorem dX5_oneMore_5 : decode cX5_oneMore 5 = .ok (.aload_n 0, 1) := by decide +kernel
theorem dX5_oneMore_6 : decode cX5_oneMore 6 = .ok (.getfield 44, 3) := by decide +kernel
theorem dX5_oneMore_9 : decode cX5_oneMore 9 = .ok (.aload_n 0, 1) := by decide +kernel
theorem dX5_oneMore_10 : decode cX5_oneMore 10 = .ok (.getfield 10, 3) := by decide +kernel
theorem dX5_oneMore_13 : decode cX5_oneMore 13 = .ok (.iconst (-1), 1) := by decide +kernel
theorem dX5_oneMore_14 : decode cX5_oneMore 14 = .ok (.iconst (-1), 1) := by decide +kernel
theorem dX5_oneMore_15 : decode cX5_oneMore 15 = .ok (.invokevirtual 253, 3) := by decide +kernel
theorem dX5_oneMore_18 : decode cX5_oneMore 18 = .ok (.istore_n 2, 1) := by decide +kernel
theorem dX5_oneMore_19 : decode cX5_oneMore 19 = .ok (.aload_n 0, 1) := by decide +kernel
theorem dX5_oneMore_20 : decode cX5_oneMore 20 = .ok (.getfield 44, 3) := by decide +kernel
theorem dX5_oneMore_23 : decode cX5_oneMore 23 = .ok (.aload_n 0, 1) := by decide +kernel
theorem dX5_oneMore_24 : decode cX5_oneMore 24 = .ok (.getfield 10, 3) := by decide +kernel
theorem dX5_oneMore_27 : decode cX5_oneMore 27 = .ok (.iconst (-1), 1) := by decide +kernel
theorem dX5_oneMore_28 : decode cX5_oneMore 28 = .ok (.iload_n 1, 1) := by decide +kernel
theorem dX5_oneMore_29 : decode cX5_oneMore 29 = .ok (.invokevirtual 253, 3) := by decide +kernel
theorem dX5_oneMore_32 : decode cX5_oneMore 32 = .ok (.iload_n 2, 1) := by decide +kernel
theorem dX5_oneMore_33 : decode cX5_oneMore 33 = .ok (.isub, 1) := by decide +kernel
theorem dX5_oneMore_34 : decode cX5_oneMore 34 = .ok (.ireturn, 1) := by decide +kernel
theorem dX5_leastMissed_0 : decode cX5_leastMissed 0 = .ok (.iconst (-1), 1) := by decide +kernel
theorem dX5_leastMissed_1 : decode cX5_leastMissed 1 = .ok (.istore_n 1, 1) := by decide +kernel
theorem dX5_leastMissed_2 : decode cX5_leastMissed 2 = .ok (.iconst (-1), 1) := by decide +kernel
theorem dX5_leastMissed_3 : decode cX5_leastMissed 3 = .ok (.istore_n 2, 1) := by decide +kernel
theorem dX5_leastMissed_4 : decode cX5_leastMissed 4 = .ok (.iconst 0, 1) := by decide +kernel
theorem dX5_leastMissed_5 : decode cX5_leastMissed 5 = .ok (.istore_n 3, 1) := by decide +kernel
theorem dX5_leastMissed_6 : decode cX5_leastMissed 6 = .ok (.iload_n 3, 1) := by decide +kernel
theorem dX5_leastMissed_7 : decode cX5_leastMissed 7 = .ok (.aload_n 0, 1) := by decide +kernel
theorem dX5_leastMissed_8 : decode cX5_leastMissed 8 = .ok (.getfield 10, 3) := by decide +kernel
theorem dX5_leastMissed_11 : decode cX5_leastMissed 11 = .ok (.getfield 91, 3) := by decide +kernel
theorem dX5_leastMissed_14 : decode cX5_leastMissed 14 = .ok (.if_icmp .ge 35, 3) := by decide +kernel
theorem dX5_leastMissed_17 : decode cX5_leastMissed 17 = .ok (.aload_n 0, 1) := by decide +kernel
theorem dX5_leastMissed_18 : decode cX5_leastMissed 18 = .ok (.getfield 44, 3) := by decide +kernel
theorem dX5_leastMissed_21 : decode cX5_leastMissed 21 = .ok (.aload_n 0, 1) := by decide +kernel
theorem dX5_leastMissed_22 : decode cX5_leastMissed 22 = .ok (.getfield 10, 3) := by decide +kernel
theorem dX5_leastMissed_25 : decode cX5_leastMissed 25 = .ok (.iload_n 3, 1) := by decide +kernel
theorem dX5_leastMissed_26 : decode cX5_leastMissed 26 = .ok (.iconst (-1), 1) := by decide +kernel
theorem dX5_leastMissed_27 : decode cX5_leastMissed 27 = .ok (.invokevirtual 253, 3) := by decide +kernel
theorem dX5_leastMissed_30 : decode cX5_leastMissed 30 = .ok (.istore 4, 2) := by decide +kernel
theorem dX5_leastMissed_32 : decode cX5_leastMissed 32 = .ok (.iload 4, 2) := by decide +kernel
theorem dX5_leastMissed_34 : decode cX5_leastMissed 34 = .ok (.iload_n 2, 1) := by decide +kernel
theorem dX5_leastMissed_35 : decode cX5_leastMissed 35 = .ok (.if_icmp .le 8, 3) := by decide +kernel
theorem dX5_leastMissed_38 : decode cX5_leastMissed 38 = .ok (.iload 4, 2) := by decide +kernel
theorem dX5_leastMissed_40 : decode cX5_leastMissed 40 = .ok (.istore_n 2, 1) := by decide +kernel
theorem dX5_leastMissed_41 : decode cX5_leastMissed 41 = .ok (.iload_n 3, 1) := by decide +kernel
theorem dX5_leastMissed_42 : decode cX5_leastMissed 42 = .ok (.istore_n 1, 1) := by decide +kernel
theorem dX5_leastMissed_43 : decode cX5_leastMissed 43 = .ok (.iinc 3 1, 3) := by decide +kernel
theorem dX5_leastMissed_46 : decode cX5_leastMissed 46 = .ok (.goto (-40), 3) := by decide +kernel
theorem dX5_leastMissed_49 : decode cX5_leastMissed 49 = .ok (.iload_n 1, 1) := by decide +kernel
theorem dX5_leastMissed_50 : decode cX5_leastMissed 50 = .ok (.ireturn, 1) := by decide +kernel
theorem dX5_wouldAsk_0 : decode cX5_wouldAsk 0 = .ok (.aload_n 0, 1) := by decide +kernel
theorem dX5_wouldAsk_1 : decode cX5_wouldAsk 1 = .ok (.iload_n 1, 1) := by decide +kernel
theorem dX5_wouldAsk_2 : decode cX5_wouldAsk 2 = .ok (.invokevirtual 133, 3) := by decide +kernel
theorem dX5_wouldAsk_5 : decode cX5_wouldAsk 5 = .ok (.aload_n 0, 1) := by decide +kernel
theorem dX5_wouldAsk_6 : decode cX5_wouldAsk 6 = .ok (.iload_n 2, 1) := by decide +kernel
theorem dX5_wouldAsk_7 : decode cX5_wouldAsk 7 = .ok (.invokevirtual 113, 3) := by decide +kernel
theorem dX5_wouldAsk_10 : decode cX5_wouldAsk 10 = .ok (.aload_n 0, 1) := by decide +kernel
theorem dX5_wouldAsk_11 : decode cX5_wouldAsk 11 = .ok (.getfield 16, 3) := by decide +kernel
theorem dX5_wouldAsk_14 : decode cX5_wouldAsk 14 = .ok (.aload_n 0, 1) := by decide +kernel
theorem dX5_wouldAsk_15 : decode cX5_wouldAsk 15 = .ok (.getfield 10, 3) := by decide +kernel
theorem dX5_wouldAsk_18 : decode cX5_wouldAsk 18 = .ok (.invokevirtual 260, 3) := by decide +kernel
theorem dX5_wouldAsk_21 : decode cX5_wouldAsk 21 = .ok (.aload_n 0, 1) := by decide +kernel
theorem dX5_wouldAsk_22 : decode cX5_wouldAsk 22 = .ok (.getfield 16, 3) := by decide +kernel
theorem dX5_wouldAsk_25 : decode cX5_wouldAsk 25 = .ok (.iload_n 1, 1) := by decide +kernel
theorem dX5_wouldAsk_26 : decode cX5_wouldAsk 26 = .ok (.invokevirtual 213, 3) := by decide +kernel
theorem dX5_wouldAsk_29 : decode cX5_wouldAsk 29 = .ok (.aload_n 0, 1) := by decide +kernel
theorem dX5_wouldAsk_30 : decode cX5_wouldAsk 30 = .ok (.getfield 16, 3) := by decide +kernel
theorem dX5_wouldAsk_33 : decode cX5_wouldAsk 33 = .ok (.getfield 153, 3) := by decide +kernel
theorem dX5_wouldAsk_36 : decode cX5_wouldAsk 36 = .ok (.iload_n 1, 1) := by decide +kernel
theorem dX5_wouldAsk_37 : decode cX5_wouldAsk 37 = .ok (.iload_n 2, 1) := by decide +kernel
theorem dX5_wouldAsk_38 : decode cX5_wouldAsk 38 = .ok (.invokestatic 156, 3) := by decide +kernel
theorem dX5_wouldAsk_41 : decode cX5_wouldAsk 41 = .ok (.iaload, 1) := by decide +kernel
theorem dX5_wouldAsk_42 : decode cX5_wouldAsk 42 = .ok (.ireturn, 1) := by decide +kernel
theorem dX5_roundsLeft_0 : decode cX5_roundsLeft 0 = .ok (.aload_n 0, 1) := by decide +kernel
theorem dX5_roundsLeft_1 : decode cX5_roundsLeft 1 = .ok (.invokevirtual 263, 3) := by decide +kernel
theorem dX5_roundsLeft_4 : decode cX5_roundsLeft 4 = .ok (.istore_n 1, 1) := by decide +kernel
theorem dX5_roundsLeft_5 : decode cX5_roundsLeft 5 = .ok (.aload_n 0, 1) := by decide +kernel
theorem dX5_roundsLeft_6 : decode cX5_roundsLeft 6 = .ok (.getfield 16, 3) := by decide +kernel
theorem dX5_roundsLeft_9 : decode cX5_roundsLeft 9 = .ok (.getfield 98, 3) := by decide +kernel
theorem dX5_roundsLeft_12 : decode cX5_roundsLeft 12 = .ok (.ifCond .eq 7, 3) := by decide +kernel
theorem dX5_roundsLeft_15 : decode cX5_roundsLeft 15 = .ok (.iload_n 1, 1) := by decide +kernel
theorem dX5_roundsLeft_16 : decode cX5_roundsLeft 16 = .ok (.goto 4, 3) := by decide +kernel
theorem dX5_roundsLeft_19 : decode cX5_roundsLeft 19 = .ok (.iconst (-1), 1) := by decide +kernel
theorem dX5_roundsLeft_20 : decode cX5_roundsLeft 20 = .ok (.ireturn, 1) := by decide +kernel
theorem dX5_endPrice_0 : decode cX5_endPrice 0 = .ok (.aload_n 0, 1) := by decide +kernel
theorem dX5_endPrice_1 : decode cX5_endPrice 1 = .ok (.iload_n 1, 1) := by decide +kernel
theorem dX5_endPrice_2 : decode cX5_endPrice 2 = .ok (.invokevirtual 113, 3) := by decide +kernel
theorem dX5_endPrice_5 : decode cX5_endPrice 5 = .ok (.aload_n 0, 1) := by decide +kernel
theorem dX5_endPrice_6 : decode cX5_endPrice 6 = .ok (.invokevirtual 263, 3) := by decide +kernel
theorem dX5_endPrice_9 : decode cX5_endPrice 9 = .ok (.pop, 1) := by decide +kernel
theorem dX5_endPrice_10 : decode cX5_endPrice 10 = .ok (.aload_n 0, 1) := by decide +kernel
theorem dX5_endPrice_11 : decode cX5_endPrice 11 = .ok (.getfield 16, 3) := by decide +kernel
theorem dX5_endPrice_14 : decode cX5_endPrice 14 = .ok (.getfield 124, 3) := by decide +kernel
theorem dX5_endPrice_17 : decode cX5_endPrice 17 = .ok (.iload_n 1, 1) := by decide +kernel
theorem dX5_endPrice_18 : decode cX5_endPrice 18 = .ok (.iaload, 1) := by decide +kernel
theorem dX5_endPrice_19 : decode cX5_endPrice 19 = .ok (.ireturn, 1) := by decide +kernel
theorem dX5_runScript_0 : decode cX5_runScript 0 = .ok (.iload_n 1, 1) := by decide +kernel
theorem dX5_runScript_1 : decode cX5_runScript 1 = .ok (.iconst 1, 1) := by decide +kernel
theorem dX5_runScript_2 : decode cX5_runScript 2 = .ok (.iconst 3, 1) := by decide +kernel
theorem dX5_runScript_3 : decode cX5_runScript 3 = .ok (.invokestatic 48, 3) := by decide +kernel
theorem dX5_runScript_6 : decode cX5_runScript 6 = .ok (.ifCond .eq 14, 3) := by decide +kernel
theorem dX5_runScript_9 : decode cX5_runScript 9 = .ok (.new 52, 3) := by decide +kernel
theorem dX5_runScript_12 : decode cX5_runScript 12 = .ok (.dup, 1) := by decide +kernel
theorem dX5_runScript_13 : decode cX5_runScript 13 = .ok (.ldc_w 266, 3) := by decide +kernel
theorem dX5_runScript_16 : decode cX5_runScript 16 = .ok (.invokespecial 56, 3) := by decide +kernel
theorem dX5_runScript_19 : decode cX5_runScript 19 = .ok (.athrow, 1) := by decide +kernel
theorem dX5_runScript_20 : decode cX5_runScript 20 = .ok (.lconst 1, 1) := by decide +kernel
theorem dX5_runScript_21 : decode cX5_runScript 21 = .ok (.lstore 4, 2) := by decide +kernel
theorem dX5_runScript_23 : decode cX5_runScript 23 = .ok (.iconst 1, 1) := by decide +kernel
theorem dX5_runScript_24 : decode cX5_runScript 24 = .ok (.istore 6, 2) := by decide +kernel
theorem dX5_runScript_26 : decode cX5_runScript 26 = .ok (.iload 6, 2) := by decide +kernel
theorem dX5_runScript_28 : decode cX5_runScript 28 = .ok (.iload_n 1, 1) := by decide +kernel
theorem dX5_runScript_29 : decode cX5_runScript 29 = .ok (.if_icmp .ge 17, 3) := by decide +kernel
theorem dX5_runScript_32 : decode cX5_runScript 32 = .ok (.lload 4, 2) := by decide +kernel
theorem dX5_runScript_34 : decode cX5_runScript 34 = .ok (.ldc2_w 268, 3) := by decide +kernel
theorem dX5_runScript_37 : decode cX5_runScript 37 = .ok (.lmul, 1) := by decide +kernel
theorem dX5_runScript_38 : decode cX5_runScript 38 = .ok (.lstore 4, 2) := by decide +kernel
theorem dX5_runScript_40 : decode cX5_runScript 40 = .ok (.iinc 6 1, 3) := by decide +kernel
theorem dX5_runScript_43 : decode cX5_runScript 43 = .ok (.goto (-17), 3) := by decide +kernel
theorem dX5_runScript_46 : decode cX5_runScript 46 = .ok (.lload_n 2, 1) := by decide +kernel
theorem dX5_runScript_47 : decode cX5_runScript 47 = .ok (.lconst 0, 1) := by decide +kernel
theorem dX5_runScript_48 : decode cX5_runScript 48 = .ok (.lcmp, 1) := by decide +kernel
theorem dX5_runScript_49 : decode cX5_runScript 49 = .ok (.ifCond .lt 14, 3) := by decide +kernel
theorem dX5_runScript_52 : decode cX5_runScript 52 = .ok (.lload_n 2, 1) := by decide +kernel
theorem dX5_runScript_53 : decode cX5_runScript 53 = .ok (.ldc2_w 268, 3) := by decide +kernel
theorem dX5_runScript_56 : decode cX5_runScript 56 = .ok (.ldiv, 1) := by decide +kernel
theorem dX5_runScript_57 : decode cX5_runScript 57 = .ok (.lload 4, 2) := by decide +kernel
theorem dX5_runScript_59 : decode cX5_runScript 59 = .ok (.lcmp, 1) := by decide +kernel
theorem dX5_runScript_60 : decode cX5_runScript 60 = .ok (.ifCond .lt 14, 3) := by decide +kernel
theorem dX5_runScript_63 : decode cX5_runScript 63 = .ok (.new 52, 3) := by decide +kernel
theorem dX5_runScript_66 : decode cX5_runScript 66 = .ok (.dup, 1) := by decide +kernel
theorem dX5_runScript_67 : decode cX5_runScript 67 = .ok (.ldc_w 270, 3) := by decide +kernel
theorem dX5_runScript_70 : decode cX5_runScript 70 = .ok (.invokespecial 56, 3) := by decide +kernel
theorem dX5_runScript_73 : decode cX5_runScript 73 = .ok (.athrow, 1) := by decide +kernel
theorem dX5_runScript_74 : decode cX5_runScript 74 = .ok (.aload_n 0, 1) := by decide +kernel
theorem dX5_runScript_75 : decode cX5_runScript 75 = .ok (.getfield 16, 3) := by decide +kernel
theorem dX5_runScript_78 : decode cX5_runScript 78 = .ok (.aload_n 0, 1) := by decide +kernel
theorem dX5_runScript_79 : decode cX5_runScript 79 = .ok (.getfield 10, 3) := by decide +kernel
theorem dX5_runScript_82 : decode cX5_runScript 82 = .ok (.invokevirtual 260, 3) := by decide +kernel
theorem dX5_runScript_85 : decode cX5_runScript 85 = .ok (.iconst 0, 1) := by decide +kernel
theorem dX5_runScript_86 : decode cX5_runScript 86 = .ok (.istore 6, 2) := by decide +kernel
theorem dX5_runScript_88 : decode cX5_runScript 88 = .ok (.iload 6, 2) := by decide +kernel
theorem dX5_runScript_90 : decode cX5_runScript 90 = .ok (.iload_n 1, 1) := by decide +kernel
theorem dX5_runScript_91 : decode cX5_runScript 91 = .ok (.if_icmp .ge 46, 3) := by decide +kernel
theorem dX5_runScript_94 : decode cX5_runScript 94 = .ok (.lload 4, 2) := by decide +kernel
theorem dX5_runScript_96 : decode cX5_runScript 96 = .ok (.lconst 0, 1) := by decide +kernel
theorem dX5_runScript_97 : decode cX5_runScript 97 = .ok (.lcmp, 1) := by decide +kernel
theorem dX5_runScript_98 : decode cX5_runScript 98 = .ok (.ifCond .le 39, 3) := by decide +kernel
theorem dX5_runScript_101 : decode cX5_runScript 101 = .ok (.aload_n 0, 1) := by decide +kernel
theorem dX5_runScript_102 : decode cX5_runScript 102 = .ok (.getfield 16, 3) := by decide +kernel
theorem dX5_runScript_105 : decode cX5_runScript 105 = .ok (.lload_n 2, 1) := by decide +kernel
theorem dX5_runScript_106 : decode cX5_runScript 106 = .ok (.lload 4, 2) := by decide +kernel
theorem dX5_runScript_108 : decode cX5_runScript 108 = .ok (.ldiv, 1) := by decide +kernel
theorem dX5_runScript_109 : decode cX5_runScript 109 = .ok (.ldc2_w 268, 3) := by decide +kernel
theorem dX5_runScript_112 : decode cX5_runScript 112 = .ok (.lrem, 1) := by decide +kernel
theorem dX5_runScript_113 : decode cX5_runScript 113 = .ok (.l2i, 1) := by decide +kernel
theorem dX5_runScript_114 : decode cX5_runScript 114 = .ok (.invokestatic 272, 3) := by decide +kernel
theorem dX5_runScript_117 : decode cX5_runScript 117 = .ok (.ifCond .ne 6, 3) := by decide +kernel
theorem dX5_runScript_120 : decode cX5_runScript 120 = .ok (.iload 6, 2) := by decide +kernel
theorem dX5_runScript_122 : decode cX5_runScript 122 = .ok (.ireturn, 1) := by decide +kernel
theorem dX5_runScript_123 : decode cX5_runScript 123 = .ok (.lload 4, 2) := by decide +kernel
theorem dX5_runScript_125 : decode cX5_runScript 125 = .ok (.ldc2_w 268, 3) := by decide +kernel
theorem dX5_runScript_128 : decode cX5_runScript 128 = .ok (.ldiv, 1) := by decide +kernel
theorem dX5_runScript_129 : decode cX5_runScript 129 = .ok (.lstore 4, 2) := by decide +kernel
theorem dX5_runScript_131 : decode cX5_runScript 131 = .ok (.iinc 6 1, 3) := by decide +kernel
theorem dX5_runScript_134 : decode cX5_runScript 134 = .ok (.goto (-46), 3) := by decide +kernel
theorem dX5_runScript_137 : decode cX5_runScript 137 = .ok (.iconst (-1), 1) := by decide +kernel
theorem dX5_runScript_138 : decode cX5_runScript 138 = .ok (.ireturn, 1) := by decide +kernel
theorem dX5_simulate_0 : decode cX5_simulate 0 = .ok (.iload_n 3, 1) := by decide +kernel
theorem dX5_simulate_1 : decode cX5_simulate 1 = .ok (.iconst 1, 1) := by decide +kernel
theorem dX5_simulate_2 : decode cX5_simulate 2 = .ok (.bipush 99, 2) := by decide +kernel
theorem dX5_simulate_4 : decode cX5_simulate 4 = .ok (.invokestatic 48, 3) := by decide +kernel
theorem dX5_simulate_7 : decode cX5_simulate 7 = .ok (.ifCond .eq 14, 3) := by decide +kernel
theorem dX5_simulate_10 : decode cX5_simulate 10 = .ok (.new 52, 3) := by decide +kernel
theorem dX5_simulate_13 : decode cX5_simulate 13 = .ok (.dup, 1) := by decide +kernel
theorem dX5_simulate_14 : decode cX5_simulate 14 = .ok (.ldc_w 278, 3) := by decide +kernel
theorem dX5_simulate_17 : decode cX5_simulate 17 = .ok (.invokespecial 56, 3) := by decide +kernel
theorem dX5_simulate_20 : decode cX5_simulate 20 = .ok (.athrow, 1) := by decide +kernel
theorem dX5_simulate_21 : decode cX5_simulate 21 = .ok (.aload_n 0, 1) := by decide +kernel
theorem dX5_simulate_22 : decode cX5_simulate 22 = .ok (.getfield 16, 3) := by decide +kernel
theorem dX5_simulate_25 : decode cX5_simulate 25 = .ok (.aload_n 0, 1) := by decide +kernel
theorem dX5_simulate_26 : decode cX5_simulate 26 = .ok (.getfield 10, 3) := by decide +kernel
theorem dX5_simulate_29 : decode cX5_simulate 29 = .ok (.invokevirtual 260, 3) := by decide +kernel
theorem dX5_simulate_32 : decode cX5_simulate 32 = .ok (.lload_n 1, 1) := by decide +kernel
theorem dX5_simulate_33 : decode cX5_simulate 33 = .ok (.lstore 4, 2) := by decide +kernel
theorem dX5_simulate_35 : decode cX5_simulate 35 = .ok (.iconst 0, 1) := by decide +kernel
theorem dX5_simulate_36 : decode cX5_simulate 36 = .ok (.istore 6, 2) := by decide +kernel
theorem dX5_simulate_38 : decode cX5_simulate 38 = .ok (.iload 6, 2) := by decide +kernel
theorem dX5_simulate_40 : decode cX5_simulate 40 = .ok (.iload_n 3, 1) := by decide +kernel
theorem dX5_simulate_41 : decode cX5_simulate 41 = .ok (.if_icmp .ge 34, 3) := by decide +kernel
theorem dX5_simulate_44 : decode cX5_simulate 44 = .ok (.lload 4, 2) := by decide +kernel
theorem dX5_simulate_46 : decode cX5_simulate 46 = .ok (.ldc2_w 280, 3) := by decide +kernel
theorem dX5_simulate_49 : decode cX5_simulate 49 = .ok (.lmul, 1) := by decide +kernel
theorem dX5_simulate_50 : decode cX5_simulate 50 = .ok (.ldc2_w 282, 3) := by decide +kernel
theorem dX5_simulate_53 : decode cX5_simulate 53 = .ok (.ladd, 1) := by decide +kernel
theorem dX5_simulate_54 : decode cX5_simulate 54 = .ok (.lstore 4, 2) := by decide +kernel
theorem dX5_simulate_56 : decode cX5_simulate 56 = .ok (.aload_n 0, 1) := by decide +kernel
theorem dX5_simulate_57 : decode cX5_simulate 57 = .ok (.getfield 16, 3) := by decide +kernel
theorem dX5_simulate_60 : decode cX5_simulate 60 = .ok (.lload 4, 2) := by decide +kernel
theorem dX5_simulate_62 : decode cX5_simulate 62 = .ok (.bipush 33, 2) := by decide +kernel
theorem dX5_simulate_64 : decode cX5_simulate 64 = .ok (.lushr, 1) := by decide +kernel
theorem dX5_simulate_65 : decode cX5_simulate 65 = .ok (.l2i, 1) := by decide +kernel
theorem dX5_simulate_66 : decode cX5_simulate 66 = .ok (.invokestatic 284, 3) := by decide +kernel
theorem dX5_simulate_69 : decode cX5_simulate 69 = .ok (.iinc 6 1, 3) := by decide +kernel
theorem dX5_simulate_72 : decode cX5_simulate 72 = .ok (.goto (-34), 3) := by decide +kernel
theorem dX5_simulate_75 : decode cX5_simulate 75 = .ok (.sipush 1000, 3) := by decide +kernel
theorem dX5_simulate_78 : decode cX5_simulate 78 = .ok (.aload_n 0, 1) := by decide +kernel
theorem dX5_simulate_79 : decode cX5_simulate 79 = .ok (.getfield 16, 3) := by decide +kernel
theorem dX5_simulate_82 : decode cX5_simulate 82 = .ok (.getfield 95, 3) := by decide +kernel
theorem dX5_simulate_85 : decode cX5_simulate 85 = .ok (.aload_n 0, 1) := by decide +kernel
theorem dX5_simulate_86 : decode cX5_simulate 86 = .ok (.getfield 10, 3) := by decide +kernel
theorem dX5_simulate_89 : decode cX5_simulate 89 = .ok (.getfield 95, 3) := by decide +kernel
theorem dX5_simulate_92 : decode cX5_simulate 92 = .ok (.isub, 1) := by decide +kernel
theorem dX5_simulate_93 : decode cX5_simulate 93 = .ok (.imul, 1) := by decide +kernel
theorem dX5_simulate_94 : decode cX5_simulate 94 = .ok (.aload_n 0, 1) := by decide +kernel
theorem dX5_simulate_95 : decode cX5_simulate 95 = .ok (.getfield 16, 3) := by decide +kernel
theorem dX5_simulate_98 : decode cX5_simulate 98 = .ok (.invokevirtual 288, 3) := by decide +kernel
theorem dX5_simulate_101 : decode cX5_simulate 101 = .ok (.iadd, 1) := by decide +kernel
theorem dX5_simulate_102 : decode cX5_simulate 102 = .ok (.ireturn, 1) := by decide +kernel
theorem dX5_save_0 : decode cX5_save 0 = .ok (.aload_n 0, 1) := by decide +kernel
theorem dX5_save_1 : decode cX5_save 1 = .ok (.iload_n 1, 1) := by decide +kernel
theorem dX5_save_2 : decode cX5_save 2 = .ok (.invokevirtual 291, 3) := by decide +kernel
theorem dX5_save_5 : decode cX5_save 5 = .ok (.aload_n 0, 1) := by decide +kernel
theorem dX5_save_6 : decode cX5_save 6 = .ok (.getfield 26, 3) := by decide +kernel
theorem dX5_save_9 : decode cX5_save 9 = .ok (.iload_n 1, 1) := by decide +kernel
theorem dX5_save_10 : decode cX5_save 10 = .ok (.aaload, 1) := by decide +kernel
theorem dX5_save_11 : decode cX5_save 11 = .ok (.aload_n 0, 1) := by decide +kernel
theorem dX5_save_12 : decode cX5_save 12 = .ok (.getfield 10, 3) := by decide +kernel
theorem dX5_save_15 : decode cX5_save 15 = .ok (.invokevirtual 260, 3) := by decide +kernel
theorem dX5_save_18 : decode cX5_save 18 = .ok (.aload_n 0, 1) := by decide +kernel
theorem dX5_save_19 : decode cX5_save 19 = .ok (.getfield 30, 3) := by decide +kernel
theorem dX5_save_22 : decode cX5_save 22 = .ok (.iload_n 1, 1) := by decide +kernel
theorem dX5_save_23 : decode cX5_save 23 = .ok (.iconst 1, 1) := by decide +kernel
theorem dX5_save_24 : decode cX5_save 24 = .ok (.bastore, 1) := by decide +kernel
theorem dX5_save_25 : decode cX5_save 25 = .ok (.aload_n 0, 1) := by decide +kernel
theorem dX5_save_26 : decode cX5_save 26 = .ok (.getfield 10, 3) := by decide +kernel
theorem dX5_save_29 : decode cX5_save 29 = .ok (.getfield 95, 3) := by decide +kernel
theorem dX5_save_32 : decode cX5_save 32 = .ok (.ireturn, 1) := by decide +kernel
theorem dX5_restore_0 : decode cX5_restore 0 = .ok (.aload_n 0, 1) := by decide +kernel
theorem dX5_restore_1 : decode cX5_restore 1 = .ok (.iload_n 1, 1) := by decide +kernel
theorem dX5_restore_2 : decode cX5_restore 2 = .ok (.invokevirtual 291, 3) := by decide +kernel
theorem dX5_restore_5 : decode cX5_restore 5 = .ok (.aload_n 0, 1) := by decide +kernel
theorem dX5_restore_6 : decode cX5_restore 6 = .ok (.getfield 30, 3) := by decide +kernel
theorem dX5_restore_9 : decode cX5_restore 9 = .ok (.iload_n 1, 1) := by decide +kernel
theorem dX5_restore_10 : decode cX5_restore 10 = .ok (.baload, 1) := by decide +kernel
theorem dX5_restore_11 : decode cX5_restore 11 = .ok (.ifCond .ne 14, 3) := by decide +kernel
theorem dX5_restore_14 : decode cX5_restore 14 = .ok (.new 63, 3) := by decide +kernel
theorem dX5_restore_17 : decode cX5_restore 17 = .ok (.dup, 1) := by decide +kernel
theorem dX5_restore_18 : decode cX5_restore 18 = .ok (.ldc_w 294, 3) := by decide +kernel
theorem dX5_restore_21 : decode cX5_restore 21 = .ok (.invokespecial 67, 3) := by decide +kernel
theorem dX5_restore_24 : decode cX5_restore 24 = .ok (.athrow, 1) := by decide +kernel
theorem dX5_restore_25 : decode cX5_restore 25 = .ok (.aload_n 0, 1) := by decide +kernel
theorem dX5_restore_26 : decode cX5_restore 26 = .ok (.getfield 10, 3) := by decide +kernel
theorem dX5_restore_29 : decode cX5_restore 29 = .ok (.aload_n 0, 1) := by decide +kernel
theorem dX5_restore_30 : decode cX5_restore 30 = .ok (.getfield 26, 3) := by decide +kernel
theorem dX5_restore_33 : decode cX5_restore 33 = .ok (.iload_n 1, 1) := by decide +kernel
theorem dX5_restore_34 : decode cX5_restore 34 = .ok (.aaload, 1) := by decide +kernel
theorem dX5_restore_35 : decode cX5_restore 35 = .ok (.invokevirtual 260, 3) := by decide +kernel
theorem dX5_restore_38 : decode cX5_restore 38 = .ok (.aload_n 0, 1) := by decide +kernel
theorem dX5_restore_39 : decode cX5_restore 39 = .ok (.getfield 22, 3) := by decide +kernel
theorem dX5_restore_42 : decode cX5_restore 42 = .ok (.invokevirtual 84, 3) := by decide +kernel
theorem dX5_restore_45 : decode cX5_restore 45 = .ok (.aload_n 0, 1) := by decide +kernel
theorem dX5_restore_46 : decode cX5_restore 46 = .ok (.getfield 10, 3) := by decide +kernel
theorem dX5_restore_49 : decode cX5_restore 49 = .ok (.getfield 95, 3) := by decide +kernel
theorem dX5_restore_52 : decode cX5_restore 52 = .ok (.ireturn, 1) := by decide +kernel
theorem dX5_runToTheEnd_0 : decode cX5_runToTheEnd 0 = .ok (.aload_n 0, 1) := by decide +kernel
theorem dX5_runToTheEnd_1 : decode cX5_runToTheEnd 1 = .ok (.getfield 16, 3) := by decide +kernel
theorem dX5_runToTheEnd_4 : decode cX5_runToTheEnd 4 = .ok (.aload_n 0, 1) := by decide +kernel
theorem dX5_runToTheEnd_5 : decode cX5_runToTheEnd 5 = .ok (.getfield 10, 3) := by decide +kernel
theorem dX5_runToTheEnd_8 : decode cX5_runToTheEnd 8 = .ok (.invokevirtual 260, 3) := by decide +kernel
theorem dX5_runToTheEnd_11 : decode cX5_runToTheEnd 11 = .ok (.iconst 0, 1) := by decide +kernel
theorem dX5_runToTheEnd_12 : decode cX5_runToTheEnd 12 = .ok (.istore_n 1, 1) := by decide +kernel
theorem dX5_runToTheEnd_13 : decode cX5_runToTheEnd 13 = .ok (.aload_n 0, 1) := by decide +kernel
theorem dX5_runToTheEnd_14 : decode cX5_runToTheEnd 14 = .ok (.getfield 16, 3) := by decide +kernel
theorem dX5_runToTheEnd_17 : decode cX5_runToTheEnd 17 = .ok (.getfield 98, 3) := by decide +kernel
theorem dX5_runToTheEnd_20 : decode cX5_runToTheEnd 20 = .ok (.ifCond .ne 51, 3) := by decide +kernel
theorem dX5_runToTheEnd_23 : decode cX5_runToTheEnd 23 = .ok (.iload_n 1, 1) := by decide +kernel
theorem dX5_runToTheEnd_24 : decode cX5_runToTheEnd 24 = .ok (.sipush 200, 3) := by decide +kernel
theorem dX5_runToTheEnd_27 : decode cX5_runToTheEnd 27 = .ok (.if_icmp .ge 44, 3) := by decide +kernel
theorem dX5_runToTheEnd_30 : decode cX5_runToTheEnd 30 = .ok (.iconst 0, 1) := by decide +kernel
theorem dX5_runToTheEnd_31 : decode cX5_runToTheEnd 31 = .ok (.istore_n 2, 1) := by decide +kernel
theorem dX5_runToTheEnd_32 : decode cX5_runToTheEnd 32 = .ok (.iload_n 2, 1) := by decide +kernel
theorem dX5_runToTheEnd_33 : decode cX5_runToTheEnd 33 = .ok (.aload_n 0, 1) := by decide +kernel
theorem dX5_runToTheEnd_34 : decode cX5_runToTheEnd 34 = .ok (.getfield 16, 3) := by decide +kernel
theorem dX5_runToTheEnd_37 : decode cX5_runToTheEnd 37 = .ok (.getfield 91, 3) := by decide +kernel
theorem dX5_runToTheEnd_40 : decode cX5_runToTheEnd 40 = .ok (.if_icmp .ge 17, 3) := by decide +kernel
theorem dX5_runToTheEnd_43 : decode cX5_runToTheEnd 43 = .ok (.aload_n 0, 1) := by decide +kernel
theorem dX5_runToTheEnd_44 : decode cX5_runToTheEnd 44 = .ok (.getfield 16, 3) := by decide +kernel
theorem dX5_runToTheEnd_47 : decode cX5_runToTheEnd 47 = .ok (.iload_n 2, 1) := by decide +kernel
theorem dX5_runToTheEnd_48 : decode cX5_runToTheEnd 48 = .ok (.invokevirtual 213, 3) := by decide +kernel
theorem dX5_runToTheEnd_51 : decode cX5_runToTheEnd 51 = .ok (.iinc 2 1, 3) := by decide +kernel
theorem dX5_runToTheEnd_54 : decode cX5_runToTheEnd 54 = .ok (.goto (-22), 3) := by decide +kernel
theorem dX5_runToTheEnd_57 : decode cX5_runToTheEnd 57 = .ok (.aload_n 0, 1) := by decide +kernel
theorem dX5_runToTheEnd_58 : decode cX5_runToTheEnd 58 = .ok (.getfield 16, 3) := by decide +kernel
theorem dX5_runToTheEnd_61 : decode cX5_runToTheEnd 61 = .ok (.invokevirtual 219, 3) := by decide +kernel
theorem dX5_runToTheEnd_64 : decode cX5_runToTheEnd 64 = .ok (.pop, 1) := by decide +kernel
theorem dX5_runToTheEnd_65 : decode cX5_runToTheEnd 65 = .ok (.iinc 1 1, 3) := by decide +kernel
theorem dX5_runToTheEnd_68 : decode cX5_runToTheEnd 68 = .ok (.goto (-55), 3) := by decide +kernel
theorem dX5_runToTheEnd_71 : decode cX5_runToTheEnd 71 = .ok (.iload_n 1, 1) := by decide +kernel
theorem dX5_runToTheEnd_72 : decode cX5_runToTheEnd 72 = .ok (.ireturn, 1) := by decide +kernel
theorem dX5_needKind_0 : decode cX5_needKind 0 = .ok (.iload_n 1, 1) := by decide +kernel
theorem dX5_needKind_1 : decode cX5_needKind 1 = .ok (.invokestatic 296, 3) := by decide +kernel
theorem dX5_needKind_4 : decode cX5_needKind 4 = .ok (.ifCond .eq 14, 3) := by decide +kernel
theorem dX5_needKind_7 : decode cX5_needKind 7 = .ok (.new 160, 3) := by decide +kernel
theorem dX5_needKind_10 : decode cX5_needKind 10 = .ok (.dup, 1) := by decide +kernel
theorem dX5_needKind_11 : decode cX5_needKind 11 = .ok (.ldc_w 300, 3) := by decide +kernel
theorem dX5_needKind_14 : decode cX5_needKind 14 = .ok (.invokespecial 164, 3) := by decide +kernel
theorem dX5_needKind_17 : decode cX5_needKind 17 = .ok (.athrow, 1) := by decide +kernel
theorem dX5_needKind_18 : decode cX5_needKind 18 = .ok (.return_, 1) := by decide +kernel
theorem dX5_needBidder_0 : decode cX5_needBidder 0 = .ok (.aload_n 0, 1) := by decide +kernel
theorem dX5_needBidder_1 : decode cX5_needBidder 1 = .ok (.getfield 10, 3) := by decide +kernel
theorem dX5_needBidder_4 : decode cX5_needBidder 4 = .ok (.iload_n 1, 1) := by decide +kernel
theorem dX5_needBidder_5 : decode cX5_needBidder 5 = .ok (.invokevirtual 302, 3) := by decide +kernel
theorem dX5_needBidder_8 : decode cX5_needBidder 8 = .ok (.ifCond .eq 14, 3) := by decide +kernel
theorem dX5_needBidder_11 : decode cX5_needBidder 11 = .ok (.new 160, 3) := by decide +kernel
theorem dX5_needBidder_14 : decode cX5_needBidder 14 = .ok (.dup, 1) := by decide +kernel
theorem dX5_needBidder_15 : decode cX5_needBidder 15 = .ok (.ldc_w 305, 3) := by decide +kernel
theorem dX5_needBidder_18 : decode cX5_needBidder 18 = .ok (.invokespecial 164, 3) := by decide +kernel
theorem dX5_needBidder_21 : decode cX5_needBidder 21 = .ok (.athrow, 1) := by decide +kernel
theorem dX5_needBidder_22 : decode cX5_needBidder 22 = .ok (.return_, 1) := by decide +kernel
theorem dX5_needSlot_0 : decode cX5_needSlot 0 = .ok (.iload_n 1, 1) := by decide +kernel
theorem dX5_needSlot_1 : decode cX5_needSlot 1 = .ok (.iconst 0, 1) := by decide +kernel
theorem dX5_needSlot_2 : decode cX5_needSlot 2 = .ok (.iconst 1, 1) := by decide +kernel
theorem dX5_needSlot_3 : decode cX5_needSlot 3 = .ok (.invokestatic 48, 3) := by decide +kernel
theorem dX5_needSlot_6 : decode cX5_needSlot 6 = .ok (.ifCond .eq 14, 3) := by decide +kernel
theorem dX5_needSlot_9 : decode cX5_needSlot 9 = .ok (.new 160, 3) := by decide +kernel
theorem dX5_needSlot_12 : decode cX5_needSlot 12 = .ok (.dup, 1) := by decide +kernel
theorem dX5_needSlot_13 : decode cX5_needSlot 13 = .ok (.ldc_w 307, 3) := by decide +kernel
theorem dX5_needSlot_16 : decode cX5_needSlot 16 = .ok (.invokespecial 164, 3) := by decide +kernel
theorem dX5_needSlot_19 : decode cX5_needSlot 19 = .ok (.athrow, 1) := by decide +kernel
theorem dX5_needSlot_20 : decode cX5_needSlot 20 = .ok (.return_, 1) := by decide +kernel
theorem dX5_refuse_0 : decode cX5_refuse 0 = .ok (.iload_n 0, 1) := by decide +kernel
theorem dX5_refuse_1 : decode cX5_refuse 1 = .ok (.tableswitch 60 1 3 #[27, 38, 49], 27) := by decide +kernel
theorem dX5_refuse_28 : decode cX5_refuse 28 = .ok (.new 160, 3) := by decide +kernel
theorem dX5_refuse_31 : decode cX5_refuse 31 = .ok (.dup, 1) := by decide +kernel
theorem dX5_refuse_32 : decode cX5_refuse 32 = .ok (.ldc_w 309, 3) := by decide +kernel
theorem dX5_refuse_35 : decode cX5_refuse 35 = .ok (.invokespecial 164, 3) := by decide +kernel
theorem dX5_refuse_38 : decode cX5_refuse 38 = .ok (.athrow, 1) := by decide +kernel
theorem dX5_refuse_39 : decode cX5_refuse 39 = .ok (.new 52, 3) := by decide +kernel
theorem dX5_refuse_42 : decode cX5_refuse 42 = .ok (.dup, 1) := by decide +kernel
theorem dX5_refuse_43 : decode cX5_refuse 43 = .ok (.ldc_w 311, 3) := by decide +kernel
theorem dX5_refuse_46 : decode cX5_refuse 46 = .ok (.invokespecial 56, 3) := by decide +kernel
theorem dX5_refuse_49 : decode cX5_refuse 49 = .ok (.athrow, 1) := by decide +kernel
theorem dX5_refuse_50 : decode cX5_refuse 50 = .ok (.new 63, 3) := by decide +kernel
theorem dX5_refuse_53 : decode cX5_refuse 53 = .ok (.dup, 1) := by decide +kernel
theorem dX5_refuse_54 : decode cX5_refuse 54 = .ok (.ldc_w 313, 3) := by decide +kernel
theorem dX5_refuse_57 : decode cX5_refuse 57 = .ok (.invokespecial 67, 3) := by decide +kernel
theorem dX5_refuse_60 : decode cX5_refuse 60 = .ok (.athrow, 1) := by decide +kernel
theorem dX5_refuse_61 : decode cX5_refuse 61 = .ok (.return_, 1) := by decide +kernel
theorem dX5_noKind_0 : decode cX5_noKind 0 = .ok (.iload_n 0, 1) := by decide +kernel
theorem dX5_noKind_1 : decode cX5_noKind 1 = .ok (.iconst 0, 1) := by decide +kernel
theorem dX5_noKind_2 : decode cX5_noKind 2 = .ok (.iconst 2, 1) := by decide +kernel
theorem dX5_noKind_3 : decode cX5_noKind 3 = .ok (.invokestatic 48, 3) := by decide +kernel
theorem dX5_noKind_6 : decode cX5_noKind 6 = .ok (.ireturn, 1) := by decide +kernel
theorem dX5_outside_0 : decode cX5_outside 0 = .ok (.iload_n 0, 1) := by decide +kernel
theorem dX5_outside_1 : decode cX5_outside 1 = .ok (.iload_n 1, 1) := by decide +kernel
theorem dX5_outside_2 : decode cX5_outside 2 = .ok (.if_icmp .lt 8, 3) := by decide +kernel
theorem dX5_outside_5 : decode cX5_outside 5 = .ok (.iload_n 0, 1) := by decide +kernel
theorem dX5_outside_6 : decode cX5_outside 6 = .ok (.iload_n 2, 1) := by decide +kernel
theorem dX5_outside_7 : decode cX5_outside 7 = .ok (.if_icmp .le 7, 3) := by decide +kernel
theorem dX5_outside_10 : decode cX5_outside 10 = .ok (.iconst 1, 1) := by decide +kernel
theorem dX5_outside_11 : decode cX5_outside 11 = .ok (.goto 4, 3) := by decide +kernel
theorem dX5_outside_14 : decode cX5_outside 14 = .ok (.iconst 0, 1) := by decide +kernel
theorem dX5_outside_15 : decode cX5_outside 15 = .ok (.ireturn, 1) := by decide +kernel
theorem dX5_quotient_0 : decode cX5_quotient 0 = .ok (.iload_n 1, 1) := by decide +kernel
theorem dX5_quotient_1 : decode cX5_quotient 1 = .ok (.ifCond .le 9, 3) := by decide +kernel
theorem dX5_quotient_4 : decode cX5_quotient 4 = .ok (.iload_n 0, 1) := by decide +kernel
theorem dX5_quotient_5 : decode cX5_quotient 5 = .ok (.iload_n 1, 1) := by decide +kernel
theorem dX5_quotient_6 : decode cX5_quotient 6 = .ok (.idiv, 1) := by decide +kernel
theorem dX5_quotient_7 : decode cX5_quotient 7 = .ok (.goto 4, 3) := by decide +kernel
theorem dX5_quotient_10 : decode cX5_quotient 10 = .ok (.iconst 0, 1) := by decide +kernel
theorem dX5_quotient_11 : decode cX5_quotient 11 = .ok (.ireturn, 1) := by decide +kernel
theorem dX5_cell_0 : decode cX5_cell 0 = .ok (.iload_n 0, 1) := by decide +kernel
theorem dX5_cell_1 : decode cX5_cell 1 = .ok (.iconst 3, 1) := by decide +kernel
theorem dX5_cell_2 : decode cX5_cell 2 = .ok (.imul, 1) := by decide +kernel
theorem dX5_cell_3 : decode cX5_cell 3 = .ok (.iload_n 1, 1) := by decide +kernel
theorem dX5_cell_4 : decode cX5_cell 4 = .ok (.iadd, 1) := by decide +kernel
theorem dX5_cell_5 : decode cX5_cell 5 = .ok (.ireturn, 1) := by decide +kernel
