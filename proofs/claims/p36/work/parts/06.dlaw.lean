theorem dJ11_isValidCodePoint_9a6ad_0 : decode cJ11_isValidCodePoint_9a6ad 0 = .ok (.iload_n 0, 1) := by decide +kernel
theorem dJ11_isValidCodePoint_9a6ad_1 : decode cJ11_isValidCodePoint_9a6ad 1 = .ok (.bipush 16, 2) := by decide +kernel
theorem dJ11_isValidCodePoint_9a6ad_3 : decode cJ11_isValidCodePoint_9a6ad 3 = .ok (.iushr, 1) := by decide +kernel
theorem dJ11_isValidCodePoint_9a6ad_4 : decode cJ11_isValidCodePoint_9a6ad 4 = .ok (.istore_n 1, 1) := by decide +kernel
theorem dJ11_isValidCodePoint_9a6ad_5 : decode cJ11_isValidCodePoint_9a6ad 5 = .ok (.iload_n 1, 1) := by decide +kernel
theorem dJ11_isValidCodePoint_9a6ad_6 : decode cJ11_isValidCodePoint_9a6ad 6 = .ok (.bipush 17, 2) := by decide +kernel
theorem dJ11_isValidCodePoint_9a6ad_8 : decode cJ11_isValidCodePoint_9a6ad 8 = .ok (.if_icmp .ge 7, 3) := by decide +kernel
theorem dJ11_isValidCodePoint_9a6ad_11 : decode cJ11_isValidCodePoint_9a6ad 11 = .ok (.iconst 1, 1) := by decide +kernel
theorem dJ11_isValidCodePoint_9a6ad_12 : decode cJ11_isValidCodePoint_9a6ad 12 = .ok (.goto 4, 3) := by decide +kernel
theorem dJ11_isValidCodePoint_9a6ad_15 : decode cJ11_isValidCodePoint_9a6ad 15 = .ok (.iconst 0, 1) := by decide +kernel
theorem dJ11_isValidCodePoint_9a6ad_16 : decode cJ11_isValidCodePoint_9a6ad 16 = .ok (.ireturn, 1) := by decide +kernel
theorem dJ11_highSurrogate_5068e_0 : decode cJ11_highSurrogate_5068e 0 = .ok (.iload_n 0, 1) := by decide +kernel
theorem dJ11_highSurrogate_5068e_1 : decode cJ11_highSurrogate_5068e 1 = .ok (.bipush 10, 2) := by decide +kernel
theorem dJ11_highSurrogate_5068e_3 : decode cJ11_highSurrogate_5068e 3 = .ok (.iushr, 1) := by decide +kernel
theorem dJ11_highSurrogate_5068e_4 : decode cJ11_highSurrogate_5068e 4 = .ok (.ldc 110, 2) := by decide +kernel
theorem dJ11_highSurrogate_5068e_6 : decode cJ11_highSurrogate_5068e 6 = .ok (.iadd, 1) := by decide +kernel
theorem dJ11_highSurrogate_5068e_7 : decode cJ11_highSurrogate_5068e 7 = .ok (.i2c, 1) := by decide +kernel
theorem dJ11_highSurrogate_5068e_8 : decode cJ11_highSurrogate_5068e 8 = .ok (.ireturn, 1) := by decide +kernel
theorem dJ11_lowSurrogate_5068e_0 : decode cJ11_lowSurrogate_5068e 0 = .ok (.iload_n 0, 1) := by decide +kernel
theorem dJ11_lowSurrogate_5068e_1 : decode cJ11_lowSurrogate_5068e 1 = .ok (.sipush 1023, 3) := by decide +kernel
theorem dJ11_lowSurrogate_5068e_4 : decode cJ11_lowSurrogate_5068e 4 = .ok (.iand, 1) := by decide +kernel
theorem dJ11_lowSurrogate_5068e_5 : decode cJ11_lowSurrogate_5068e 5 = .ok (.ldc 76, 2) := by decide +kernel
theorem dJ11_lowSurrogate_5068e_7 : decode cJ11_lowSurrogate_5068e 7 = .ok (.iadd, 1) := by decide +kernel
theorem dJ11_lowSurrogate_5068e_8 : decode cJ11_lowSurrogate_5068e 8 = .ok (.i2c, 1) := by decide +kernel
theorem dJ11_lowSurrogate_5068e_9 : decode cJ11_lowSurrogate_5068e 9 = .ok (.ireturn, 1) := by decide +kernel
theorem dJ9_max_7cf53_0 : decode cJ9_max_7cf53 0 = .ok (.iload_n 0, 1) := by decide +kernel
theorem dJ9_max_7cf53_1 : decode cJ9_max_7cf53 1 = .ok (.iload_n 1, 1) := by decide +kernel
theorem dJ9_max_7cf53_2 : decode cJ9_max_7cf53 2 = .ok (.if_icmp .lt 7, 3) := by decide +kernel
theorem dJ9_max_7cf53_5 : decode cJ9_max_7cf53 5 = .ok (.iload_n 0, 1) := by decide +kernel
theorem dJ9_max_7cf53_6 : decode cJ9_max_7cf53 6 = .ok (.goto 4, 3) := by decide +kernel
theorem dJ9_max_7cf53_9 : decode cJ9_max_7cf53 9 = .ok (.iload_n 1, 1) := by decide +kernel
theorem dJ9_max_7cf53_10 : decode cJ9_max_7cf53 10 = .ok (.ireturn, 1) := by decide +kernel
theorem dJ9_min_7cf53_0 : decode cJ9_min_7cf53 0 = .ok (.iload_n 0, 1) := by decide +kernel
theorem dJ9_min_7cf53_1 : decode cJ9_min_7cf53 1 = .ok (.iload_n 1, 1) := by decide +kernel
theorem dJ9_min_7cf53_2 : decode cJ9_min_7cf53 2 = .ok (.if_icmp .gt 7, 3) := by decide +kernel
theorem dJ9_min_7cf53_5 : decode cJ9_min_7cf53 5 = .ok (.iload_n 0, 1) := by decide +kernel
theorem dJ9_min_7cf53_6 : decode cJ9_min_7cf53 6 = .ok (.goto 4, 3) := by decide +kernel
theorem dJ9_min_7cf53_9 : decode cJ9_min_7cf53 9 = .ok (.iload_n 1, 1) := by decide +kernel
theorem dJ9_min_7cf53_10 : decode cJ9_min_7cf53 10 = .ok (.ireturn, 1) := by decide +kernel
theorem dJ0_length_8abf5_0 : decode cJ0_length_8abf5 0 = .ok (.aload_n 0, 1) := by decide +kernel
theorem dJ0_length_8abf5_1 : decode cJ0_length_8abf5 1 = .ok (.getfield 9, 3) := by decide +kernel
theorem dJ0_length_8abf5_4 : decode cJ0_length_8abf5 4 = .ok (.arraylength, 1) := by decide +kernel
theorem dJ0_length_8abf5_5 : decode cJ0_length_8abf5 5 = .ok (.aload_n 0, 1) := by decide +kernel
theorem dJ0_length_8abf5_6 : decode cJ0_length_8abf5 6 = .ok (.invokevirtual 335, 3) := by decide +kernel
theorem dJ0_length_8abf5_9 : decode cJ0_length_8abf5 9 = .ok (.ishr, 1) := by decide +kernel
theorem dJ0_length_8abf5_10 : decode cJ0_length_8abf5 10 = .ok (.ireturn, 1) := by decide +kernel
theorem dJ0_charAt_5068e_0 : decode cJ0_charAt_5068e 0 = .ok (.aload_n 0, 1) := by decide +kernel
theorem dJ0_charAt_5068e_1 : decode cJ0_charAt_5068e 1 = .ok (.invokevirtual 492, 3) := by decide +kernel
theorem dJ0_charAt_5068e_4 : decode cJ0_charAt_5068e 4 = .ok (.ifCond .eq 12, 3) := by decide +kernel
theorem dJ0_charAt_5068e_7 : decode cJ0_charAt_5068e 7 = .ok (.aload_n 0, 1) := by decide +kernel
theorem dJ0_charAt_5068e_8 : decode cJ0_charAt_5068e 8 = .ok (.getfield 9, 3) := by decide +kernel
theorem dJ0_charAt_5068e_11 : decode cJ0_charAt_5068e 11 = .ok (.iload_n 1, 1) := by decide +kernel
theorem dJ0_charAt_5068e_12 : decode cJ0_charAt_5068e 12 = .ok (.invokestatic 495, 3) := by decide +kernel
theorem dJ0_charAt_5068e_15 : decode cJ0_charAt_5068e 15 = .ok (.ireturn, 1) := by decide +kernel
theorem dJ0_charAt_5068e_16 : decode cJ0_charAt_5068e 16 = .ok (.aload_n 0, 1) := by decide +kernel
theorem dJ0_charAt_5068e_17 : decode cJ0_charAt_5068e 17 = .ok (.getfield 9, 3) := by decide +kernel
theorem dJ0_charAt_5068e_20 : decode cJ0_charAt_5068e 20 = .ok (.iload_n 1, 1) := by decide +kernel
theorem dJ0_charAt_5068e_21 : decode cJ0_charAt_5068e 21 = .ok (.invokestatic 498, 3) := by decide +kernel
theorem dJ0_charAt_5068e_24 : decode cJ0_charAt_5068e 24 = .ok (.ireturn, 1) := by decide +kernel
theorem dJ0_indexOf_0f7a4_0 : decode cJ0_indexOf_0f7a4 0 = .ok (.aload_n 0, 1) := by decide +kernel
theorem dJ0_indexOf_0f7a4_1 : decode cJ0_indexOf_0f7a4 1 = .ok (.iload_n 1, 1) := by decide +kernel
theorem dJ0_indexOf_0f7a4_2 : decode cJ0_indexOf_0f7a4 2 = .ok (.iconst 0, 1) := by decide +kernel
theorem dJ0_indexOf_0f7a4_3 : decode cJ0_indexOf_0f7a4 3 = .ok (.invokevirtual 633, 3) := by decide +kernel
theorem dJ0_indexOf_0f7a4_6 : decode cJ0_indexOf_0f7a4 6 = .ok (.ireturn, 1) := by decide +kernel
theorem dJ0_indexOf_7cf53_0 : decode cJ0_indexOf_7cf53 0 = .ok (.aload_n 0, 1) := by decide +kernel
theorem dJ0_indexOf_7cf53_1 : decode cJ0_indexOf_7cf53 1 = .ok (.invokevirtual 492, 3) := by decide +kernel
theorem dJ0_indexOf_7cf53_4 : decode cJ0_indexOf_7cf53 4 = .ok (.ifCond .eq 19, 3) := by decide +kernel
theorem dJ0_indexOf_7cf53_7 : decode cJ0_indexOf_7cf53 7 = .ok (.aload_n 0, 1) := by decide +kernel
theorem dJ0_indexOf_7cf53_8 : decode cJ0_indexOf_7cf53 8 = .ok (.getfield 9, 3) := by decide +kernel
theorem dJ0_indexOf_7cf53_11 : decode cJ0_indexOf_7cf53 11 = .ok (.iload_n 1, 1) := by decide +kernel
theorem dJ0_indexOf_7cf53_12 : decode cJ0_indexOf_7cf53 12 = .ok (.iload_n 2, 1) := by decide +kernel
theorem dJ0_indexOf_7cf53_13 : decode cJ0_indexOf_7cf53 13 = .ok (.aload_n 0, 1) := by decide +kernel
theorem dJ0_indexOf_7cf53_14 : decode cJ0_indexOf_7cf53 14 = .ok (.invokevirtual 505, 3) := by decide +kernel
theorem dJ0_indexOf_7cf53_17 : decode cJ0_indexOf_7cf53 17 = .ok (.invokestatic 637, 3) := by decide +kernel
theorem dJ0_indexOf_7cf53_20 : decode cJ0_indexOf_7cf53 20 = .ok (.goto 16, 3) := by decide +kernel
theorem dJ0_indexOf_7cf53_23 : decode cJ0_indexOf_7cf53 23 = .ok (.aload_n 0, 1) := by decide +kernel
theorem dJ0_indexOf_7cf53_24 : decode cJ0_indexOf_7cf53 24 = .ok (.getfield 9, 3) := by decide +kernel
theorem dJ0_indexOf_7cf53_27 : decode cJ0_indexOf_7cf53 27 = .ok (.iload_n 1, 1) := by decide +kernel
theorem dJ0_indexOf_7cf53_28 : decode cJ0_indexOf_7cf53 28 = .ok (.iload_n 2, 1) := by decide +kernel
theorem dJ0_indexOf_7cf53_29 : decode cJ0_indexOf_7cf53 29 = .ok (.aload_n 0, 1) := by decide +kernel
theorem dJ0_indexOf_7cf53_30 : decode cJ0_indexOf_7cf53 30 = .ok (.invokevirtual 505, 3) := by decide +kernel
theorem dJ0_indexOf_7cf53_33 : decode cJ0_indexOf_7cf53 33 = .ok (.invokestatic 640, 3) := by decide +kernel
theorem dJ0_indexOf_7cf53_36 : decode cJ0_indexOf_7cf53 36 = .ok (.ireturn, 1) := by decide +kernel
theorem dJ0_coder_7d493_0 : decode cJ0_coder_7d493 0 = .ok (.getstatic 38, 3) := by decide +kernel
theorem dJ0_coder_7d493_3 : decode cJ0_coder_7d493 3 = .ok (.ifCond .eq 10, 3) := by decide +kernel
theorem dJ0_coder_7d493_6 : decode cJ0_coder_7d493 6 = .ok (.aload_n 0, 1) := by decide +kernel
theorem dJ0_coder_7d493_7 : decode cJ0_coder_7d493 7 = .ok (.getfield 15, 3) := by decide +kernel
theorem dJ0_coder_7d493_10 : decode cJ0_coder_7d493 10 = .ok (.goto 4, 3) := by decide +kernel
theorem dJ0_coder_7d493_13 : decode cJ0_coder_7d493 13 = .ok (.iconst 1, 1) := by decide +kernel
theorem dJ0_coder_7d493_14 : decode cJ0_coder_7d493 14 = .ok (.ireturn, 1) := by decide +kernel
theorem dJ0_isLatin1_aae02_0 : decode cJ0_isLatin1_aae02 0 = .ok (.getstatic 38, 3) := by decide +kernel
theorem dJ0_isLatin1_aae02_3 : decode cJ0_isLatin1_aae02 3 = .ok (.ifCond .eq 14, 3) := by decide +kernel
theorem dJ0_isLatin1_aae02_6 : decode cJ0_isLatin1_aae02 6 = .ok (.aload_n 0, 1) := by decide +kernel
theorem dJ0_isLatin1_aae02_7 : decode cJ0_isLatin1_aae02 7 = .ok (.getfield 15, 3) := by decide +kernel
theorem dJ0_isLatin1_aae02_10 : decode cJ0_isLatin1_aae02 10 = .ok (.ifCond .ne 7, 3) := by decide +kernel
theorem dJ0_isLatin1_aae02_13 : decode cJ0_isLatin1_aae02 13 = .ok (.iconst 1, 1) := by decide +kernel
theorem dJ0_isLatin1_aae02_14 : decode cJ0_isLatin1_aae02 14 = .ok (.goto 4, 3) := by decide +kernel
theorem dJ0_isLatin1_aae02_17 : decode cJ0_isLatin1_aae02 17 = .ok (.iconst 0, 1) := by decide +kernel
theorem dJ0_isLatin1_aae02_18 : decode cJ0_isLatin1_aae02 18 = .ok (.ireturn, 1) := by decide +kernel
theorem dJ0_checkIndex_df160_0 : decode cJ0_checkIndex_df160 0 = .ok (.iload_n 0, 1) := by decide +kernel
theorem dJ0_checkIndex_df160_1 : decode cJ0_checkIndex_df160 1 = .ok (.iload_n 1, 1) := by decide +kernel
theorem dJ0_checkIndex_df160_2 : decode cJ0_checkIndex_df160 2 = .ok (.getstatic 1053, 3) := by decide +kernel
theorem dJ0_checkIndex_df160_5 : decode cJ0_checkIndex_df160 5 = .ok (.invokestatic 1059, 3) := by decide +kernel
theorem dJ0_checkIndex_df160_8 : decode cJ0_checkIndex_df160 8 = .ok (.pop, 1) := by decide +kernel
theorem dJ0_checkIndex_df160_9 : decode cJ0_checkIndex_df160 9 = .ok (.return_, 1) := by decide +kernel
theorem dJ0_checkBoundsBeginEnd_23922_0 : decode cJ0_checkBoundsBeginEnd_23922 0 = .ok (.iload_n 0, 1) := by decide +kernel
theorem dJ0_checkBoundsBeginEnd_23922_1 : decode cJ0_checkBoundsBeginEnd_23922 1 = .ok (.iload_n 1, 1) := by decide +kernel
theorem dJ0_checkBoundsBeginEnd_23922_2 : decode cJ0_checkBoundsBeginEnd_23922 2 = .ok (.iload_n 2, 1) := by decide +kernel
theorem dJ0_checkBoundsBeginEnd_23922_3 : decode cJ0_checkBoundsBeginEnd_23922 3 = .ok (.getstatic 1053, 3) := by decide +kernel
theorem dJ0_checkBoundsBeginEnd_23922_6 : decode cJ0_checkBoundsBeginEnd_23922 6 = .ok (.invokestatic 1062, 3) := by decide +kernel
theorem dJ0_checkBoundsBeginEnd_23922_9 : decode cJ0_checkBoundsBeginEnd_23922 9 = .ok (.pop, 1) := by decide +kernel
theorem dJ0_checkBoundsBeginEnd_23922_10 : decode cJ0_checkBoundsBeginEnd_23922 10 = .ok (.return_, 1) := by decide +kernel
theorem dJ1_charAt_3b067_0 : decode cJ1_charAt_3b067 0 = .ok (.iload_n 1, 1) := by decide +kernel
theorem dJ1_charAt_3b067_1 : decode cJ1_charAt_3b067 1 = .ok (.aload_n 0, 1) := by decide +kernel
theorem dJ1_charAt_3b067_2 : decode cJ1_charAt_3b067 2 = .ok (.arraylength, 1) := by decide +kernel
theorem dJ1_charAt_3b067_3 : decode cJ1_charAt_3b067 3 = .ok (.invokestatic 9, 3) := by decide +kernel
theorem dJ1_charAt_3b067_6 : decode cJ1_charAt_3b067 6 = .ok (.aload_n 0, 1) := by decide +kernel
theorem dJ1_charAt_3b067_7 : decode cJ1_charAt_3b067 7 = .ok (.iload_n 1, 1) := by decide +kernel
theorem dJ1_charAt_3b067_8 : decode cJ1_charAt_3b067 8 = .ok (.baload, 1) := by decide +kernel
theorem dJ1_charAt_3b067_9 : decode cJ1_charAt_3b067 9 = .ok (.sipush 255, 3) := by decide +kernel
theorem dJ1_charAt_3b067_12 : decode cJ1_charAt_3b067 12 = .ok (.iand, 1) := by decide +kernel
theorem dJ1_charAt_3b067_13 : decode cJ1_charAt_3b067 13 = .ok (.i2c, 1) := by decide +kernel
theorem dJ1_charAt_3b067_14 : decode cJ1_charAt_3b067 14 = .ok (.ireturn, 1) := by decide +kernel
theorem dJ1_canEncode_9a6ad_0 : decode cJ1_canEncode_9a6ad 0 = .ok (.iload_n 0, 1) := by decide +kernel
theorem dJ1_canEncode_9a6ad_1 : decode cJ1_canEncode_9a6ad 1 = .ok (.ifCond .lt 14, 3) := by decide +kernel
theorem dJ1_canEncode_9a6ad_4 : decode cJ1_canEncode_9a6ad 4 = .ok (.iload_n 0, 1) := by decide +kernel
theorem dJ1_canEncode_9a6ad_5 : decode cJ1_canEncode_9a6ad 5 = .ok (.sipush 255, 3) := by decide +kernel
theorem dJ1_canEncode_9a6ad_8 : decode cJ1_canEncode_9a6ad 8 = .ok (.if_icmp .gt 7, 3) := by decide +kernel
theorem dJ1_canEncode_9a6ad_11 : decode cJ1_canEncode_9a6ad 11 = .ok (.iconst 1, 1) := by decide +kernel
theorem dJ1_canEncode_9a6ad_12 : decode cJ1_canEncode_9a6ad 12 = .ok (.goto 4, 3) := by decide +kernel
theorem dJ1_canEncode_9a6ad_15 : decode cJ1_canEncode_9a6ad 15 = .ok (.iconst 0, 1) := by decide +kernel
theorem dJ1_canEncode_9a6ad_16 : decode cJ1_canEncode_9a6ad 16 = .ok (.ireturn, 1) := by decide +kernel
theorem dJ1_indexOf_4cfef_0 : decode cJ1_indexOf_4cfef 0 = .ok (.iload_n 1, 1) := by decide +kernel
theorem dJ1_indexOf_4cfef_1 : decode cJ1_indexOf_4cfef 1 = .ok (.invokestatic 88, 3) := by decide +kernel
theorem dJ1_indexOf_4cfef_4 : decode cJ1_indexOf_4cfef 4 = .ok (.ifCond .ne 5, 3) := by decide +kernel
theorem dJ1_indexOf_4cfef_7 : decode cJ1_indexOf_4cfef 7 = .ok (.iconst (-1), 1) := by decide +kernel
theorem dJ1_indexOf_4cfef_8 : decode cJ1_indexOf_4cfef 8 = .ok (.ireturn, 1) := by decide +kernel
theorem dJ1_indexOf_4cfef_9 : decode cJ1_indexOf_4cfef 9 = .ok (.iload_n 2, 1) := by decide +kernel
theorem dJ1_indexOf_4cfef_10 : decode cJ1_indexOf_4cfef 10 = .ok (.iconst 0, 1) := by decide +kernel
theorem dJ1_indexOf_4cfef_11 : decode cJ1_indexOf_4cfef 11 = .ok (.invokestatic 92, 3) := by decide +kernel
theorem dJ1_indexOf_4cfef_14 : decode cJ1_indexOf_4cfef 14 = .ok (.istore_n 2, 1) := by decide +kernel
theorem dJ1_indexOf_4cfef_15 : decode cJ1_indexOf_4cfef 15 = .ok (.iload_n 3, 1) := by decide +kernel
theorem dJ1_indexOf_4cfef_16 : decode cJ1_indexOf_4cfef 16 = .ok (.aload_n 0, 1) := by decide +kernel
theorem dJ1_indexOf_4cfef_17 : decode cJ1_indexOf_4cfef 17 = .ok (.arraylength, 1) := by decide +kernel
theorem dJ1_indexOf_4cfef_18 : decode cJ1_indexOf_4cfef 18 = .ok (.invokestatic 38, 3) := by decide +kernel
theorem dJ1_indexOf_4cfef_21 : decode cJ1_indexOf_4cfef 21 = .ok (.istore_n 3, 1) := by decide +kernel
theorem dJ1_indexOf_4cfef_22 : decode cJ1_indexOf_4cfef 22 = .ok (.iload_n 2, 1) := by decide +kernel
theorem dJ1_indexOf_4cfef_23 : decode cJ1_indexOf_4cfef 23 = .ok (.iload_n 3, 1) := by decide +kernel
theorem dJ1_indexOf_4cfef_24 : decode cJ1_indexOf_4cfef 24 = .ok (.if_icmp .lt 5, 3) := by decide +kernel
theorem dJ1_indexOf_4cfef_27 : decode cJ1_indexOf_4cfef 27 = .ok (.iconst (-1), 1) := by decide +kernel
theorem dJ1_indexOf_4cfef_28 : decode cJ1_indexOf_4cfef 28 = .ok (.ireturn, 1) := by decide +kernel
theorem dJ1_indexOf_4cfef_29 : decode cJ1_indexOf_4cfef 29 = .ok (.aload_n 0, 1) := by decide +kernel
theorem dJ1_indexOf_4cfef_30 : decode cJ1_indexOf_4cfef 30 = .ok (.iload_n 1, 1) := by decide +kernel
theorem dJ1_indexOf_4cfef_31 : decode cJ1_indexOf_4cfef 31 = .ok (.iload_n 2, 1) := by decide +kernel
theorem dJ1_indexOf_4cfef_32 : decode cJ1_indexOf_4cfef 32 = .ok (.iload_n 3, 1) := by decide +kernel
theorem dJ1_indexOf_4cfef_33 : decode cJ1_indexOf_4cfef 33 = .ok (.invokestatic 95, 3) := by decide +kernel
theorem dJ1_indexOf_4cfef_36 : decode cJ1_indexOf_4cfef 36 = .ok (.ireturn, 1) := by decide +kernel
theorem dJ1_indexOfChar_4cfef_0 : decode cJ1_indexOfChar_4cfef 0 = .ok (.iload_n 1, 1) := by decide +kernel
theorem dJ1_indexOfChar_4cfef_1 : decode cJ1_indexOfChar_4cfef 1 = .ok (.i2b, 1) := by decide +kernel
theorem dJ1_indexOfChar_4cfef_2 : decode cJ1_indexOfChar_4cfef 2 = .ok (.istore 4, 2) := by decide +kernel
theorem dJ1_indexOfChar_4cfef_4 : decode cJ1_indexOfChar_4cfef 4 = .ok (.iload_n 2, 1) := by decide +kernel
theorem dJ1_indexOfChar_4cfef_5 : decode cJ1_indexOfChar_4cfef 5 = .ok (.istore 5, 2) := by decide +kernel
theorem dJ1_indexOfChar_4cfef_7 : decode cJ1_indexOfChar_4cfef 7 = .ok (.iload 5, 2) := by decide +kernel
theorem dJ1_indexOfChar_4cfef_9 : decode cJ1_indexOfChar_4cfef 9 = .ok (.iload_n 3, 1) := by decide +kernel
theorem dJ1_indexOfChar_4cfef_10 : decode cJ1_indexOfChar_4cfef 10 = .ok (.if_icmp .ge 21, 3) := by decide +kernel
theorem dJ1_indexOfChar_4cfef_13 : decode cJ1_indexOfChar_4cfef 13 = .ok (.aload_n 0, 1) := by decide +kernel
theorem dJ1_indexOfChar_4cfef_14 : decode cJ1_indexOfChar_4cfef 14 = .ok (.iload 5, 2) := by decide +kernel
theorem dJ1_indexOfChar_4cfef_16 : decode cJ1_indexOfChar_4cfef 16 = .ok (.baload, 1) := by decide +kernel
theorem dJ1_indexOfChar_4cfef_17 : decode cJ1_indexOfChar_4cfef 17 = .ok (.iload 4, 2) := by decide +kernel
theorem dJ1_indexOfChar_4cfef_19 : decode cJ1_indexOfChar_4cfef 19 = .ok (.if_icmp .ne 6, 3) := by decide +kernel
theorem dJ1_indexOfChar_4cfef_22 : decode cJ1_indexOfChar_4cfef 22 = .ok (.iload 5, 2) := by decide +kernel
theorem dJ1_indexOfChar_4cfef_24 : decode cJ1_indexOfChar_4cfef 24 = .ok (.ireturn, 1) := by decide +kernel
theorem dJ1_indexOfChar_4cfef_25 : decode cJ1_indexOfChar_4cfef 25 = .ok (.iinc 5 1, 3) := by decide +kernel
theorem dJ1_indexOfChar_4cfef_28 : decode cJ1_indexOfChar_4cfef 28 = .ok (.goto (-21), 3) := by decide +kernel
theorem dJ1_indexOfChar_4cfef_31 : decode cJ1_indexOfChar_4cfef 31 = .ok (.iconst (-1), 1) := by decide +kernel
theorem dJ1_indexOfChar_4cfef_32 : decode cJ1_indexOfChar_4cfef 32 = .ok (.ireturn, 1) := by decide +kernel
theorem dJ2_getChar_3b067_0 : decode cJ2_getChar_3b067 0 = .ok (.getstatic 44, 3) := by decide +kernel
theorem dJ2_getChar_3b067_3 : decode cJ2_getChar_3b067 3 = .ok (.ifCond .ne 25, 3) := by decide +kernel
theorem dJ2_getChar_3b067_6 : decode cJ2_getChar_3b067 6 = .ok (.iload_n 1, 1) := by decide +kernel
theorem dJ2_getChar_3b067_7 : decode cJ2_getChar_3b067 7 = .ok (.ifCond .lt 11, 3) := by decide +kernel
theorem dJ2_getChar_3b067_10 : decode cJ2_getChar_3b067 10 = .ok (.iload_n 1, 1) := by decide +kernel
theorem dJ2_getChar_3b067_11 : decode cJ2_getChar_3b067 11 = .ok (.aload_n 0, 1) := by decide +kernel
theorem dJ2_getChar_3b067_12 : decode cJ2_getChar_3b067 12 = .ok (.invokestatic 48, 3) := by decide +kernel
theorem dJ2_getChar_3b067_15 : decode cJ2_getChar_3b067 15 = .ok (.if_icmp .lt 13, 3) := by decide +kernel
theorem dJ2_getChar_3b067_18 : decode cJ2_getChar_3b067 18 = .ok (.new 52, 3) := by decide +kernel
theorem dJ2_getChar_3b067_21 : decode cJ2_getChar_3b067 21 = .ok (.dup, 1) := by decide +kernel
theorem dJ2_getChar_3b067_22 : decode cJ2_getChar_3b067 22 = .ok (.ldc 54, 2) := by decide +kernel
theorem dJ2_getChar_3b067_24 : decode cJ2_getChar_3b067 24 = .ok (.invokespecial 56, 3) := by decide +kernel
theorem dJ2_getChar_3b067_27 : decode cJ2_getChar_3b067 27 = .ok (.athrow, 1) := by decide +kernel
theorem dJ2_getChar_3b067_28 : decode cJ2_getChar_3b067 28 = .ok (.iload_n 1, 1) := by decide +kernel
theorem dJ2_getChar_3b067_29 : decode cJ2_getChar_3b067 29 = .ok (.iconst 1, 1) := by decide +kernel
theorem dJ2_getChar_3b067_30 : decode cJ2_getChar_3b067 30 = .ok (.ishl, 1) := by decide +kernel
theorem dJ2_getChar_3b067_31 : decode cJ2_getChar_3b067 31 = .ok (.istore_n 1, 1) := by decide +kernel
theorem dJ2_getChar_3b067_32 : decode cJ2_getChar_3b067 32 = .ok (.aload_n 0, 1) := by decide +kernel
theorem dJ2_getChar_3b067_33 : decode cJ2_getChar_3b067 33 = .ok (.iload_n 1, 1) := by decide +kernel
theorem dJ2_getChar_3b067_34 : decode cJ2_getChar_3b067 34 = .ok (.iinc 1 1, 3) := by decide +kernel
theorem dJ2_getChar_3b067_37 : decode cJ2_getChar_3b067 37 = .ok (.baload, 1) := by decide +kernel
theorem dJ2_getChar_3b067_38 : decode cJ2_getChar_3b067 38 = .ok (.sipush 255, 3) := by decide +kernel
theorem dJ2_getChar_3b067_41 : decode cJ2_getChar_3b067 41 = .ok (.iand, 1) := by decide +kernel
theorem dJ2_getChar_3b067_42 : decode cJ2_getChar_3b067 42 = .ok (.getstatic 59, 3) := by decide +kernel
theorem dJ2_getChar_3b067_45 : decode cJ2_getChar_3b067 45 = .ok (.ishl, 1) := by decide +kernel
theorem dJ2_getChar_3b067_46 : decode cJ2_getChar_3b067 46 = .ok (.aload_n 0, 1) := by decide +kernel
theorem dJ2_getChar_3b067_47 : decode cJ2_getChar_3b067 47 = .ok (.iload_n 1, 1) := by decide +kernel
theorem dJ2_getChar_3b067_48 : decode cJ2_getChar_3b067 48 = .ok (.baload, 1) := by decide +kernel
theorem dJ2_getChar_3b067_49 : decode cJ2_getChar_3b067 49 = .ok (.sipush 255, 3) := by decide +kernel
theorem dJ2_getChar_3b067_52 : decode cJ2_getChar_3b067 52 = .ok (.iand, 1) := by decide +kernel
theorem dJ2_getChar_3b067_53 : decode cJ2_getChar_3b067 53 = .ok (.getstatic 63, 3) := by decide +kernel
theorem dJ2_getChar_3b067_56 : decode cJ2_getChar_3b067 56 = .ok (.ishl, 1) := by decide +kernel
theorem dJ2_getChar_3b067_57 : decode cJ2_getChar_3b067 57 = .ok (.ior, 1) := by decide +kernel
theorem dJ2_getChar_3b067_58 : decode cJ2_getChar_3b067 58 = .ok (.i2c, 1) := by decide +kernel
theorem dJ2_getChar_3b067_59 : decode cJ2_getChar_3b067 59 = .ok (.ireturn, 1) := by decide +kernel
theorem dJ2_length_9d52b_0 : decode cJ2_length_9d52b 0 = .ok (.aload_n 0, 1) := by decide +kernel
theorem dJ2_length_9d52b_1 : decode cJ2_length_9d52b 1 = .ok (.arraylength, 1) := by decide +kernel
theorem dJ2_length_9d52b_2 : decode cJ2_length_9d52b 2 = .ok (.iconst 1, 1) := by decide +kernel
theorem dJ2_length_9d52b_3 : decode cJ2_length_9d52b 3 = .ok (.ishr, 1) := by decide +kernel
theorem dJ2_length_9d52b_4 : decode cJ2_length_9d52b 4 = .ok (.ireturn, 1) := by decide +kernel
theorem dJ2_indexOf_4cfef_0 : decode cJ2_indexOf_4cfef 0 = .ok (.iload_n 2, 1) := by decide +kernel
theorem dJ2_indexOf_4cfef_1 : decode cJ2_indexOf_4cfef 1 = .ok (.iconst 0, 1) := by decide +kernel
theorem dJ2_indexOf_4cfef_2 : decode cJ2_indexOf_4cfef 2 = .ok (.invokestatic 224, 3) := by decide +kernel
theorem dJ2_indexOf_4cfef_5 : decode cJ2_indexOf_4cfef 5 = .ok (.istore_n 2, 1) := by decide +kernel
theorem dJ2_indexOf_4cfef_6 : decode cJ2_indexOf_4cfef 6 = .ok (.iload_n 3, 1) := by decide +kernel
theorem dJ2_indexOf_4cfef_7 : decode cJ2_indexOf_4cfef 7 = .ok (.aload_n 0, 1) := by decide +kernel
theorem dJ2_indexOf_4cfef_8 : decode cJ2_indexOf_4cfef 8 = .ok (.arraylength, 1) := by decide +kernel
theorem dJ2_indexOf_4cfef_9 : decode cJ2_indexOf_4cfef 9 = .ok (.iconst 1, 1) := by decide +kernel
theorem dJ2_indexOf_4cfef_10 : decode cJ2_indexOf_4cfef 10 = .ok (.ishr, 1) := by decide +kernel
theorem dJ2_indexOf_4cfef_11 : decode cJ2_indexOf_4cfef 11 = .ok (.invokestatic 183, 3) := by decide +kernel
theorem dJ2_indexOf_4cfef_14 : decode cJ2_indexOf_4cfef 14 = .ok (.istore_n 3, 1) := by decide +kernel
theorem dJ2_indexOf_4cfef_15 : decode cJ2_indexOf_4cfef 15 = .ok (.iload_n 2, 1) := by decide +kernel
theorem dJ2_indexOf_4cfef_16 : decode cJ2_indexOf_4cfef 16 = .ok (.iload_n 3, 1) := by decide +kernel
theorem dJ2_indexOf_4cfef_17 : decode cJ2_indexOf_4cfef 17 = .ok (.if_icmp .lt 5, 3) := by decide +kernel
theorem dJ2_indexOf_4cfef_20 : decode cJ2_indexOf_4cfef 20 = .ok (.iconst (-1), 1) := by decide +kernel
theorem dJ2_indexOf_4cfef_21 : decode cJ2_indexOf_4cfef 21 = .ok (.ireturn, 1) := by decide +kernel
theorem dJ2_indexOf_4cfef_22 : decode cJ2_indexOf_4cfef 22 = .ok (.iload_n 1, 1) := by decide +kernel
theorem dJ2_indexOf_4cfef_23 : decode cJ2_indexOf_4cfef 23 = .ok (.ldc 227, 2) := by decide +kernel
theorem dJ2_indexOf_4cfef_25 : decode cJ2_indexOf_4cfef 25 = .ok (.if_icmp .ge 11, 3) := by decide +kernel
theorem dJ2_indexOf_4cfef_28 : decode cJ2_indexOf_4cfef 28 = .ok (.aload_n 0, 1) := by decide +kernel
theorem dJ2_indexOf_4cfef_29 : decode cJ2_indexOf_4cfef 29 = .ok (.iload_n 1, 1) := by decide +kernel
theorem dJ2_indexOf_4cfef_30 : decode cJ2_indexOf_4cfef 30 = .ok (.iload_n 2, 1) := by decide +kernel
theorem dJ2_indexOf_4cfef_31 : decode cJ2_indexOf_4cfef 31 = .ok (.iload_n 3, 1) := by decide +kernel
theorem dJ2_indexOf_4cfef_32 : decode cJ2_indexOf_4cfef 32 = .ok (.invokestatic 228, 3) := by decide +kernel
theorem dJ2_indexOf_4cfef_35 : decode cJ2_indexOf_4cfef 35 = .ok (.ireturn, 1) := by decide +kernel
theorem dJ2_indexOf_4cfef_36 : decode cJ2_indexOf_4cfef 36 = .ok (.aload_n 0, 1) := by decide +kernel
theorem dJ2_indexOf_4cfef_37 : decode cJ2_indexOf_4cfef 37 = .ok (.iload_n 1, 1) := by decide +kernel
theorem dJ2_indexOf_4cfef_38 : decode cJ2_indexOf_4cfef 38 = .ok (.iload_n 2, 1) := by decide +kernel
theorem dJ2_indexOf_4cfef_39 : decode cJ2_indexOf_4cfef 39 = .ok (.iload_n 3, 1) := by decide +kernel
theorem dJ2_indexOf_4cfef_40 : decode cJ2_indexOf_4cfef 40 = .ok (.invokestatic 232, 3) := by decide +kernel
theorem dJ2_indexOf_4cfef_43 : decode cJ2_indexOf_4cfef 43 = .ok (.ireturn, 1) := by decide +kernel
theorem dJ2_indexOfChar_4cfef_0 : decode cJ2_indexOfChar_4cfef 0 = .ok (.iload_n 2, 1) := by decide +kernel
theorem dJ2_indexOfChar_4cfef_1 : decode cJ2_indexOfChar_4cfef 1 = .ok (.iload_n 3, 1) := by decide +kernel
theorem dJ2_indexOfChar_4cfef_2 : decode cJ2_indexOfChar_4cfef 2 = .ok (.aload_n 0, 1) := by decide +kernel
theorem dJ2_indexOfChar_4cfef_3 : decode cJ2_indexOfChar_4cfef 3 = .ok (.invokestatic 96, 3) := by decide +kernel
theorem dJ2_indexOfChar_4cfef_6 : decode cJ2_indexOfChar_4cfef 6 = .ok (.aload_n 0, 1) := by decide +kernel
theorem dJ2_indexOfChar_4cfef_7 : decode cJ2_indexOfChar_4cfef 7 = .ok (.iload_n 1, 1) := by decide +kernel
theorem dJ2_indexOfChar_4cfef_8 : decode cJ2_indexOfChar_4cfef 8 = .ok (.iload_n 2, 1) := by decide +kernel
theorem dJ2_indexOfChar_4cfef_9 : decode cJ2_indexOfChar_4cfef 9 = .ok (.iload_n 3, 1) := by decide +kernel
theorem dJ2_indexOfChar_4cfef_10 : decode cJ2_indexOfChar_4cfef 10 = .ok (.invokestatic 244, 3) := by decide +kernel
theorem dJ2_indexOfChar_4cfef_13 : decode cJ2_indexOfChar_4cfef 13 = .ok (.ireturn, 1) := by decide +kernel
theorem dJ2_indexOfCharUnsafe_4cfef_0 : decode cJ2_indexOfCharUnsafe_4cfef 0 = .ok (.iload_n 2, 1) := by decide +kernel
theorem dJ2_indexOfCharUnsafe_4cfef_1 : decode cJ2_indexOfCharUnsafe_4cfef 1 = .ok (.istore 4, 2) := by decide +kernel
theorem dJ2_indexOfCharUnsafe_4cfef_3 : decode cJ2_indexOfCharUnsafe_4cfef 3 = .ok (.iload 4, 2) := by decide +kernel
theorem dJ2_indexOfCharUnsafe_4cfef_5 : decode cJ2_indexOfCharUnsafe_4cfef 5 = .ok (.iload_n 3, 1) := by decide +kernel
theorem dJ2_indexOfCharUnsafe_4cfef_6 : decode cJ2_indexOfCharUnsafe_4cfef 6 = .ok (.if_icmp .ge 22, 3) := by decide +kernel
theorem dJ2_indexOfCharUnsafe_4cfef_9 : decode cJ2_indexOfCharUnsafe_4cfef 9 = .ok (.aload_n 0, 1) := by decide +kernel
theorem dJ2_indexOfCharUnsafe_4cfef_10 : decode cJ2_indexOfCharUnsafe_4cfef 10 = .ok (.iload 4, 2) := by decide +kernel
theorem dJ2_indexOfCharUnsafe_4cfef_12 : decode cJ2_indexOfCharUnsafe_4cfef 12 = .ok (.invokestatic 71, 3) := by decide +kernel
theorem dJ2_indexOfCharUnsafe_4cfef_15 : decode cJ2_indexOfCharUnsafe_4cfef 15 = .ok (.iload_n 1, 1) := by decide +kernel
theorem dJ2_indexOfCharUnsafe_4cfef_16 : decode cJ2_indexOfCharUnsafe_4cfef 16 = .ok (.if_icmp .ne 6, 3) := by decide +kernel
theorem dJ2_indexOfCharUnsafe_4cfef_19 : decode cJ2_indexOfCharUnsafe_4cfef 19 = .ok (.iload 4, 2) := by decide +kernel
theorem dJ2_indexOfCharUnsafe_4cfef_21 : decode cJ2_indexOfCharUnsafe_4cfef 21 = .ok (.ireturn, 1) := by decide +kernel
theorem dJ2_indexOfCharUnsafe_4cfef_22 : decode cJ2_indexOfCharUnsafe_4cfef 22 = .ok (.iinc 4 1, 3) := by decide +kernel
theorem dJ2_indexOfCharUnsafe_4cfef_25 : decode cJ2_indexOfCharUnsafe_4cfef 25 = .ok (.goto (-22), 3) := by decide +kernel
theorem dJ2_indexOfCharUnsafe_4cfef_28 : decode cJ2_indexOfCharUnsafe_4cfef 28 = .ok (.iconst (-1), 1) := by decide +kernel
theorem dJ2_indexOfCharUnsafe_4cfef_29 : decode cJ2_indexOfCharUnsafe_4cfef 29 = .ok (.ireturn, 1) := by decide +kernel
theorem dJ2_indexOfSupplementary_4cfef_0 : decode cJ2_indexOfSupplementary_4cfef 0 = .ok (.iload_n 1, 1) := by decide +kernel
theorem dJ2_indexOfSupplementary_4cfef_1 : decode cJ2_indexOfSupplementary_4cfef 1 = .ok (.invokestatic 164, 3) := by decide +kernel
theorem dJ2_indexOfSupplementary_4cfef_4 : decode cJ2_indexOfSupplementary_4cfef 4 = .ok (.ifCond .eq 65, 3) := by decide +kernel
theorem dJ2_indexOfSupplementary_4cfef_7 : decode cJ2_indexOfSupplementary_4cfef 7 = .ok (.iload_n 1, 1) := by decide +kernel
theorem dJ2_indexOfSupplementary_4cfef_8 : decode cJ2_indexOfSupplementary_4cfef 8 = .ok (.invokestatic 157, 3) := by decide +kernel
theorem dJ2_indexOfSupplementary_4cfef_11 : decode cJ2_indexOfSupplementary_4cfef 11 = .ok (.istore 4, 2) := by decide +kernel
theorem dJ2_indexOfSupplementary_4cfef_13 : decode cJ2_indexOfSupplementary_4cfef 13 = .ok (.iload_n 1, 1) := by decide +kernel
theorem dJ2_indexOfSupplementary_4cfef_14 : decode cJ2_indexOfSupplementary_4cfef 14 = .ok (.invokestatic 161, 3) := by decide +kernel
theorem dJ2_indexOfSupplementary_4cfef_17 : decode cJ2_indexOfSupplementary_4cfef 17 = .ok (.istore 5, 2) := by decide +kernel
theorem dJ2_indexOfSupplementary_4cfef_19 : decode cJ2_indexOfSupplementary_4cfef 19 = .ok (.iload_n 2, 1) := by decide +kernel
theorem dJ2_indexOfSupplementary_4cfef_20 : decode cJ2_indexOfSupplementary_4cfef 20 = .ok (.iload_n 3, 1) := by decide +kernel
theorem dJ2_indexOfSupplementary_4cfef_21 : decode cJ2_indexOfSupplementary_4cfef 21 = .ok (.aload_n 0, 1) := by decide +kernel
theorem dJ2_indexOfSupplementary_4cfef_22 : decode cJ2_indexOfSupplementary_4cfef 22 = .ok (.invokestatic 96, 3) := by decide +kernel
theorem dJ2_indexOfSupplementary_4cfef_25 : decode cJ2_indexOfSupplementary_4cfef 25 = .ok (.iload_n 2, 1) := by decide +kernel
theorem dJ2_indexOfSupplementary_4cfef_26 : decode cJ2_indexOfSupplementary_4cfef 26 = .ok (.istore 6, 2) := by decide +kernel
theorem dJ2_indexOfSupplementary_4cfef_28 : decode cJ2_indexOfSupplementary_4cfef 28 = .ok (.iload 6, 2) := by decide +kernel
theorem dJ2_indexOfSupplementary_4cfef_30 : decode cJ2_indexOfSupplementary_4cfef 30 = .ok (.iload_n 3, 1) := by decide +kernel
theorem dJ2_indexOfSupplementary_4cfef_31 : decode cJ2_indexOfSupplementary_4cfef 31 = .ok (.iconst 1, 1) := by decide +kernel
theorem dJ2_indexOfSupplementary_4cfef_32 : decode cJ2_indexOfSupplementary_4cfef 32 = .ok (.isub, 1) := by decide +kernel
theorem dJ2_indexOfSupplementary_4cfef_33 : decode cJ2_indexOfSupplementary_4cfef 33 = .ok (.if_icmp .ge 36, 3) := by decide +kernel
theorem dJ2_indexOfSupplementary_4cfef_36 : decode cJ2_indexOfSupplementary_4cfef 36 = .ok (.aload_n 0, 1) := by decide +kernel
theorem dJ2_indexOfSupplementary_4cfef_37 : decode cJ2_indexOfSupplementary_4cfef 37 = .ok (.iload 6, 2) := by decide +kernel
theorem dJ2_indexOfSupplementary_4cfef_39 : decode cJ2_indexOfSupplementary_4cfef 39 = .ok (.invokestatic 71, 3) := by decide +kernel
theorem dJ2_indexOfSupplementary_4cfef_42 : decode cJ2_indexOfSupplementary_4cfef 42 = .ok (.iload 4, 2) := by decide +kernel
theorem dJ2_indexOfSupplementary_4cfef_44 : decode cJ2_indexOfSupplementary_4cfef 44 = .ok (.if_icmp .ne 19, 3) := by decide +kernel
theorem dJ2_indexOfSupplementary_4cfef_47 : decode cJ2_indexOfSupplementary_4cfef 47 = .ok (.aload_n 0, 1) := by decide +kernel
theorem dJ2_indexOfSupplementary_4cfef_48 : decode cJ2_indexOfSupplementary_4cfef 48 = .ok (.iload 6, 2) := by decide +kernel
theorem dJ2_indexOfSupplementary_4cfef_50 : decode cJ2_indexOfSupplementary_4cfef 50 = .ok (.iconst 1, 1) := by decide +kernel
theorem dJ2_indexOfSupplementary_4cfef_51 : decode cJ2_indexOfSupplementary_4cfef 51 = .ok (.iadd, 1) := by decide +kernel
theorem dJ2_indexOfSupplementary_4cfef_52 : decode cJ2_indexOfSupplementary_4cfef 52 = .ok (.invokestatic 71, 3) := by decide +kernel
theorem dJ2_indexOfSupplementary_4cfef_55 : decode cJ2_indexOfSupplementary_4cfef 55 = .ok (.iload 5, 2) := by decide +kernel
theorem dJ2_indexOfSupplementary_4cfef_57 : decode cJ2_indexOfSupplementary_4cfef 57 = .ok (.if_icmp .ne 6, 3) := by decide +kernel
theorem dJ2_indexOfSupplementary_4cfef_60 : decode cJ2_indexOfSupplementary_4cfef 60 = .ok (.iload 6, 2) := by decide +kernel
theorem dJ2_indexOfSupplementary_4cfef_62 : decode cJ2_indexOfSupplementary_4cfef 62 = .ok (.ireturn, 1) := by decide +kernel
theorem dJ2_indexOfSupplementary_4cfef_63 : decode cJ2_indexOfSupplementary_4cfef 63 = .ok (.iinc 6 1, 3) := by decide +kernel
theorem dJ2_indexOfSupplementary_4cfef_66 : decode cJ2_indexOfSupplementary_4cfef 66 = .ok (.goto (-38), 3) := by decide +kernel
theorem dJ2_indexOfSupplementary_4cfef_69 : decode cJ2_indexOfSupplementary_4cfef 69 = .ok (.iconst (-1), 1) := by decide +kernel
theorem dJ2_indexOfSupplementary_4cfef_70 : decode cJ2_indexOfSupplementary_4cfef 70 = .ok (.ireturn, 1) := by decide +kernel
theorem dJ2_charAt_3b067_0 : decode cJ2_charAt_3b067 0 = .ok (.iload_n 1, 1) := by decide +kernel
theorem dJ2_charAt_3b067_1 : decode cJ2_charAt_3b067 1 = .ok (.aload_n 0, 1) := by decide +kernel
theorem dJ2_charAt_3b067_2 : decode cJ2_charAt_3b067 2 = .ok (.invokestatic 67, 3) := by decide +kernel
theorem dJ2_charAt_3b067_5 : decode cJ2_charAt_3b067 5 = .ok (.aload_n 0, 1) := by decide +kernel
theorem dJ2_charAt_3b067_6 : decode cJ2_charAt_3b067 6 = .ok (.iload_n 1, 1) := by decide +kernel
theorem dJ2_charAt_3b067_7 : decode cJ2_charAt_3b067 7 = .ok (.invokestatic 71, 3) := by decide +kernel
theorem dJ2_charAt_3b067_10 : decode cJ2_charAt_3b067 10 = .ok (.ireturn, 1) := by decide +kernel
theorem dJ2_checkIndex_2214a_0 : decode cJ2_checkIndex_2214a 0 = .ok (.iload_n 0, 1) := by decide +kernel
theorem dJ2_checkIndex_2214a_1 : decode cJ2_checkIndex_2214a 1 = .ok (.aload_n 1, 1) := by decide +kernel
theorem dJ2_checkIndex_2214a_2 : decode cJ2_checkIndex_2214a 2 = .ok (.invokestatic 48, 3) := by decide +kernel
theorem dJ2_checkIndex_2214a_5 : decode cJ2_checkIndex_2214a 5 = .ok (.invokestatic 414, 3) := by decide +kernel
theorem dJ2_checkIndex_2214a_8 : decode cJ2_checkIndex_2214a 8 = .ok (.return_, 1) := by decide +kernel
theorem dJ2_checkBoundsBeginEnd_d044e_0 : decode cJ2_checkBoundsBeginEnd_d044e 0 = .ok (.iload_n 0, 1) := by decide +kernel
theorem dJ2_checkBoundsBeginEnd_d044e_1 : decode cJ2_checkBoundsBeginEnd_d044e 1 = .ok (.iload_n 1, 1) := by decide +kernel
theorem dJ2_checkBoundsBeginEnd_d044e_2 : decode cJ2_checkBoundsBeginEnd_d044e 2 = .ok (.aload_n 2, 1) := by decide +kernel
theorem dJ2_checkBoundsBeginEnd_d044e_3 : decode cJ2_checkBoundsBeginEnd_d044e 3 = .ok (.invokestatic 48, 3) := by decide +kernel
theorem dJ2_checkBoundsBeginEnd_d044e_6 : decode cJ2_checkBoundsBeginEnd_d044e 6 = .ok (.invokestatic 241, 3) := by decide +kernel
theorem dJ2_checkBoundsBeginEnd_d044e_9 : decode cJ2_checkBoundsBeginEnd_d044e 9 = .ok (.return_, 1) := by decide +kernel
theorem dJ3_checkIndex_8e157_0 : decode cJ3_checkIndex_8e157 0 = .ok (.iload_n 0, 1) := by decide +kernel
theorem dJ3_checkIndex_8e157_1 : decode cJ3_checkIndex_8e157 1 = .ok (.ifCond .lt 8, 3) := by decide +kernel
theorem dJ3_checkIndex_8e157_4 : decode cJ3_checkIndex_8e157 4 = .ok (.iload_n 0, 1) := by decide +kernel
theorem dJ3_checkIndex_8e157_5 : decode cJ3_checkIndex_8e157 5 = .ok (.iload_n 1, 1) := by decide +kernel
theorem dJ3_checkIndex_8e157_6 : decode cJ3_checkIndex_8e157 6 = .ok (.if_icmp .lt 10, 3) := by decide +kernel
theorem dJ3_checkIndex_8e157_9 : decode cJ3_checkIndex_8e157 9 = .ok (.aload_n 2, 1) := by decide +kernel
theorem dJ3_checkIndex_8e157_10 : decode cJ3_checkIndex_8e157 10 = .ok (.iload_n 0, 1) := by decide +kernel
theorem dJ3_checkIndex_8e157_11 : decode cJ3_checkIndex_8e157 11 = .ok (.iload_n 1, 1) := by decide +kernel
theorem dJ3_checkIndex_8e157_12 : decode cJ3_checkIndex_8e157 12 = .ok (.invokestatic 95, 3) := by decide +kernel
theorem dJ3_checkIndex_8e157_15 : decode cJ3_checkIndex_8e157 15 = .ok (.athrow, 1) := by decide +kernel
theorem dJ3_checkIndex_8e157_16 : decode cJ3_checkIndex_8e157 16 = .ok (.iload_n 0, 1) := by decide +kernel
theorem dJ3_checkIndex_8e157_17 : decode cJ3_checkIndex_8e157 17 = .ok (.ireturn, 1) := by decide +kernel
theorem dJ3_checkFromToIndex_8c36e_0 : decode cJ3_checkFromToIndex_8c36e 0 = .ok (.iload_n 0, 1) := by decide +kernel
theorem dJ3_checkFromToIndex_8c36e_1 : decode cJ3_checkFromToIndex_8c36e 1 = .ok (.ifCond .lt 13, 3) := by decide +kernel
theorem dJ3_checkFromToIndex_8c36e_4 : decode cJ3_checkFromToIndex_8c36e 4 = .ok (.iload_n 0, 1) := by decide +kernel
theorem dJ3_checkFromToIndex_8c36e_5 : decode cJ3_checkFromToIndex_8c36e 5 = .ok (.iload_n 1, 1) := by decide +kernel
theorem dJ3_checkFromToIndex_8c36e_6 : decode cJ3_checkFromToIndex_8c36e 6 = .ok (.if_icmp .gt 8, 3) := by decide +kernel
theorem dJ3_checkFromToIndex_8c36e_9 : decode cJ3_checkFromToIndex_8c36e 9 = .ok (.iload_n 1, 1) := by decide +kernel
theorem dJ3_checkFromToIndex_8c36e_10 : decode cJ3_checkFromToIndex_8c36e 10 = .ok (.iload_n 2, 1) := by decide +kernel
theorem dJ3_checkFromToIndex_8c36e_11 : decode cJ3_checkFromToIndex_8c36e 11 = .ok (.if_icmp .le 11, 3) := by decide +kernel
theorem dJ3_checkFromToIndex_8c36e_14 : decode cJ3_checkFromToIndex_8c36e 14 = .ok (.aload_n 3, 1) := by decide +kernel
theorem dJ3_checkFromToIndex_8c36e_15 : decode cJ3_checkFromToIndex_8c36e 15 = .ok (.iload_n 0, 1) := by decide +kernel
theorem dJ3_checkFromToIndex_8c36e_16 : decode cJ3_checkFromToIndex_8c36e 16 = .ok (.iload_n 1, 1) := by decide +kernel
theorem dJ3_checkFromToIndex_8c36e_17 : decode cJ3_checkFromToIndex_8c36e 17 = .ok (.iload_n 2, 1) := by decide +kernel
theorem dJ3_checkFromToIndex_8c36e_18 : decode cJ3_checkFromToIndex_8c36e 18 = .ok (.invokestatic 99, 3) := by decide +kernel
theorem dJ3_checkFromToIndex_8c36e_21 : decode cJ3_checkFromToIndex_8c36e 21 = .ok (.athrow, 1) := by decide +kernel
theorem dJ3_checkFromToIndex_8c36e_22 : decode cJ3_checkFromToIndex_8c36e 22 = .ok (.iload_n 0, 1) := by decide +kernel
theorem dJ3_checkFromToIndex_8c36e_23 : decode cJ3_checkFromToIndex_8c36e 23 = .ok (.ireturn, 1) := by decide +kernel
theorem dL_tryAdd_0 : decode cL_tryAdd 0 = .ok (.aload_n 0, 1) := by decide +kernel
theorem dL_tryAdd_1 : decode cL_tryAdd 1 = .ok (.iload_n 1, 1) := by decide +kernel
theorem dL_tryAdd_2 : decode cL_tryAdd 2 = .ok (.iload_n 2, 1) := by decide +kernel
theorem dL_tryAdd_3 : decode cL_tryAdd 3 = .ok (.iload_n 3, 1) := by decide +kernel
theorem dL_tryAdd_4 : decode cL_tryAdd 4 = .ok (.iload 4, 2) := by decide +kernel
theorem dL_tryAdd_6 : decode cL_tryAdd 6 = .ok (.iload 5, 2) := by decide +kernel
theorem dL_tryAdd_8 : decode cL_tryAdd 8 = .ok (.invokevirtual 7, 3) := by decide +kernel
theorem dL_tryAdd_11 : decode cL_tryAdd 11 = .ok (.ireturn, 1) := by decide +kernel
theorem dL_tryAdd_12 : decode cL_tryAdd 12 = .ok (.astore 6, 2) := by decide +kernel
theorem dL_tryAdd_14 : decode cL_tryAdd 14 = .ok (.ldc 15, 2) := by decide +kernel
theorem dL_tryAdd_16 : decode cL_tryAdd 16 = .ok (.ireturn, 1) := by decide +kernel
theorem dL_tryAdd_17 : decode cL_tryAdd 17 = .ok (.astore 6, 2) := by decide +kernel
theorem dL_tryAdd_19 : decode cL_tryAdd 19 = .ok (.ldc 18, 2) := by decide +kernel
theorem dL_tryAdd_21 : decode cL_tryAdd 21 = .ok (.ireturn, 1) := by decide +kernel
theorem dL_tryAdd_22 : decode cL_tryAdd 22 = .ok (.astore 6, 2) := by decide +kernel
theorem dL_tryAdd_24 : decode cL_tryAdd 24 = .ok (.ldc 21, 2) := by decide +kernel
theorem dL_tryAdd_26 : decode cL_tryAdd 26 = .ok (.ireturn, 1) := by decide +kernel
theorem dL_tryScript_0 : decode cL_tryScript 0 = .ok (.aload_n 0, 1) := by decide +kernel
theorem dL_tryScript_1 : decode cL_tryScript 1 = .ok (.iload_n 1, 1) := by decide +kernel
theorem dL_tryScript_2 : decode cL_tryScript 2 = .ok (.lload_n 2, 1) := by decide +kernel
theorem dL_tryScript_3 : decode cL_tryScript 3 = .ok (.invokevirtual 22, 3) := by decide +kernel
theorem dL_tryScript_6 : decode cL_tryScript 6 = .ok (.ireturn, 1) := by decide +kernel
theorem dL_tryScript_7 : decode cL_tryScript 7 = .ok (.astore 4, 2) := by decide +kernel
theorem dL_tryScript_9 : decode cL_tryScript 9 = .ok (.ldc 18, 2) := by decide +kernel
theorem dL_tryScript_11 : decode cL_tryScript 11 = .ok (.ireturn, 1) := by decide +kernel
theorem dL_trySimulate_0 : decode cL_trySimulate 0 = .ok (.aload_n 0, 1) := by decide +kernel
theorem dL_trySimulate_1 : decode cL_trySimulate 1 = .ok (.lload_n 1, 1) := by decide +kernel
theorem dL_trySimulate_2 : decode cL_trySimulate 2 = .ok (.iload_n 3, 1) := by decide +kernel
theorem dL_trySimulate_3 : decode cL_trySimulate 3 = .ok (.invokevirtual 26, 3) := by decide +kernel
theorem dL_trySimulate_6 : decode cL_trySimulate 6 = .ok (.ireturn, 1) := by decide +kernel
theorem dL_trySimulate_7 : decode cL_trySimulate 7 = .ok (.astore 4, 2) := by decide +kernel
theorem dL_trySimulate_9 : decode cL_trySimulate 9 = .ok (.ldc 18, 2) := by decide +kernel
theorem dL_trySimulate_11 : decode cL_trySimulate 11 = .ok (.ireturn, 1) := by decide +kernel
theorem dL_tryAppend_0 : decode cL_tryAppend 0 = .ok (.aload_n 0, 1) := by decide +kernel
theorem dL_tryAppend_1 : decode cL_tryAppend 1 = .ok (.iload_n 1, 1) := by decide +kernel
theorem dL_tryAppend_2 : decode cL_tryAppend 2 = .ok (.invokevirtual 30, 3) := by decide +kernel
theorem dL_tryAppend_5 : decode cL_tryAppend 5 = .ok (.ireturn, 1) := by decide +kernel
theorem dL_tryAppend_6 : decode cL_tryAppend 6 = .ok (.astore_n 2, 1) := by decide +kernel
theorem dL_tryAppend_7 : decode cL_tryAppend 7 = .ok (.ldc 18, 2) := by decide +kernel
theorem dL_tryAppend_9 : decode cL_tryAppend 9 = .ok (.ireturn, 1) := by decide +kernel
theorem dL_tryAppend_10 : decode cL_tryAppend 10 = .ok (.astore_n 2, 1) := by decide +kernel
theorem dL_tryAppend_11 : decode cL_tryAppend 11 = .ok (.ldc 21, 2) := by decide +kernel
theorem dL_tryAppend_13 : decode cL_tryAppend 13 = .ok (.ireturn, 1) := by decide +kernel
theorem dL_tryLoad_0 : decode cL_tryLoad 0 = .ok (.aload_n 0, 1) := by decide +kernel
theorem dL_tryLoad_1 : decode cL_tryLoad 1 = .ok (.invokevirtual 34, 3) := by decide +kernel
theorem dL_tryLoad_4 : decode cL_tryLoad 4 = .ok (.ireturn, 1) := by decide +kernel
theorem dL_tryLoad_5 : decode cL_tryLoad 5 = .ok (.astore_n 1, 1) := by decide +kernel
theorem dL_tryLoad_6 : decode cL_tryLoad 6 = .ok (.ldc 21, 2) := by decide +kernel
theorem dL_tryLoad_8 : decode cL_tryLoad 8 = .ok (.ireturn, 1) := by decide +kernel
theorem dL_tryAbout_0 : decode cL_tryAbout 0 = .ok (.aload_n 0, 1) := by decide +kernel
theorem dL_tryAbout_1 : decode cL_tryAbout 1 = .ok (.iload_n 1, 1) := by decide +kernel
theorem dL_tryAbout_2 : decode cL_tryAbout 2 = .ok (.invokevirtual 38, 3) := by decide +kernel
theorem dL_tryAbout_5 : decode cL_tryAbout 5 = .ok (.ireturn, 1) := by decide +kernel
theorem dL_tryAbout_6 : decode cL_tryAbout 6 = .ok (.astore_n 2, 1) := by decide +kernel
theorem dL_tryAbout_7 : decode cL_tryAbout 7 = .ok (.ldc 18, 2) := by decide +kernel
theorem dL_tryAbout_9 : decode cL_tryAbout 9 = .ok (.ireturn, 1) := by decide +kernel
theorem dL_tryKind_0 : decode cL_tryKind 0 = .ok (.aload_n 0, 1) := by decide +kernel
theorem dL_tryKind_1 : decode cL_tryKind 1 = .ok (.iload_n 1, 1) := by decide +kernel
theorem dL_tryKind_2 : decode cL_tryKind 2 = .ok (.iload_n 2, 1) := by decide +kernel
theorem dL_tryKind_3 : decode cL_tryKind 3 = .ok (.invokevirtual 41, 3) := by decide +kernel
theorem dL_tryKind_6 : decode cL_tryKind 6 = .ok (.ireturn, 1) := by decide +kernel
theorem dL_tryKind_7 : decode cL_tryKind 7 = .ok (.astore_n 3, 1) := by decide +kernel
theorem dL_tryKind_8 : decode cL_tryKind 8 = .ok (.ldc 15, 2) := by decide +kernel
theorem dL_tryKind_10 : decode cL_tryKind 10 = .ok (.ireturn, 1) := by decide +kernel
theorem dL_tryKind_11 : decode cL_tryKind 11 = .ok (.astore_n 3, 1) := by decide +kernel
theorem dL_tryKind_12 : decode cL_tryKind 12 = .ok (.ldc 18, 2) := by decide +kernel
theorem dL_tryKind_14 : decode cL_tryKind 14 = .ok (.ireturn, 1) := by decide +kernel
theorem dL_tryBidder_0 : decode cL_tryBidder 0 = .ok (.aload_n 0, 1) := by decide +kernel
theorem dL_tryBidder_1 : decode cL_tryBidder 1 = .ok (.iload_n 1, 1) := by decide +kernel
theorem dL_tryBidder_2 : decode cL_tryBidder 2 = .ok (.iload_n 2, 1) := by decide +kernel
theorem dL_tryBidder_3 : decode cL_tryBidder 3 = .ok (.invokevirtual 45, 3) := by decide +kernel
theorem dL_tryBidder_6 : decode cL_tryBidder 6 = .ok (.ireturn, 1) := by decide +kernel
theorem dL_tryBidder_7 : decode cL_tryBidder 7 = .ok (.astore_n 3, 1) := by decide +kernel
theorem dL_tryBidder_8 : decode cL_tryBidder 8 = .ok (.ldc 15, 2) := by decide +kernel
theorem dL_tryBidder_10 : decode cL_tryBidder 10 = .ok (.ireturn, 1) := by decide +kernel
theorem dL_tryBidder_11 : decode cL_tryBidder 11 = .ok (.astore_n 3, 1) := by decide +kernel
theorem dL_tryBidder_12 : decode cL_tryBidder 12 = .ok (.ldc 18, 2) := by decide +kernel
theorem dL_tryBidder_14 : decode cL_tryBidder 14 = .ok (.ireturn, 1) := by decide +kernel
theorem dL_tryDemand_0 : decode cL_tryDemand 0 = .ok (.aload_n 0, 1) := by decide +kernel
theorem dL_tryDemand_1 : decode cL_tryDemand 1 = .ok (.iload_n 1, 1) := by decide +kernel
theorem dL_tryDemand_2 : decode cL_tryDemand 2 = .ok (.iload_n 2, 1) := by decide +kernel
theorem dL_tryDemand_3 : decode cL_tryDemand 3 = .ok (.invokevirtual 48, 3) := by decide +kernel
theorem dL_tryDemand_6 : decode cL_tryDemand 6 = .ok (.ireturn, 1) := by decide +kernel
theorem dL_tryDemand_7 : decode cL_tryDemand 7 = .ok (.astore_n 3, 1) := by decide +kernel
theorem dL_tryDemand_8 : decode cL_tryDemand 8 = .ok (.ldc 15, 2) := by decide +kernel
theorem dL_tryDemand_10 : decode cL_tryDemand 10 = .ok (.ireturn, 1) := by decide +kernel
theorem dL_tryPack_0 : decode cL_tryPack 0 = .ok (.aload_n 0, 1) := by decide +kernel
theorem dL_tryPack_1 : decode cL_tryPack 1 = .ok (.iload_n 1, 1) := by decide +kernel
theorem dL_tryPack_2 : decode cL_tryPack 2 = .ok (.iload_n 2, 1) := by decide +kernel
theorem dL_tryPack_3 : decode cL_tryPack 3 = .ok (.iload_n 3, 1) := by decide +kernel
theorem dL_tryPack_4 : decode cL_tryPack 4 = .ok (.invokevirtual 51, 3) := by decide +kernel
theorem dL_tryPack_7 : decode cL_tryPack 7 = .ok (.ireturn, 1) := by decide +kernel
theorem dL_tryPack_8 : decode cL_tryPack 8 = .ok (.astore 4, 2) := by decide +kernel
theorem dL_tryPack_10 : decode cL_tryPack 10 = .ok (.ldc 15, 2) := by decide +kernel
theorem dL_tryPack_12 : decode cL_tryPack 12 = .ok (.ireturn, 1) := by decide +kernel
theorem dL_tryPack_13 : decode cL_tryPack 13 = .ok (.astore 4, 2) := by decide +kernel
theorem dL_tryPack_15 : decode cL_tryPack 15 = .ok (.ldc 18, 2) := by decide +kernel
theorem dL_tryPack_17 : decode cL_tryPack 17 = .ok (.ireturn, 1) := by decide +kernel
theorem dL_trySetting_0 : decode cL_trySetting 0 = .ok (.aload_n 0, 1) := by decide +kernel
theorem dL_trySetting_1 : decode cL_trySetting 1 = .ok (.iload_n 1, 1) := by decide +kernel
theorem dL_trySetting_2 : decode cL_trySetting 2 = .ok (.invokevirtual 55, 3) := by decide +kernel
theorem dL_trySetting_5 : decode cL_trySetting 5 = .ok (.ireturn, 1) := by decide +kernel
theorem dL_trySetting_6 : decode cL_trySetting 6 = .ok (.astore_n 2, 1) := by decide +kernel
theorem dL_trySetting_7 : decode cL_trySetting 7 = .ok (.ldc 18, 2) := by decide +kernel
theorem dL_trySetting_9 : decode cL_trySetting 9 = .ok (.ireturn, 1) := by decide +kernel
theorem dL_tryOffer_0 : decode cL_tryOffer 0 = .ok (.aload_n 0, 1) := by decide +kernel
theorem dL_tryOffer_1 : decode cL_tryOffer 1 = .ok (.iload_n 1, 1) := by decide +kernel
theorem dL_tryOffer_2 : decode cL_tryOffer 2 = .ok (.iload_n 2, 1) := by decide +kernel
theorem dL_tryOffer_3 : decode cL_tryOffer 3 = .ok (.iload_n 3, 1) := by decide +kernel
theorem dL_tryOffer_4 : decode cL_tryOffer 4 = .ok (.invokevirtual 58, 3) := by decide +kernel
theorem dL_tryOffer_7 : decode cL_tryOffer 7 = .ok (.ireturn, 1) := by decide +kernel
theorem dL_tryOffer_8 : decode cL_tryOffer 8 = .ok (.astore 4, 2) := by decide +kernel
theorem dL_tryOffer_10 : decode cL_tryOffer 10 = .ok (.ldc 15, 2) := by decide +kernel
theorem dL_tryOffer_12 : decode cL_tryOffer 12 = .ok (.ireturn, 1) := by decide +kernel
theorem dL_tryOffer_13 : decode cL_tryOffer 13 = .ok (.astore 4, 2) := by decide +kernel
theorem dL_tryOffer_15 : decode cL_tryOffer 15 = .ok (.ldc 18, 2) := by decide +kernel
theorem dL_tryOffer_17 : decode cL_tryOffer 17 = .ok (.ireturn, 1) := by decide +kernel
theorem dL_tryOffer_18 : decode cL_tryOffer 18 = .ok (.astore 4, 2) := by decide +kernel
theorem dL_tryOffer_20 : decode cL_tryOffer 20 = .ok (.ldc 21, 2) := by decide +kernel
theorem dL_tryOffer_22 : decode cL_tryOffer 22 = .ok (.ireturn, 1) := by decide +kernel
theorem dL_tryPrice_0 : decode cL_tryPrice 0 = .ok (.aload_n 0, 1) := by decide +kernel
theorem dL_tryPrice_1 : decode cL_tryPrice 1 = .ok (.iload_n 1, 1) := by decide +kernel
theorem dL_tryPrice_2 : decode cL_tryPrice 2 = .ok (.iload_n 2, 1) := by decide +kernel
theorem dL_tryPrice_3 : decode cL_tryPrice 3 = .ok (.invokevirtual 61, 3) := by decide +kernel
theorem dL_tryPrice_6 : decode cL_tryPrice 6 = .ok (.ireturn, 1) := by decide +kernel
theorem dL_tryPrice_7 : decode cL_tryPrice 7 = .ok (.astore_n 3, 1) := by decide +kernel
theorem dL_tryPrice_8 : decode cL_tryPrice 8 = .ok (.ldc 15, 2) := by decide +kernel
theorem dL_tryPrice_10 : decode cL_tryPrice 10 = .ok (.ireturn, 1) := by decide +kernel
theorem dL_tryPrice_11 : decode cL_tryPrice 11 = .ok (.astore_n 3, 1) := by decide +kernel
theorem dL_tryPrice_12 : decode cL_tryPrice 12 = .ok (.ldc 18, 2) := by decide +kernel
theorem dL_tryPrice_14 : decode cL_tryPrice 14 = .ok (.ireturn, 1) := by decide +kernel
theorem dL_tryPrice_15 : decode cL_tryPrice 15 = .ok (.astore_n 3, 1) := by decide +kernel
theorem dL_tryPrice_16 : decode cL_tryPrice 16 = .ok (.ldc 21, 2) := by decide +kernel
theorem dL_tryPrice_18 : decode cL_tryPrice 18 = .ok (.ireturn, 1) := by decide +kernel
theorem dL_tryJoin_0 : decode cL_tryJoin 0 = .ok (.aload_n 0, 1) := by decide +kernel
theorem dL_tryJoin_1 : decode cL_tryJoin 1 = .ok (.iload_n 1, 1) := by decide +kernel
theorem dL_tryJoin_2 : decode cL_tryJoin 2 = .ok (.iload_n 2, 1) := by decide +kernel
theorem dL_tryJoin_3 : decode cL_tryJoin 3 = .ok (.invokevirtual 64, 3) := by decide +kernel
theorem dL_tryJoin_6 : decode cL_tryJoin 6 = .ok (.ireturn, 1) := by decide +kernel
theorem dL_tryJoin_7 : decode cL_tryJoin 7 = .ok (.astore_n 3, 1) := by decide +kernel
theorem dL_tryJoin_8 : decode cL_tryJoin 8 = .ok (.ldc 18, 2) := by decide +kernel
theorem dL_tryJoin_10 : decode cL_tryJoin 10 = .ok (.ireturn, 1) := by decide +kernel
theorem dL_tryJoin_11 : decode cL_tryJoin 11 = .ok (.astore_n 3, 1) := by decide +kernel
theorem dL_tryJoin_12 : decode cL_tryJoin 12 = .ok (.ldc 21, 2) := by decide +kernel
theorem dL_tryJoin_14 : decode cL_tryJoin 14 = .ok (.ireturn, 1) := by decide +kernel
theorem dL_tryValue_0 : decode cL_tryValue 0 = .ok (.aload_n 0, 1) := by decide +kernel
theorem dL_tryValue_1 : decode cL_tryValue 1 = .ok (.iload_n 1, 1) := by decide +kernel
theorem dL_tryValue_2 : decode cL_tryValue 2 = .ok (.iload_n 2, 1) := by decide +kernel
theorem dL_tryValue_3 : decode cL_tryValue 3 = .ok (.iload_n 3, 1) := by decide +kernel
theorem dL_tryValue_4 : decode cL_tryValue 4 = .ok (.invokevirtual 67, 3) := by decide +kernel
theorem dL_tryValue_7 : decode cL_tryValue 7 = .ok (.ireturn, 1) := by decide +kernel
theorem dL_tryValue_8 : decode cL_tryValue 8 = .ok (.astore 4, 2) := by decide +kernel
theorem dL_tryValue_10 : decode cL_tryValue 10 = .ok (.ldc 15, 2) := by decide +kernel
theorem dL_tryValue_12 : decode cL_tryValue 12 = .ok (.ireturn, 1) := by decide +kernel
theorem dL_tryValue_13 : decode cL_tryValue 13 = .ok (.astore 4, 2) := by decide +kernel
theorem dL_tryValue_15 : decode cL_tryValue 15 = .ok (.ldc 18, 2) := by decide +kernel
theorem dL_tryValue_17 : decode cL_tryValue 17 = .ok (.ireturn, 1) := by decide +kernel
theorem dL_tryAsk_0 : decode cL_tryAsk 0 = .ok (.aload_n 0, 1) := by decide +kernel
theorem dL_tryAsk_1 : decode cL_tryAsk 1 = .ok (.iload_n 1, 1) := by decide +kernel
theorem dL_tryAsk_2 : decode cL_tryAsk 2 = .ok (.iload_n 2, 1) := by decide +kernel
theorem dL_tryAsk_3 : decode cL_tryAsk 3 = .ok (.iload_n 3, 1) := by decide +kernel
theorem dL_tryAsk_4 : decode cL_tryAsk 4 = .ok (.invokevirtual 70, 3) := by decide +kernel
theorem dL_tryAsk_7 : decode cL_tryAsk 7 = .ok (.ireturn, 1) := by decide +kernel
theorem dL_tryAsk_8 : decode cL_tryAsk 8 = .ok (.astore 4, 2) := by decide +kernel
theorem dL_tryAsk_10 : decode cL_tryAsk 10 = .ok (.ldc 15, 2) := by decide +kernel
theorem dL_tryAsk_12 : decode cL_tryAsk 12 = .ok (.ireturn, 1) := by decide +kernel
theorem dL_tryAsk_13 : decode cL_tryAsk 13 = .ok (.astore 4, 2) := by decide +kernel
theorem dL_tryAsk_15 : decode cL_tryAsk 15 = .ok (.ldc 18, 2) := by decide +kernel
theorem dL_tryAsk_17 : decode cL_tryAsk 17 = .ok (.ireturn, 1) := by decide +kernel
theorem dL_tryAsk_18 : decode cL_tryAsk 18 = .ok (.astore 4, 2) := by decide +kernel
theorem dL_tryAsk_20 : decode cL_tryAsk 20 = .ok (.ldc 21, 2) := by decide +kernel
theorem dL_tryAsk_22 : decode cL_tryAsk 22 = .ok (.ireturn, 1) := by decide +kernel
theorem dL_tryBid_0 : decode cL_tryBid 0 = .ok (.aload_n 0, 1) := by decide +kernel
theorem dL_tryBid_1 : decode cL_tryBid 1 = .ok (.iload_n 1, 1) := by decide +kernel
theorem dL_tryBid_2 : decode cL_tryBid 2 = .ok (.invokevirtual 73, 3) := by decide +kernel
theorem dL_tryBid_5 : decode cL_tryBid 5 = .ok (.ireturn, 1) := by decide +kernel
theorem dL_tryBid_6 : decode cL_tryBid 6 = .ok (.astore_n 2, 1) := by decide +kernel
theorem dL_tryBid_7 : decode cL_tryBid 7 = .ok (.ldc 15, 2) := by decide +kernel
theorem dL_tryBid_9 : decode cL_tryBid 9 = .ok (.ireturn, 1) := by decide +kernel
theorem dL_tryBid_10 : decode cL_tryBid 10 = .ok (.astore_n 2, 1) := by decide +kernel
theorem dL_tryBid_11 : decode cL_tryBid 11 = .ok (.ldc 21, 2) := by decide +kernel
theorem dL_tryBid_13 : decode cL_tryBid 13 = .ok (.ireturn, 1) := by decide +kernel
theorem dL_tryClose_0 : decode cL_tryClose 0 = .ok (.aload_n 0, 1) := by decide +kernel
theorem dL_tryClose_1 : decode cL_tryClose 1 = .ok (.invokevirtual 76, 3) := by decide +kernel
theorem dL_tryClose_4 : decode cL_tryClose 4 = .ok (.ireturn, 1) := by decide +kernel
theorem dL_tryClose_5 : decode cL_tryClose 5 = .ok (.astore_n 1, 1) := by decide +kernel
theorem dL_tryClose_6 : decode cL_tryClose 6 = .ok (.ldc 21, 2) := by decide +kernel
theorem dL_tryClose_8 : decode cL_tryClose 8 = .ok (.ireturn, 1) := by decide +kernel
theorem dL_tryDrop_0 : decode cL_tryDrop 0 = .ok (.aload_n 0, 1) := by decide +kernel
theorem dL_tryDrop_1 : decode cL_tryDrop 1 = .ok (.iload_n 1, 1) := by decide +kernel
theorem dL_tryDrop_2 : decode cL_tryDrop 2 = .ok (.iload_n 2, 1) := by decide +kernel
theorem dL_tryDrop_3 : decode cL_tryDrop 3 = .ok (.invokevirtual 79, 3) := by decide +kernel
theorem dL_tryDrop_6 : decode cL_tryDrop 6 = .ok (.ireturn, 1) := by decide +kernel
theorem dL_tryDrop_7 : decode cL_tryDrop 7 = .ok (.astore_n 3, 1) := by decide +kernel
theorem dL_tryDrop_8 : decode cL_tryDrop 8 = .ok (.ldc 15, 2) := by decide +kernel
theorem dL_tryDrop_10 : decode cL_tryDrop 10 = .ok (.ireturn, 1) := by decide +kernel
theorem dL_trySet_0 : decode cL_trySet 0 = .ok (.aload_n 0, 1) := by decide +kernel
theorem dL_trySet_1 : decode cL_trySet 1 = .ok (.iload_n 1, 1) := by decide +kernel
theorem dL_trySet_2 : decode cL_trySet 2 = .ok (.iload_n 2, 1) := by decide +kernel
theorem dL_trySet_3 : decode cL_trySet 3 = .ok (.invokevirtual 82, 3) := by decide +kernel
theorem dL_trySet_6 : decode cL_trySet 6 = .ok (.ireturn, 1) := by decide +kernel
theorem dL_trySet_7 : decode cL_trySet 7 = .ok (.astore_n 3, 1) := by decide +kernel
theorem dL_trySet_8 : decode cL_trySet 8 = .ok (.ldc 18, 2) := by decide +kernel
theorem dL_trySet_10 : decode cL_trySet 10 = .ok (.ireturn, 1) := by decide +kernel
theorem dL_tryUndo_0 : decode cL_tryUndo 0 = .ok (.aload_n 0, 1) := by decide +kernel
theorem dL_tryUndo_1 : decode cL_tryUndo 1 = .ok (.invokevirtual 85, 3) := by decide +kernel
theorem dL_tryUndo_4 : decode cL_tryUndo 4 = .ok (.ireturn, 1) := by decide +kernel
theorem dL_tryUndo_5 : decode cL_tryUndo 5 = .ok (.astore_n 1, 1) := by decide +kernel
theorem dL_tryUndo_6 : decode cL_tryUndo 6 = .ok (.ldc 21, 2) := by decide +kernel
theorem dL_tryUndo_8 : decode cL_tryUndo 8 = .ok (.ireturn, 1) := by decide +kernel
theorem dL_tryGets_0 : decode cL_tryGets 0 = .ok (.aload_n 0, 1) := by decide +kernel
theorem dL_tryGets_1 : decode cL_tryGets 1 = .ok (.iload_n 1, 1) := by decide +kernel
theorem dL_tryGets_2 : decode cL_tryGets 2 = .ok (.invokevirtual 88, 3) := by decide +kernel
theorem dL_tryGets_5 : decode cL_tryGets 5 = .ok (.ireturn, 1) := by decide +kernel
theorem dL_tryGets_6 : decode cL_tryGets 6 = .ok (.astore_n 2, 1) := by decide +kernel
theorem dL_tryGets_7 : decode cL_tryGets 7 = .ok (.ldc 15, 2) := by decide +kernel
theorem dL_tryGets_9 : decode cL_tryGets 9 = .ok (.ireturn, 1) := by decide +kernel
theorem dL_tryPays_0 : decode cL_tryPays 0 = .ok (.aload_n 0, 1) := by decide +kernel
theorem dL_tryPays_1 : decode cL_tryPays 1 = .ok (.iload_n 1, 1) := by decide +kernel
theorem dL_tryPays_2 : decode cL_tryPays 2 = .ok (.invokevirtual 91, 3) := by decide +kernel
theorem dL_tryPays_5 : decode cL_tryPays 5 = .ok (.ireturn, 1) := by decide +kernel
theorem dL_tryPays_6 : decode cL_tryPays 6 = .ok (.astore_n 2, 1) := by decide +kernel
theorem dL_tryPays_7 : decode cL_tryPays 7 = .ok (.ldc 15, 2) := by decide +kernel
theorem dL_tryPays_9 : decode cL_tryPays 9 = .ok (.ireturn, 1) := by decide +kernel
theorem dL_tryOneMore_0 : decode cL_tryOneMore 0 = .ok (.aload_n 0, 1) := by decide +kernel
theorem dL_tryOneMore_1 : decode cL_tryOneMore 1 = .ok (.iload_n 1, 1) := by decide +kernel
theorem dL_tryOneMore_2 : decode cL_tryOneMore 2 = .ok (.invokevirtual 94, 3) := by decide +kernel
theorem dL_tryOneMore_5 : decode cL_tryOneMore 5 = .ok (.ireturn, 1) := by decide +kernel
theorem dL_tryOneMore_6 : decode cL_tryOneMore 6 = .ok (.astore_n 2, 1) := by decide +kernel
theorem dL_tryOneMore_7 : decode cL_tryOneMore 7 = .ok (.ldc 15, 2) := by decide +kernel
theorem dL_tryOneMore_9 : decode cL_tryOneMore 9 = .ok (.ireturn, 1) := by decide +kernel
theorem dL_tryWouldAsk_0 : decode cL_tryWouldAsk 0 = .ok (.aload_n 0, 1) := by decide +kernel
theorem dL_tryWouldAsk_1 : decode cL_tryWouldAsk 1 = .ok (.iload_n 1, 1) := by decide +kernel
theorem dL_tryWouldAsk_2 : decode cL_tryWouldAsk 2 = .ok (.iload_n 2, 1) := by decide +kernel
theorem dL_tryWouldAsk_3 : decode cL_tryWouldAsk 3 = .ok (.invokevirtual 97, 3) := by decide +kernel
theorem dL_tryWouldAsk_6 : decode cL_tryWouldAsk 6 = .ok (.ireturn, 1) := by decide +kernel
theorem dL_tryWouldAsk_7 : decode cL_tryWouldAsk 7 = .ok (.astore_n 3, 1) := by decide +kernel
theorem dL_tryWouldAsk_8 : decode cL_tryWouldAsk 8 = .ok (.ldc 15, 2) := by decide +kernel
theorem dL_tryWouldAsk_10 : decode cL_tryWouldAsk 10 = .ok (.ireturn, 1) := by decide +kernel
theorem dL_tryEndPrice_0 : decode cL_tryEndPrice 0 = .ok (.aload_n 0, 1) := by decide +kernel
theorem dL_tryEndPrice_1 : decode cL_tryEndPrice 1 = .ok (.iload_n 1, 1) := by decide +kernel
theorem dL_tryEndPrice_2 : decode cL_tryEndPrice 2 = .ok (.invokevirtual 100, 3) := by decide +kernel
theorem dL_tryEndPrice_5 : decode cL_tryEndPrice 5 = .ok (.ireturn, 1) := by decide +kernel
theorem dL_tryEndPrice_6 : decode cL_tryEndPrice 6 = .ok (.astore_n 2, 1) := by decide +kernel
theorem dL_tryEndPrice_7 : decode cL_tryEndPrice 7 = .ok (.ldc 15, 2) := by decide +kernel
theorem dL_tryEndPrice_9 : decode cL_tryEndPrice 9 = .ok (.ireturn, 1) := by decide +kernel
theorem dL_tryKeep_0 : decode cL_tryKeep 0 = .ok (.aload_n 0, 1) := by decide +kernel
theorem dL_tryKeep_1 : decode cL_tryKeep 1 = .ok (.iload_n 1, 1) := by decide +kernel
theorem dL_tryKeep_2 : decode cL_tryKeep 2 = .ok (.invokevirtual 103, 3) := by decide +kernel
theorem dL_tryKeep_5 : decode cL_tryKeep 5 = .ok (.ireturn, 1) := by decide +kernel
theorem dL_tryKeep_6 : decode cL_tryKeep 6 = .ok (.astore_n 2, 1) := by decide +kernel
theorem dL_tryKeep_7 : decode cL_tryKeep 7 = .ok (.ldc 15, 2) := by decide +kernel
theorem dL_tryKeep_9 : decode cL_tryKeep 9 = .ok (.ireturn, 1) := by decide +kernel
theorem dL_tryBack_0 : decode cL_tryBack 0 = .ok (.aload_n 0, 1) := by decide +kernel
theorem dL_tryBack_1 : decode cL_tryBack 1 = .ok (.iload_n 1, 1) := by decide +kernel
theorem dL_tryBack_2 : decode cL_tryBack 2 = .ok (.invokevirtual 106, 3) := by decide +kernel
theorem dL_tryBack_5 : decode cL_tryBack 5 = .ok (.ireturn, 1) := by decide +kernel
theorem dL_tryBack_6 : decode cL_tryBack 6 = .ok (.astore_n 2, 1) := by decide +kernel
theorem dL_tryBack_7 : decode cL_tryBack 7 = .ok (.ldc 15, 2) := by decide +kernel
theorem dL_tryBack_9 : decode cL_tryBack 9 = .ok (.ireturn, 1) := by decide +kernel
theorem dL_tryBack_10 : decode cL_tryBack 10 = .ok (.astore_n 2, 1) := by decide +kernel
theorem dL_tryBack_11 : decode cL_tryBack 11 = .ok (.ldc 21, 2) := by decide +kernel
theorem dL_tryBack_13 : decode cL_tryBack 13 = .ok (.ireturn, 1) := by decide +kernel
theorem dL_call_0 : decode cL_call 0 = .ok (.iload_n 1, 1) := by decide +kernel
theorem dL_call_1 : decode cL_call 1 = .ok (.tableswitch 272 0 23 #[111, 117, 122, 128, 135, 142, 149, 158, 164, 173, 180, 187, 196, 205, 211, 216, 223, 230, 235, 241, 247, 253, 260, 266], 111) := by decide +kernel
theorem dL_call_112 : decode cL_call 112 = .ok (.aload_n 0, 1) := by decide +kernel
theorem dL_call_113 : decode cL_call 113 = .ok (.iload_n 2, 1) := by decide +kernel
theorem dL_call_114 : decode cL_call 114 = .ok (.invokestatic 109, 3) := by decide +kernel
theorem dL_call_117 : decode cL_call 117 = .ok (.ireturn, 1) := by decide +kernel
theorem dL_call_118 : decode cL_call 118 = .ok (.aload_n 0, 1) := by decide +kernel
theorem dL_call_119 : decode cL_call 119 = .ok (.invokestatic 115, 3) := by decide +kernel
theorem dL_call_122 : decode cL_call 122 = .ok (.ireturn, 1) := by decide +kernel
theorem dL_call_123 : decode cL_call 123 = .ok (.aload_n 0, 1) := by decide +kernel
theorem dL_call_124 : decode cL_call 124 = .ok (.iload_n 2, 1) := by decide +kernel
theorem dL_call_125 : decode cL_call 125 = .ok (.invokestatic 119, 3) := by decide +kernel
theorem dL_call_128 : decode cL_call 128 = .ok (.ireturn, 1) := by decide +kernel
theorem dL_call_129 : decode cL_call 129 = .ok (.aload_n 0, 1) := by decide +kernel
theorem dL_call_130 : decode cL_call 130 = .ok (.iload_n 2, 1) := by decide +kernel
theorem dL_call_131 : decode cL_call 131 = .ok (.iload_n 3, 1) := by decide +kernel
theorem dL_call_132 : decode cL_call 132 = .ok (.invokestatic 122, 3) := by decide +kernel
theorem dL_call_135 : decode cL_call 135 = .ok (.ireturn, 1) := by decide +kernel
theorem dL_call_136 : decode cL_call 136 = .ok (.aload_n 0, 1) := by decide +kernel
theorem dL_call_137 : decode cL_call 137 = .ok (.iload_n 2, 1) := by decide +kernel
theorem dL_call_138 : decode cL_call 138 = .ok (.iload_n 3, 1) := by decide +kernel
theorem dL_call_139 : decode cL_call 139 = .ok (.invokestatic 126, 3) := by decide +kernel
theorem dL_call_142 : decode cL_call 142 = .ok (.ireturn, 1) := by decide +kernel
theorem dL_call_143 : decode cL_call 143 = .ok (.aload_n 0, 1) := by decide +kernel
theorem dL_call_144 : decode cL_call 144 = .ok (.iload_n 2, 1) := by decide +kernel
theorem dL_call_145 : decode cL_call 145 = .ok (.iload_n 3, 1) := by decide +kernel
theorem dL_call_146 : decode cL_call 146 = .ok (.invokestatic 129, 3) := by decide +kernel
theorem dL_call_149 : decode cL_call 149 = .ok (.ireturn, 1) := by decide +kernel
theorem dL_call_150 : decode cL_call 150 = .ok (.aload_n 0, 1) := by decide +kernel
theorem dL_call_151 : decode cL_call 151 = .ok (.iload_n 2, 1) := by decide +kernel
theorem dL_call_152 : decode cL_call 152 = .ok (.iload_n 3, 1) := by decide +kernel
theorem dL_call_153 : decode cL_call 153 = .ok (.iload 4, 2) := by decide +kernel
theorem dL_call_155 : decode cL_call 155 = .ok (.invokestatic 132, 3) := by decide +kernel
theorem dL_call_158 : decode cL_call 158 = .ok (.ireturn, 1) := by decide +kernel
theorem dL_call_159 : decode cL_call 159 = .ok (.aload_n 0, 1) := by decide +kernel
theorem dL_call_160 : decode cL_call 160 = .ok (.iload_n 2, 1) := by decide +kernel
theorem dL_call_161 : decode cL_call 161 = .ok (.invokestatic 136, 3) := by decide +kernel
theorem dL_call_164 : decode cL_call 164 = .ok (.ireturn, 1) := by decide +kernel
theorem dL_call_165 : decode cL_call 165 = .ok (.aload_n 0, 1) := by decide +kernel
theorem dL_call_166 : decode cL_call 166 = .ok (.iload_n 2, 1) := by decide +kernel
theorem dL_call_167 : decode cL_call 167 = .ok (.iload_n 3, 1) := by decide +kernel
theorem dL_call_168 : decode cL_call 168 = .ok (.iload 4, 2) := by decide +kernel
theorem dL_call_170 : decode cL_call 170 = .ok (.invokestatic 139, 3) := by decide +kernel
theorem dL_call_173 : decode cL_call 173 = .ok (.ireturn, 1) := by decide +kernel
theorem dL_call_174 : decode cL_call 174 = .ok (.aload_n 0, 1) := by decide +kernel
theorem dL_call_175 : decode cL_call 175 = .ok (.iload_n 2, 1) := by decide +kernel
theorem dL_call_176 : decode cL_call 176 = .ok (.iload_n 3, 1) := by decide +kernel
theorem dL_call_177 : decode cL_call 177 = .ok (.invokestatic 142, 3) := by decide +kernel
theorem dL_call_180 : decode cL_call 180 = .ok (.ireturn, 1) := by decide +kernel
theorem dL_call_181 : decode cL_call 181 = .ok (.aload_n 0, 1) := by decide +kernel
theorem dL_call_182 : decode cL_call 182 = .ok (.iload_n 2, 1) := by decide +kernel
theorem dL_call_183 : decode cL_call 183 = .ok (.iload_n 3, 1) := by decide +kernel
theorem dL_call_184 : decode cL_call 184 = .ok (.invokestatic 145, 3) := by decide +kernel
theorem dL_call_187 : decode cL_call 187 = .ok (.ireturn, 1) := by decide +kernel
theorem dL_call_188 : decode cL_call 188 = .ok (.aload_n 0, 1) := by decide +kernel
theorem dL_call_189 : decode cL_call 189 = .ok (.iload_n 2, 1) := by decide +kernel
theorem dL_call_190 : decode cL_call 190 = .ok (.iload_n 3, 1) := by decide +kernel
theorem dL_call_191 : decode cL_call 191 = .ok (.iload 4, 2) := by decide +kernel
theorem dL_call_193 : decode cL_call 193 = .ok (.invokestatic 148, 3) := by decide +kernel
theorem dL_call_196 : decode cL_call 196 = .ok (.ireturn, 1) := by decide +kernel
theorem dL_call_197 : decode cL_call 197 = .ok (.aload_n 0, 1) := by decide +kernel
theorem dL_call_198 : decode cL_call 198 = .ok (.iload_n 2, 1) := by decide +kernel
theorem dL_call_199 : decode cL_call 199 = .ok (.iload_n 3, 1) := by decide +kernel
theorem dL_call_200 : decode cL_call 200 = .ok (.iload 4, 2) := by decide +kernel
theorem dL_call_202 : decode cL_call 202 = .ok (.invokestatic 151, 3) := by decide +kernel
theorem dL_call_205 : decode cL_call 205 = .ok (.ireturn, 1) := by decide +kernel
theorem dL_call_206 : decode cL_call 206 = .ok (.aload_n 0, 1) := by decide +kernel
theorem dL_call_207 : decode cL_call 207 = .ok (.iload_n 2, 1) := by decide +kernel
theorem dL_call_208 : decode cL_call 208 = .ok (.invokestatic 154, 3) := by decide +kernel
theorem dL_call_211 : decode cL_call 211 = .ok (.ireturn, 1) := by decide +kernel
theorem dL_call_212 : decode cL_call 212 = .ok (.aload_n 0, 1) := by decide +kernel
theorem dL_call_213 : decode cL_call 213 = .ok (.invokestatic 157, 3) := by decide +kernel
theorem dL_call_216 : decode cL_call 216 = .ok (.ireturn, 1) := by decide +kernel
theorem dL_call_217 : decode cL_call 217 = .ok (.aload_n 0, 1) := by decide +kernel
theorem dL_call_218 : decode cL_call 218 = .ok (.iload_n 2, 1) := by decide +kernel
theorem dL_call_219 : decode cL_call 219 = .ok (.iload_n 3, 1) := by decide +kernel
theorem dL_call_220 : decode cL_call 220 = .ok (.invokestatic 160, 3) := by decide +kernel
theorem dL_call_223 : decode cL_call 223 = .ok (.ireturn, 1) := by decide +kernel
theorem dL_call_224 : decode cL_call 224 = .ok (.aload_n 0, 1) := by decide +kernel
theorem dL_call_225 : decode cL_call 225 = .ok (.iload_n 2, 1) := by decide +kernel
theorem dL_call_226 : decode cL_call 226 = .ok (.iload_n 3, 1) := by decide +kernel
theorem dL_call_227 : decode cL_call 227 = .ok (.invokestatic 163, 3) := by decide +kernel
theorem dL_call_230 : decode cL_call 230 = .ok (.ireturn, 1) := by decide +kernel
theorem dL_call_231 : decode cL_call 231 = .ok (.aload_n 0, 1) := by decide +kernel
theorem dL_call_232 : decode cL_call 232 = .ok (.invokestatic 166, 3) := by decide +kernel
theorem dL_call_235 : decode cL_call 235 = .ok (.ireturn, 1) := by decide +kernel
theorem dL_call_236 : decode cL_call 236 = .ok (.aload_n 0, 1) := by decide +kernel
theorem dL_call_237 : decode cL_call 237 = .ok (.iload_n 2, 1) := by decide +kernel
theorem dL_call_238 : decode cL_call 238 = .ok (.invokestatic 169, 3) := by decide +kernel
theorem dL_call_241 : decode cL_call 241 = .ok (.ireturn, 1) := by decide +kernel
theorem dL_call_242 : decode cL_call 242 = .ok (.aload_n 0, 1) := by decide +kernel
theorem dL_call_243 : decode cL_call 243 = .ok (.iload_n 2, 1) := by decide +kernel
theorem dL_call_244 : decode cL_call 244 = .ok (.invokestatic 172, 3) := by decide +kernel
theorem dL_call_247 : decode cL_call 247 = .ok (.ireturn, 1) := by decide +kernel
theorem dL_call_248 : decode cL_call 248 = .ok (.aload_n 0, 1) := by decide +kernel
theorem dL_call_249 : decode cL_call 249 = .ok (.iload_n 2, 1) := by decide +kernel
theorem dL_call_250 : decode cL_call 250 = .ok (.invokestatic 175, 3) := by decide +kernel
theorem dL_call_253 : decode cL_call 253 = .ok (.ireturn, 1) := by decide +kernel
theorem dL_call_254 : decode cL_call 254 = .ok (.aload_n 0, 1) := by decide +kernel
theorem dL_call_255 : decode cL_call 255 = .ok (.iload_n 2, 1) := by decide +kernel
theorem dL_call_256 : decode cL_call 256 = .ok (.iload_n 3, 1) := by decide +kernel
theorem dL_call_257 : decode cL_call 257 = .ok (.invokestatic 178, 3) := by decide +kernel
theorem dL_call_260 : decode cL_call 260 = .ok (.ireturn, 1) := by decide +kernel
theorem dL_call_261 : decode cL_call 261 = .ok (.aload_n 0, 1) := by decide +kernel
theorem dL_call_262 : decode cL_call 262 = .ok (.iload_n 2, 1) := by decide +kernel
theorem dL_call_263 : decode cL_call 263 = .ok (.invokestatic 181, 3) := by decide +kernel
theorem dL_call_266 : decode cL_call 266 = .ok (.ireturn, 1) := by decide +kernel
theorem dL_call_267 : decode cL_call 267 = .ok (.aload_n 0, 1) := by decide +kernel
theorem dL_call_268 : decode cL_call 268 = .ok (.iload_n 2, 1) := by decide +kernel
theorem dL_call_269 : decode cL_call 269 = .ok (.invokestatic 184, 3) := by decide +kernel
theorem dL_call_272 : decode cL_call 272 = .ok (.ireturn, 1) := by decide +kernel
theorem dL_call_273 : decode cL_call 273 = .ok (.aload_n 0, 1) := by decide +kernel
theorem dL_call_274 : decode cL_call 274 = .ok (.iload_n 2, 1) := by decide +kernel
theorem dL_call_275 : decode cL_call 275 = .ok (.invokestatic 187, 3) := by decide +kernel
theorem dL_call_278 : decode cL_call 278 = .ok (.ireturn, 1) := by decide +kernel
theorem dL_cell_0 : decode cL_cell 0 = .ok (.iload_n 1, 1) := by decide +kernel
theorem dL_cell_1 : decode cL_cell 1 = .ok (.aload_n 0, 1) := by decide +kernel
theorem dL_cell_2 : decode cL_cell 2 = .ok (.arraylength, 1) := by decide +kernel
theorem dL_cell_3 : decode cL_cell 3 = .ok (.if_icmp .ge 9, 3) := by decide +kernel
theorem dL_cell_6 : decode cL_cell 6 = .ok (.aload_n 0, 1) := by decide +kernel
theorem dL_cell_7 : decode cL_cell 7 = .ok (.iload_n 1, 1) := by decide +kernel
theorem dL_cell_8 : decode cL_cell 8 = .ok (.iaload, 1) := by decide +kernel
theorem dL_cell_9 : decode cL_cell 9 = .ok (.goto 13, 3) := by decide +kernel
theorem dL_cell_12 : decode cL_cell 12 = .ok (.ldc 190, 2) := by decide +kernel
theorem dL_cell_14 : decode cL_cell 14 = .ok (.iload_n 1, 1) := by decide +kernel
theorem dL_cell_15 : decode cL_cell 15 = .ok (.iconst 3, 1) := by decide +kernel
theorem dL_cell_16 : decode cL_cell 16 = .ok (.iadd, 1) := by decide +kernel
theorem dL_cell_17 : decode cL_cell 17 = .ok (.imul, 1) := by decide +kernel
theorem dL_cell_18 : decode cL_cell 18 = .ok (.sipush 10781, 3) := by decide +kernel
theorem dL_cell_21 : decode cL_cell 21 = .ok (.iadd, 1) := by decide +kernel
theorem dL_cell_22 : decode cL_cell 22 = .ok (.ldc 191, 2) := by decide +kernel
theorem dL_cell_24 : decode cL_cell 24 = .ok (.iand, 1) := by decide +kernel
theorem dL_cell_25 : decode cL_cell 25 = .ok (.ireturn, 1) := by decide +kernel
theorem dL_refuses_0 : decode cL_refuses 0 = .ok (.aload_n 0, 1) := by decide +kernel
theorem dL_refuses_1 : decode cL_refuses 1 = .ok (.iconst 2, 1) := by decide +kernel
theorem dL_refuses_2 : decode cL_refuses 2 = .ok (.iconst 0, 1) := by decide +kernel
theorem dL_refuses_3 : decode cL_refuses 3 = .ok (.iconst 0, 1) := by decide +kernel
theorem dL_refuses_4 : decode cL_refuses 4 = .ok (.iconst 0, 1) := by decide +kernel
theorem dL_refuses_5 : decode cL_refuses 5 = .ok (.invokestatic 192, 3) := by decide +kernel
theorem dL_refuses_8 : decode cL_refuses 8 = .ok (.istore_n 2, 1) := by decide +kernel
theorem dL_refuses_9 : decode cL_refuses 9 = .ok (.aload_n 0, 1) := by decide +kernel
theorem dL_refuses_10 : decode cL_refuses 10 = .ok (.iconst 2, 1) := by decide +kernel
theorem dL_refuses_11 : decode cL_refuses 11 = .ok (.iconst 1, 1) := by decide +kernel
theorem dL_refuses_12 : decode cL_refuses 12 = .ok (.iconst 0, 1) := by decide +kernel
theorem dL_refuses_13 : decode cL_refuses 13 = .ok (.iconst 0, 1) := by decide +kernel
theorem dL_refuses_14 : decode cL_refuses 14 = .ok (.invokestatic 192, 3) := by decide +kernel
theorem dL_refuses_17 : decode cL_refuses 17 = .ok (.istore_n 3, 1) := by decide +kernel
theorem dL_refuses_18 : decode cL_refuses 18 = .ok (.aload_n 0, 1) := by decide +kernel
theorem dL_refuses_19 : decode cL_refuses 19 = .ok (.iconst 2, 1) := by decide +kernel
theorem dL_refuses_20 : decode cL_refuses 20 = .ok (.iconst 2, 1) := by decide +kernel
theorem dL_refuses_21 : decode cL_refuses 21 = .ok (.iconst 0, 1) := by decide +kernel
theorem dL_refuses_22 : decode cL_refuses 22 = .ok (.iconst 0, 1) := by decide +kernel
theorem dL_refuses_23 : decode cL_refuses 23 = .ok (.invokestatic 192, 3) := by decide +kernel
theorem dL_refuses_26 : decode cL_refuses 26 = .ok (.iconst 1, 1) := by decide +kernel
theorem dL_refuses_27 : decode cL_refuses 27 = .ok (.if_icmp .ne 7, 3) := by decide +kernel
theorem dL_refuses_30 : decode cL_refuses 30 = .ok (.iconst 1, 1) := by decide +kernel
theorem dL_refuses_31 : decode cL_refuses 31 = .ok (.goto 4, 3) := by decide +kernel
theorem dL_refuses_34 : decode cL_refuses 34 = .ok (.iconst 0, 1) := by decide +kernel
theorem dL_refuses_35 : decode cL_refuses 35 = .ok (.istore 4, 2) := by decide +kernel
theorem dL_refuses_37 : decode cL_refuses 37 = .ok (.aload_n 0, 1) := by decide +kernel
theorem dL_refuses_38 : decode cL_refuses 38 = .ok (.iconst 2, 1) := by decide +kernel
theorem dL_refuses_39 : decode cL_refuses 39 = .ok (.bipush 6, 2) := by decide +kernel
theorem dL_refuses_41 : decode cL_refuses 41 = .ok (.iload_n 1, 1) := by decide +kernel
theorem dL_refuses_42 : decode cL_refuses 42 = .ok (.bipush 9, 2) := by decide +kernel
theorem dL_refuses_44 : decode cL_refuses 44 = .ok (.irem, 1) := by decide +kernel
theorem dL_refuses_45 : decode cL_refuses 45 = .ok (.iadd, 1) := by decide +kernel
theorem dL_refuses_46 : decode cL_refuses 46 = .ok (.iconst 0, 1) := by decide +kernel
theorem dL_refuses_47 : decode cL_refuses 47 = .ok (.iconst 0, 1) := by decide +kernel
theorem dL_refuses_48 : decode cL_refuses 48 = .ok (.invokestatic 192, 3) := by decide +kernel
theorem dL_refuses_51 : decode cL_refuses 51 = .ok (.ldc 18, 2) := by decide +kernel
theorem dL_refuses_53 : decode cL_refuses 53 = .ok (.if_icmp .ne 200, 3) := by decide +kernel
theorem dL_refuses_56 : decode cL_refuses 56 = .ok (.aload_n 0, 1) := by decide +kernel
theorem dL_refuses_57 : decode cL_refuses 57 = .ok (.iconst 3, 1) := by decide +kernel
theorem dL_refuses_58 : decode cL_refuses 58 = .ok (.iconst 3, 1) := by decide +kernel
theorem dL_refuses_59 : decode cL_refuses 59 = .ok (.iload_n 1, 1) := by decide +kernel
theorem dL_refuses_60 : decode cL_refuses 60 = .ok (.bipush 9, 2) := by decide +kernel
theorem dL_refuses_62 : decode cL_refuses 62 = .ok (.irem, 1) := by decide +kernel
theorem dL_refuses_63 : decode cL_refuses 63 = .ok (.iadd, 1) := by decide +kernel
theorem dL_refuses_64 : decode cL_refuses 64 = .ok (.bipush 9, 2) := by decide +kernel
theorem dL_refuses_66 : decode cL_refuses 66 = .ok (.iconst 0, 1) := by decide +kernel
theorem dL_refuses_67 : decode cL_refuses 67 = .ok (.invokestatic 192, 3) := by decide +kernel
theorem dL_refuses_70 : decode cL_refuses 70 = .ok (.ldc 15, 2) := by decide +kernel
theorem dL_refuses_72 : decode cL_refuses 72 = .ok (.if_icmp .ne 181, 3) := by decide +kernel
theorem dL_refuses_75 : decode cL_refuses 75 = .ok (.aload_n 0, 1) := by decide +kernel
theorem dL_refuses_76 : decode cL_refuses 76 = .ok (.iconst 3, 1) := by decide +kernel
theorem dL_refuses_77 : decode cL_refuses 77 = .ok (.iload_n 1, 1) := by decide +kernel
theorem dL_refuses_78 : decode cL_refuses 78 = .ok (.iconst 3, 1) := by decide +kernel
theorem dL_refuses_79 : decode cL_refuses 79 = .ok (.irem, 1) := by decide +kernel
theorem dL_refuses_80 : decode cL_refuses 80 = .ok (.iconst 4, 1) := by decide +kernel
theorem dL_refuses_81 : decode cL_refuses 81 = .ok (.iload_n 1, 1) := by decide +kernel
theorem dL_refuses_82 : decode cL_refuses 82 = .ok (.bipush 9, 2) := by decide +kernel
theorem dL_refuses_84 : decode cL_refuses 84 = .ok (.irem, 1) := by decide +kernel
theorem dL_refuses_85 : decode cL_refuses 85 = .ok (.iadd, 1) := by decide +kernel
theorem dL_refuses_86 : decode cL_refuses 86 = .ok (.iconst 0, 1) := by decide +kernel
theorem dL_refuses_87 : decode cL_refuses 87 = .ok (.invokestatic 192, 3) := by decide +kernel
theorem dL_refuses_90 : decode cL_refuses 90 = .ok (.ldc 18, 2) := by decide +kernel
theorem dL_refuses_92 : decode cL_refuses 92 = .ok (.if_icmp .ne 161, 3) := by decide +kernel
theorem dL_refuses_95 : decode cL_refuses 95 = .ok (.aload_n 0, 1) := by decide +kernel
theorem dL_refuses_96 : decode cL_refuses 96 = .ok (.iconst 4, 1) := by decide +kernel
theorem dL_refuses_97 : decode cL_refuses 97 = .ok (.iload_n 2, 1) := by decide +kernel
theorem dL_refuses_98 : decode cL_refuses 98 = .ok (.bipush 9, 2) := by decide +kernel
theorem dL_refuses_100 : decode cL_refuses 100 = .ok (.iconst 0, 1) := by decide +kernel
theorem dL_refuses_101 : decode cL_refuses 101 = .ok (.invokestatic 192, 3) := by decide +kernel
theorem dL_refuses_104 : decode cL_refuses 104 = .ok (.ldc 15, 2) := by decide +kernel
theorem dL_refuses_106 : decode cL_refuses 106 = .ok (.if_icmp .ne 147, 3) := by decide +kernel
theorem dL_refuses_109 : decode cL_refuses 109 = .ok (.aload_n 0, 1) := by decide +kernel
theorem dL_refuses_110 : decode cL_refuses 110 = .ok (.iconst 5, 1) := by decide +kernel
theorem dL_refuses_111 : decode cL_refuses 111 = .ok (.iload_n 2, 1) := by decide +kernel
theorem dL_refuses_112 : decode cL_refuses 112 = .ok (.iload_n 1, 1) := by decide +kernel
theorem dL_refuses_113 : decode cL_refuses 113 = .ok (.bipush 9, 2) := by decide +kernel
theorem dL_refuses_115 : decode cL_refuses 115 = .ok (.irem, 1) := by decide +kernel
theorem dL_refuses_116 : decode cL_refuses 116 = .ok (.iadd, 1) := by decide +kernel
theorem dL_refuses_117 : decode cL_refuses 117 = .ok (.iconst 0, 1) := by decide +kernel
theorem dL_refuses_118 : decode cL_refuses 118 = .ok (.iconst 0, 1) := by decide +kernel
theorem dL_refuses_119 : decode cL_refuses 119 = .ok (.invokestatic 192, 3) := by decide +kernel
theorem dL_refuses_122 : decode cL_refuses 122 = .ok (.ldc 15, 2) := by decide +kernel
theorem dL_refuses_124 : decode cL_refuses 124 = .ok (.if_icmp .ne 129, 3) := by decide +kernel
theorem dL_refuses_127 : decode cL_refuses 127 = .ok (.aload_n 0, 1) := by decide +kernel
theorem dL_refuses_128 : decode cL_refuses 128 = .ok (.bipush 6, 2) := by decide +kernel
theorem dL_refuses_130 : decode cL_refuses 130 = .ok (.iload_n 2, 1) := by decide +kernel
theorem dL_refuses_131 : decode cL_refuses 131 = .ok (.iconst 0, 1) := by decide +kernel
theorem dL_refuses_132 : decode cL_refuses 132 = .ok (.bipush 9, 2) := by decide +kernel
theorem dL_refuses_134 : decode cL_refuses 134 = .ok (.invokestatic 192, 3) := by decide +kernel
theorem dL_refuses_137 : decode cL_refuses 137 = .ok (.ldc 15, 2) := by decide +kernel
theorem dL_refuses_139 : decode cL_refuses 139 = .ok (.if_icmp .ne 114, 3) := by decide +kernel
theorem dL_refuses_142 : decode cL_refuses 142 = .ok (.aload_n 0, 1) := by decide +kernel
theorem dL_refuses_143 : decode cL_refuses 143 = .ok (.bipush 7, 2) := by decide +kernel
theorem dL_refuses_145 : decode cL_refuses 145 = .ok (.iconst 2, 1) := by decide +kernel
theorem dL_refuses_146 : decode cL_refuses 146 = .ok (.iload_n 1, 1) := by decide +kernel
theorem dL_refuses_147 : decode cL_refuses 147 = .ok (.bipush 9, 2) := by decide +kernel
theorem dL_refuses_149 : decode cL_refuses 149 = .ok (.irem, 1) := by decide +kernel
theorem dL_refuses_150 : decode cL_refuses 150 = .ok (.iadd, 1) := by decide +kernel
theorem dL_refuses_151 : decode cL_refuses 151 = .ok (.iconst 0, 1) := by decide +kernel
theorem dL_refuses_152 : decode cL_refuses 152 = .ok (.iconst 0, 1) := by decide +kernel
theorem dL_refuses_153 : decode cL_refuses 153 = .ok (.invokestatic 192, 3) := by decide +kernel
theorem dL_refuses_156 : decode cL_refuses 156 = .ok (.ldc 18, 2) := by decide +kernel
theorem dL_refuses_158 : decode cL_refuses 158 = .ok (.if_icmp .ne 95, 3) := by decide +kernel
theorem dL_refuses_161 : decode cL_refuses 161 = .ok (.aload_n 0, 1) := by decide +kernel
theorem dL_refuses_162 : decode cL_refuses 162 = .ok (.bipush 8, 2) := by decide +kernel
theorem dL_refuses_164 : decode cL_refuses 164 = .ok (.iconst 3, 1) := by decide +kernel
theorem dL_refuses_165 : decode cL_refuses 165 = .ok (.iconst 0, 1) := by decide +kernel
theorem dL_refuses_166 : decode cL_refuses 166 = .ok (.iconst 0, 1) := by decide +kernel
theorem dL_refuses_167 : decode cL_refuses 167 = .ok (.invokestatic 192, 3) := by decide +kernel
theorem dL_refuses_170 : decode cL_refuses 170 = .ok (.ldc 15, 2) := by decide +kernel
theorem dL_refuses_172 : decode cL_refuses 172 = .ok (.if_icmp .ne 81, 3) := by decide +kernel
theorem dL_refuses_175 : decode cL_refuses 175 = .ok (.aload_n 0, 1) := by decide +kernel
theorem dL_refuses_176 : decode cL_refuses 176 = .ok (.bipush 8, 2) := by decide +kernel
theorem dL_refuses_178 : decode cL_refuses 178 = .ok (.iload_n 1, 1) := by decide +kernel
theorem dL_refuses_179 : decode cL_refuses 179 = .ok (.iconst 3, 1) := by decide +kernel
theorem dL_refuses_180 : decode cL_refuses 180 = .ok (.irem, 1) := by decide +kernel
theorem dL_refuses_181 : decode cL_refuses 181 = .ok (.bipush 10, 2) := by decide +kernel
theorem dL_refuses_183 : decode cL_refuses 183 = .ok (.iload_n 1, 1) := by decide +kernel
theorem dL_refuses_184 : decode cL_refuses 184 = .ok (.bipush 9, 2) := by decide +kernel
theorem dL_refuses_186 : decode cL_refuses 186 = .ok (.irem, 1) := by decide +kernel
theorem dL_refuses_187 : decode cL_refuses 187 = .ok (.iadd, 1) := by decide +kernel
theorem dL_refuses_188 : decode cL_refuses 188 = .ok (.iconst 1, 1) := by decide +kernel
theorem dL_refuses_189 : decode cL_refuses 189 = .ok (.invokestatic 192, 3) := by decide +kernel
theorem dL_refuses_192 : decode cL_refuses 192 = .ok (.ldc 18, 2) := by decide +kernel
theorem dL_refuses_194 : decode cL_refuses 194 = .ok (.if_icmp .ne 59, 3) := by decide +kernel
theorem dL_refuses_197 : decode cL_refuses 197 = .ok (.aload_n 0, 1) := by decide +kernel
theorem dL_refuses_198 : decode cL_refuses 198 = .ok (.bipush 8, 2) := by decide +kernel
theorem dL_refuses_200 : decode cL_refuses 200 = .ok (.iload_n 1, 1) := by decide +kernel
theorem dL_refuses_201 : decode cL_refuses 201 = .ok (.iconst 3, 1) := by decide +kernel
theorem dL_refuses_202 : decode cL_refuses 202 = .ok (.irem, 1) := by decide +kernel
theorem dL_refuses_203 : decode cL_refuses 203 = .ok (.iconst 1, 1) := by decide +kernel
theorem dL_refuses_204 : decode cL_refuses 204 = .ok (.iconst 0, 1) := by decide +kernel
theorem dL_refuses_205 : decode cL_refuses 205 = .ok (.invokestatic 192, 3) := by decide +kernel
theorem dL_refuses_208 : decode cL_refuses 208 = .ok (.ldc 18, 2) := by decide +kernel
theorem dL_refuses_210 : decode cL_refuses 210 = .ok (.if_icmp .ne 43, 3) := by decide +kernel
theorem dL_refuses_213 : decode cL_refuses 213 = .ok (.aload_n 0, 1) := by decide +kernel
theorem dL_refuses_214 : decode cL_refuses 214 = .ok (.bipush 9, 2) := by decide +kernel
theorem dL_refuses_216 : decode cL_refuses 216 = .ok (.iconst 3, 1) := by decide +kernel
theorem dL_refuses_217 : decode cL_refuses 217 = .ok (.iconst 0, 1) := by decide +kernel
theorem dL_refuses_218 : decode cL_refuses 218 = .ok (.iconst 0, 1) := by decide +kernel
theorem dL_refuses_219 : decode cL_refuses 219 = .ok (.invokestatic 192, 3) := by decide +kernel
theorem dL_refuses_222 : decode cL_refuses 222 = .ok (.ldc 15, 2) := by decide +kernel
theorem dL_refuses_224 : decode cL_refuses 224 = .ok (.if_icmp .ne 29, 3) := by decide +kernel
theorem dL_refuses_227 : decode cL_refuses 227 = .ok (.aload_n 0, 1) := by decide +kernel
theorem dL_refuses_228 : decode cL_refuses 228 = .ok (.bipush 9, 2) := by decide +kernel
theorem dL_refuses_230 : decode cL_refuses 230 = .ok (.iload_n 1, 1) := by decide +kernel
theorem dL_refuses_231 : decode cL_refuses 231 = .ok (.iconst 3, 1) := by decide +kernel
theorem dL_refuses_232 : decode cL_refuses 232 = .ok (.irem, 1) := by decide +kernel
theorem dL_refuses_233 : decode cL_refuses 233 = .ok (.ldc 196, 2) := by decide +kernel
theorem dL_refuses_235 : decode cL_refuses 235 = .ok (.iload_n 1, 1) := by decide +kernel
theorem dL_refuses_236 : decode cL_refuses 236 = .ok (.bipush 9, 2) := by decide +kernel
theorem dL_refuses_238 : decode cL_refuses 238 = .ok (.irem, 1) := by decide +kernel
theorem dL_refuses_239 : decode cL_refuses 239 = .ok (.iadd, 1) := by decide +kernel
theorem dL_refuses_240 : decode cL_refuses 240 = .ok (.iconst 0, 1) := by decide +kernel
theorem dL_refuses_241 : decode cL_refuses 241 = .ok (.invokestatic 192, 3) := by decide +kernel
theorem dL_refuses_244 : decode cL_refuses 244 = .ok (.ldc 18, 2) := by decide +kernel
theorem dL_refuses_246 : decode cL_refuses 246 = .ok (.if_icmp .ne 7, 3) := by decide +kernel
theorem dL_refuses_249 : decode cL_refuses 249 = .ok (.iconst 1, 1) := by decide +kernel
theorem dL_refuses_250 : decode cL_refuses 250 = .ok (.goto 4, 3) := by decide +kernel
theorem dL_refuses_253 : decode cL_refuses 253 = .ok (.iconst 0, 1) := by decide +kernel
theorem dL_refuses_254 : decode cL_refuses 254 = .ok (.istore 5, 2) := by decide +kernel
theorem dL_refuses_256 : decode cL_refuses 256 = .ok (.iload 5, 2) := by decide +kernel
theorem dL_refuses_258 : decode cL_refuses 258 = .ok (.ifCond .eq 254, 3) := by decide +kernel
theorem dL_refuses_261 : decode cL_refuses 261 = .ok (.aload_n 0, 1) := by decide +kernel
theorem dL_refuses_262 : decode cL_refuses 262 = .ok (.bipush 10, 2) := by decide +kernel
theorem dL_refuses_264 : decode cL_refuses 264 = .ok (.bipush 100, 2) := by decide +kernel
theorem dL_refuses_266 : decode cL_refuses 266 = .ok (.iload_n 1, 1) := by decide +kernel
theorem dL_refuses_267 : decode cL_refuses 267 = .ok (.bipush 9, 2) := by decide +kernel
theorem dL_refuses_269 : decode cL_refuses 269 = .ok (.irem, 1) := by decide +kernel
theorem dL_refuses_270 : decode cL_refuses 270 = .ok (.iadd, 1) := by decide +kernel
theorem dL_refuses_271 : decode cL_refuses 271 = .ok (.iconst 1, 1) := by decide +kernel
theorem dL_refuses_272 : decode cL_refuses 272 = .ok (.iconst 0, 1) := by decide +kernel
theorem dL_refuses_273 : decode cL_refuses 273 = .ok (.invokestatic 192, 3) := by decide +kernel
theorem dL_refuses_276 : decode cL_refuses 276 = .ok (.ldc 18, 2) := by decide +kernel
theorem dL_refuses_278 : decode cL_refuses 278 = .ok (.if_icmp .ne 234, 3) := by decide +kernel
theorem dL_refuses_281 : decode cL_refuses 281 = .ok (.aload_n 0, 1) := by decide +kernel
theorem dL_refuses_282 : decode cL_refuses 282 = .ok (.bipush 10, 2) := by decide +kernel
theorem dL_refuses_284 : decode cL_refuses 284 = .ok (.iconst 1, 1) := by decide +kernel
theorem dL_refuses_285 : decode cL_refuses 285 = .ok (.bipush 10, 2) := by decide +kernel
theorem dL_refuses_287 : decode cL_refuses 287 = .ok (.iload_n 1, 1) := by decide +kernel
theorem dL_refuses_288 : decode cL_refuses 288 = .ok (.bipush 9, 2) := by decide +kernel
theorem dL_refuses_290 : decode cL_refuses 290 = .ok (.irem, 1) := by decide +kernel
theorem dL_refuses_291 : decode cL_refuses 291 = .ok (.iadd, 1) := by decide +kernel
theorem dL_refuses_292 : decode cL_refuses 292 = .ok (.iconst 0, 1) := by decide +kernel
theorem dL_refuses_293 : decode cL_refuses 293 = .ok (.invokestatic 192, 3) := by decide +kernel
theorem dL_refuses_296 : decode cL_refuses 296 = .ok (.ldc 18, 2) := by decide +kernel
theorem dL_refuses_298 : decode cL_refuses 298 = .ok (.if_icmp .ne 214, 3) := by decide +kernel
theorem dL_refuses_301 : decode cL_refuses 301 = .ok (.aload_n 0, 1) := by decide +kernel
theorem dL_refuses_302 : decode cL_refuses 302 = .ok (.bipush 11, 2) := by decide +kernel
theorem dL_refuses_304 : decode cL_refuses 304 = .ok (.iload_n 2, 1) := by decide +kernel
theorem dL_refuses_305 : decode cL_refuses 305 = .ok (.iconst 0, 1) := by decide +kernel
theorem dL_refuses_306 : decode cL_refuses 306 = .ok (.iconst (-1), 1) := by decide +kernel
theorem dL_refuses_307 : decode cL_refuses 307 = .ok (.invokestatic 192, 3) := by decide +kernel
theorem dL_refuses_310 : decode cL_refuses 310 = .ok (.ldc 15, 2) := by decide +kernel
theorem dL_refuses_312 : decode cL_refuses 312 = .ok (.if_icmp .ne 200, 3) := by decide +kernel
theorem dL_refuses_315 : decode cL_refuses 315 = .ok (.aload_n 0, 1) := by decide +kernel
theorem dL_refuses_316 : decode cL_refuses 316 = .ok (.bipush 12, 2) := by decide +kernel
theorem dL_refuses_318 : decode cL_refuses 318 = .ok (.iload_n 2, 1) := by decide +kernel
theorem dL_refuses_319 : decode cL_refuses 319 = .ok (.iconst 0, 1) := by decide +kernel
theorem dL_refuses_320 : decode cL_refuses 320 = .ok (.bipush 10, 2) := by decide +kernel
theorem dL_refuses_322 : decode cL_refuses 322 = .ok (.invokestatic 192, 3) := by decide +kernel
theorem dL_refuses_325 : decode cL_refuses 325 = .ok (.ldc 15, 2) := by decide +kernel
theorem dL_refuses_327 : decode cL_refuses 327 = .ok (.if_icmp .ne 185, 3) := by decide +kernel
theorem dL_refuses_330 : decode cL_refuses 330 = .ok (.aload_n 0, 1) := by decide +kernel
theorem dL_refuses_331 : decode cL_refuses 331 = .ok (.bipush 13, 2) := by decide +kernel
theorem dL_refuses_333 : decode cL_refuses 333 = .ok (.iload_n 2, 1) := by decide +kernel
theorem dL_refuses_334 : decode cL_refuses 334 = .ok (.iload_n 1, 1) := by decide +kernel
theorem dL_refuses_335 : decode cL_refuses 335 = .ok (.bipush 9, 2) := by decide +kernel
theorem dL_refuses_337 : decode cL_refuses 337 = .ok (.irem, 1) := by decide +kernel
theorem dL_refuses_338 : decode cL_refuses 338 = .ok (.iadd, 1) := by decide +kernel
theorem dL_refuses_339 : decode cL_refuses 339 = .ok (.iconst 0, 1) := by decide +kernel
theorem dL_refuses_340 : decode cL_refuses 340 = .ok (.iconst 0, 1) := by decide +kernel
theorem dL_refuses_341 : decode cL_refuses 341 = .ok (.invokestatic 192, 3) := by decide +kernel
theorem dL_refuses_344 : decode cL_refuses 344 = .ok (.ldc 15, 2) := by decide +kernel
theorem dL_refuses_346 : decode cL_refuses 346 = .ok (.if_icmp .ne 166, 3) := by decide +kernel
theorem dL_refuses_349 : decode cL_refuses 349 = .ok (.aload_n 0, 1) := by decide +kernel
theorem dL_refuses_350 : decode cL_refuses 350 = .ok (.iload_n 2, 1) := by decide +kernel
theorem dL_refuses_351 : decode cL_refuses 351 = .ok (.bipush 10, 2) := by decide +kernel
theorem dL_refuses_353 : decode cL_refuses 353 = .ok (.iconst 0, 1) := by decide +kernel
theorem dL_refuses_354 : decode cL_refuses 354 = .ok (.iconst 0, 1) := by decide +kernel
theorem dL_refuses_355 : decode cL_refuses 355 = .ok (.iconst 0, 1) := by decide +kernel
theorem dL_refuses_356 : decode cL_refuses 356 = .ok (.invokestatic 197, 3) := by decide +kernel
theorem dL_refuses_359 : decode cL_refuses 359 = .ok (.ldc 15, 2) := by decide +kernel
theorem dL_refuses_361 : decode cL_refuses 361 = .ok (.if_icmp .ne 151, 3) := by decide +kernel
theorem dL_refuses_364 : decode cL_refuses 364 = .ok (.aload_n 0, 1) := by decide +kernel
theorem dL_refuses_365 : decode cL_refuses 365 = .ok (.bipush 15, 2) := by decide +kernel
theorem dL_refuses_367 : decode cL_refuses 367 = .ok (.iload_n 2, 1) := by decide +kernel
theorem dL_refuses_368 : decode cL_refuses 368 = .ok (.iconst 1, 1) := by decide +kernel
theorem dL_refuses_369 : decode cL_refuses 369 = .ok (.iconst 0, 1) := by decide +kernel
theorem dL_refuses_370 : decode cL_refuses 370 = .ok (.invokestatic 192, 3) := by decide +kernel
theorem dL_refuses_373 : decode cL_refuses 373 = .ok (.ldc 15, 2) := by decide +kernel
theorem dL_refuses_375 : decode cL_refuses 375 = .ok (.if_icmp .ne 137, 3) := by decide +kernel
theorem dL_refuses_378 : decode cL_refuses 378 = .ok (.aload_n 0, 1) := by decide +kernel
theorem dL_refuses_379 : decode cL_refuses 379 = .ok (.bipush 16, 2) := by decide +kernel
theorem dL_refuses_381 : decode cL_refuses 381 = .ok (.iconst 0, 1) := by decide +kernel
theorem dL_refuses_382 : decode cL_refuses 382 = .ok (.bipush 101, 2) := by decide +kernel
theorem dL_refuses_384 : decode cL_refuses 384 = .ok (.iload_n 1, 1) := by decide +kernel
theorem dL_refuses_385 : decode cL_refuses 385 = .ok (.bipush 9, 2) := by decide +kernel
theorem dL_refuses_387 : decode cL_refuses 387 = .ok (.irem, 1) := by decide +kernel
theorem dL_refuses_388 : decode cL_refuses 388 = .ok (.iadd, 1) := by decide +kernel
theorem dL_refuses_389 : decode cL_refuses 389 = .ok (.iconst 0, 1) := by decide +kernel
theorem dL_refuses_390 : decode cL_refuses 390 = .ok (.invokestatic 192, 3) := by decide +kernel
theorem dL_refuses_393 : decode cL_refuses 393 = .ok (.ldc 18, 2) := by decide +kernel
theorem dL_refuses_395 : decode cL_refuses 395 = .ok (.if_icmp .ne 117, 3) := by decide +kernel
theorem dL_refuses_398 : decode cL_refuses 398 = .ok (.aload_n 0, 1) := by decide +kernel
theorem dL_refuses_399 : decode cL_refuses 399 = .ok (.bipush 16, 2) := by decide +kernel
theorem dL_refuses_401 : decode cL_refuses 401 = .ok (.iconst 1, 1) := by decide +kernel
theorem dL_refuses_402 : decode cL_refuses 402 = .ok (.bipush 51, 2) := by decide +kernel
theorem dL_refuses_404 : decode cL_refuses 404 = .ok (.iload_n 1, 1) := by decide +kernel
theorem dL_refuses_405 : decode cL_refuses 405 = .ok (.bipush 9, 2) := by decide +kernel
theorem dL_refuses_407 : decode cL_refuses 407 = .ok (.irem, 1) := by decide +kernel
theorem dL_refuses_408 : decode cL_refuses 408 = .ok (.iadd, 1) := by decide +kernel
theorem dL_refuses_409 : decode cL_refuses 409 = .ok (.iconst 0, 1) := by decide +kernel
theorem dL_refuses_410 : decode cL_refuses 410 = .ok (.invokestatic 192, 3) := by decide +kernel
theorem dL_refuses_413 : decode cL_refuses 413 = .ok (.ldc 18, 2) := by decide +kernel
theorem dL_refuses_415 : decode cL_refuses 415 = .ok (.if_icmp .ne 97, 3) := by decide +kernel
theorem dL_refuses_418 : decode cL_refuses 418 = .ok (.aload_n 0, 1) := by decide +kernel
theorem dL_refuses_419 : decode cL_refuses 419 = .ok (.bipush 16, 2) := by decide +kernel
theorem dL_refuses_421 : decode cL_refuses 421 = .ok (.iconst 2, 1) := by decide +kernel
theorem dL_refuses_422 : decode cL_refuses 422 = .ok (.bipush 50, 2) := by decide +kernel
theorem dL_refuses_424 : decode cL_refuses 424 = .ok (.iconst 0, 1) := by decide +kernel
theorem dL_refuses_425 : decode cL_refuses 425 = .ok (.invokestatic 192, 3) := by decide +kernel
theorem dL_refuses_428 : decode cL_refuses 428 = .ok (.ldc 18, 2) := by decide +kernel
theorem dL_refuses_430 : decode cL_refuses 430 = .ok (.if_icmp .ne 82, 3) := by decide +kernel
theorem dL_refuses_433 : decode cL_refuses 433 = .ok (.aload_n 0, 1) := by decide +kernel
theorem dL_refuses_434 : decode cL_refuses 434 = .ok (.bipush 18, 2) := by decide +kernel
theorem dL_refuses_436 : decode cL_refuses 436 = .ok (.iload_n 2, 1) := by decide +kernel
theorem dL_refuses_437 : decode cL_refuses 437 = .ok (.iconst 0, 1) := by decide +kernel
theorem dL_refuses_438 : decode cL_refuses 438 = .ok (.iconst 0, 1) := by decide +kernel
theorem dL_refuses_439 : decode cL_refuses 439 = .ok (.invokestatic 192, 3) := by decide +kernel
theorem dL_refuses_442 : decode cL_refuses 442 = .ok (.ldc 15, 2) := by decide +kernel
theorem dL_refuses_444 : decode cL_refuses 444 = .ok (.if_icmp .ne 68, 3) := by decide +kernel
theorem dL_refuses_447 : decode cL_refuses 447 = .ok (.aload_n 0, 1) := by decide +kernel
theorem dL_refuses_448 : decode cL_refuses 448 = .ok (.bipush 19, 2) := by decide +kernel
theorem dL_refuses_450 : decode cL_refuses 450 = .ok (.iconst (-1), 1) := by decide +kernel
theorem dL_refuses_451 : decode cL_refuses 451 = .ok (.iload_n 1, 1) := by decide +kernel
theorem dL_refuses_452 : decode cL_refuses 452 = .ok (.bipush 9, 2) := by decide +kernel
theorem dL_refuses_454 : decode cL_refuses 454 = .ok (.irem, 1) := by decide +kernel
theorem dL_refuses_455 : decode cL_refuses 455 = .ok (.isub, 1) := by decide +kernel
theorem dL_refuses_456 : decode cL_refuses 456 = .ok (.iconst 0, 1) := by decide +kernel
theorem dL_refuses_457 : decode cL_refuses 457 = .ok (.iconst 0, 1) := by decide +kernel
theorem dL_refuses_458 : decode cL_refuses 458 = .ok (.invokestatic 192, 3) := by decide +kernel
theorem dL_refuses_461 : decode cL_refuses 461 = .ok (.ldc 15, 2) := by decide +kernel
theorem dL_refuses_463 : decode cL_refuses 463 = .ok (.if_icmp .ne 49, 3) := by decide +kernel
theorem dL_refuses_466 : decode cL_refuses 466 = .ok (.aload_n 0, 1) := by decide +kernel
theorem dL_refuses_467 : decode cL_refuses 467 = .ok (.bipush 20, 2) := by decide +kernel
theorem dL_refuses_469 : decode cL_refuses 469 = .ok (.iconst 3, 1) := by decide +kernel
theorem dL_refuses_470 : decode cL_refuses 470 = .ok (.iconst 0, 1) := by decide +kernel
theorem dL_refuses_471 : decode cL_refuses 471 = .ok (.iconst 0, 1) := by decide +kernel
theorem dL_refuses_472 : decode cL_refuses 472 = .ok (.invokestatic 192, 3) := by decide +kernel
theorem dL_refuses_475 : decode cL_refuses 475 = .ok (.ldc 15, 2) := by decide +kernel
theorem dL_refuses_477 : decode cL_refuses 477 = .ok (.if_icmp .ne 35, 3) := by decide +kernel
theorem dL_refuses_480 : decode cL_refuses 480 = .ok (.aload_n 0, 1) := by decide +kernel
theorem dL_refuses_481 : decode cL_refuses 481 = .ok (.bipush 21, 2) := by decide +kernel
theorem dL_refuses_483 : decode cL_refuses 483 = .ok (.iload_n 2, 1) := by decide +kernel
theorem dL_refuses_484 : decode cL_refuses 484 = .ok (.iconst 0, 1) := by decide +kernel
theorem dL_refuses_485 : decode cL_refuses 485 = .ok (.iconst 0, 1) := by decide +kernel
theorem dL_refuses_486 : decode cL_refuses 486 = .ok (.invokestatic 192, 3) := by decide +kernel
theorem dL_refuses_489 : decode cL_refuses 489 = .ok (.ldc 15, 2) := by decide +kernel
theorem dL_refuses_491 : decode cL_refuses 491 = .ok (.if_icmp .ne 21, 3) := by decide +kernel
theorem dL_refuses_494 : decode cL_refuses 494 = .ok (.aload_n 0, 1) := by decide +kernel
theorem dL_refuses_495 : decode cL_refuses 495 = .ok (.bipush 22, 2) := by decide +kernel
theorem dL_refuses_497 : decode cL_refuses 497 = .ok (.iconst (-1), 1) := by decide +kernel
theorem dL_refuses_498 : decode cL_refuses 498 = .ok (.iconst 0, 1) := by decide +kernel
theorem dL_refuses_499 : decode cL_refuses 499 = .ok (.iconst 0, 1) := by decide +kernel
theorem dL_refuses_500 : decode cL_refuses 500 = .ok (.invokestatic 192, 3) := by decide +kernel
theorem dL_refuses_503 : decode cL_refuses 503 = .ok (.ldc 15, 2) := by decide +kernel
theorem dL_refuses_505 : decode cL_refuses 505 = .ok (.if_icmp .ne 7, 3) := by decide +kernel
theorem dL_refuses_508 : decode cL_refuses 508 = .ok (.iconst 1, 1) := by decide +kernel
theorem dL_refuses_509 : decode cL_refuses 509 = .ok (.goto 4, 3) := by decide +kernel
theorem dL_refuses_512 : decode cL_refuses 512 = .ok (.iconst 0, 1) := by decide +kernel
theorem dL_refuses_513 : decode cL_refuses 513 = .ok (.istore 5, 2) := by decide +kernel
theorem dL_refuses_515 : decode cL_refuses 515 = .ok (.iload_n 2, 1) := by decide +kernel
theorem dL_refuses_516 : decode cL_refuses 516 = .ok (.ifCond .le 322, 3) := by decide +kernel
theorem dL_refuses_519 : decode cL_refuses 519 = .ok (.iload_n 1, 1) := by decide +kernel
theorem dL_refuses_520 : decode cL_refuses 520 = .ok (.iload_n 2, 1) := by decide +kernel
theorem dL_refuses_521 : decode cL_refuses 521 = .ok (.irem, 1) := by decide +kernel
theorem dL_refuses_522 : decode cL_refuses 522 = .ok (.istore 6, 2) := by decide +kernel
theorem dL_refuses_524 : decode cL_refuses 524 = .ok (.aload_n 0, 1) := by decide +kernel
theorem dL_refuses_525 : decode cL_refuses 525 = .ok (.iconst 4, 1) := by decide +kernel
theorem dL_refuses_526 : decode cL_refuses 526 = .ok (.iload 6, 2) := by decide +kernel
theorem dL_refuses_528 : decode cL_refuses 528 = .ok (.iconst 3, 1) := by decide +kernel
theorem dL_refuses_529 : decode cL_refuses 529 = .ok (.iconst 0, 1) := by decide +kernel
theorem dL_refuses_530 : decode cL_refuses 530 = .ok (.invokestatic 192, 3) := by decide +kernel
theorem dL_refuses_533 : decode cL_refuses 533 = .ok (.istore 7, 2) := by decide +kernel
theorem dL_refuses_535 : decode cL_refuses 535 = .ok (.iload 5, 2) := by decide +kernel
theorem dL_refuses_537 : decode cL_refuses 537 = .ok (.ifCond .eq 298, 3) := by decide +kernel
theorem dL_refuses_540 : decode cL_refuses 540 = .ok (.aload_n 0, 1) := by decide +kernel
theorem dL_refuses_541 : decode cL_refuses 541 = .ok (.iconst 4, 1) := by decide +kernel
theorem dL_refuses_542 : decode cL_refuses 542 = .ok (.iload 6, 2) := by decide +kernel
theorem dL_refuses_544 : decode cL_refuses 544 = .ok (.iconst 5, 1) := by decide +kernel
theorem dL_refuses_545 : decode cL_refuses 545 = .ok (.iload_n 1, 1) := by decide +kernel
theorem dL_refuses_546 : decode cL_refuses 546 = .ok (.bipush 9, 2) := by decide +kernel
theorem dL_refuses_548 : decode cL_refuses 548 = .ok (.irem, 1) := by decide +kernel
theorem dL_refuses_549 : decode cL_refuses 549 = .ok (.iadd, 1) := by decide +kernel
theorem dL_refuses_550 : decode cL_refuses 550 = .ok (.iconst 0, 1) := by decide +kernel
theorem dL_refuses_551 : decode cL_refuses 551 = .ok (.invokestatic 192, 3) := by decide +kernel
theorem dL_refuses_554 : decode cL_refuses 554 = .ok (.ldc 18, 2) := by decide +kernel
theorem dL_refuses_556 : decode cL_refuses 556 = .ok (.if_icmp .ne 279, 3) := by decide +kernel
theorem dL_refuses_559 : decode cL_refuses 559 = .ok (.aload_n 0, 1) := by decide +kernel
theorem dL_refuses_560 : decode cL_refuses 560 = .ok (.iconst 5, 1) := by decide +kernel
theorem dL_refuses_561 : decode cL_refuses 561 = .ok (.iload 6, 2) := by decide +kernel
theorem dL_refuses_563 : decode cL_refuses 563 = .ok (.iconst 3, 1) := by decide +kernel
theorem dL_refuses_564 : decode cL_refuses 564 = .ok (.iconst 0, 1) := by decide +kernel
theorem dL_refuses_565 : decode cL_refuses 565 = .ok (.invokestatic 192, 3) := by decide +kernel
theorem dL_refuses_568 : decode cL_refuses 568 = .ok (.ldc 15, 2) := by decide +kernel
theorem dL_refuses_570 : decode cL_refuses 570 = .ok (.if_icmp .ne 265, 3) := by decide +kernel
theorem dL_refuses_573 : decode cL_refuses 573 = .ok (.aload_n 0, 1) := by decide +kernel
theorem dL_refuses_574 : decode cL_refuses 574 = .ok (.bipush 6, 2) := by decide +kernel
theorem dL_refuses_576 : decode cL_refuses 576 = .ok (.iload 6, 2) := by decide +kernel
theorem dL_refuses_578 : decode cL_refuses 578 = .ok (.iload 7, 2) := by decide +kernel
theorem dL_refuses_580 : decode cL_refuses 580 = .ok (.iconst 1, 1) := by decide +kernel
theorem dL_refuses_581 : decode cL_refuses 581 = .ok (.iadd, 1) := by decide +kernel
theorem dL_refuses_582 : decode cL_refuses 582 = .ok (.iconst 0, 1) := by decide +kernel
theorem dL_refuses_583 : decode cL_refuses 583 = .ok (.invokestatic 192, 3) := by decide +kernel
theorem dL_refuses_586 : decode cL_refuses 586 = .ok (.ldc 15, 2) := by decide +kernel
theorem dL_refuses_588 : decode cL_refuses 588 = .ok (.if_icmp .ne 247, 3) := by decide +kernel
theorem dL_refuses_591 : decode cL_refuses 591 = .ok (.aload_n 0, 1) := by decide +kernel
theorem dL_refuses_592 : decode cL_refuses 592 = .ok (.bipush 6, 2) := by decide +kernel
theorem dL_refuses_594 : decode cL_refuses 594 = .ok (.iload 6, 2) := by decide +kernel
theorem dL_refuses_596 : decode cL_refuses 596 = .ok (.iload_n 1, 1) := by decide +kernel
theorem dL_refuses_597 : decode cL_refuses 597 = .ok (.iload 7, 2) := by decide +kernel
theorem dL_refuses_599 : decode cL_refuses 599 = .ok (.iconst 1, 1) := by decide +kernel
theorem dL_refuses_600 : decode cL_refuses 600 = .ok (.iadd, 1) := by decide +kernel
theorem dL_refuses_601 : decode cL_refuses 601 = .ok (.irem, 1) := by decide +kernel
theorem dL_refuses_602 : decode cL_refuses 602 = .ok (.iconst 4, 1) := by decide +kernel
theorem dL_refuses_603 : decode cL_refuses 603 = .ok (.iload_n 1, 1) := by decide +kernel
theorem dL_refuses_604 : decode cL_refuses 604 = .ok (.bipush 9, 2) := by decide +kernel
theorem dL_refuses_606 : decode cL_refuses 606 = .ok (.irem, 1) := by decide +kernel
theorem dL_refuses_607 : decode cL_refuses 607 = .ok (.iadd, 1) := by decide +kernel
theorem dL_refuses_608 : decode cL_refuses 608 = .ok (.invokestatic 192, 3) := by decide +kernel
theorem dL_refuses_611 : decode cL_refuses 611 = .ok (.ldc 18, 2) := by decide +kernel
theorem dL_refuses_613 : decode cL_refuses 613 = .ok (.if_icmp .ne 222, 3) := by decide +kernel
theorem dL_refuses_616 : decode cL_refuses 616 = .ok (.aload_n 0, 1) := by decide +kernel
theorem dL_refuses_617 : decode cL_refuses 617 = .ok (.bipush 11, 2) := by decide +kernel
theorem dL_refuses_619 : decode cL_refuses 619 = .ok (.iload 6, 2) := by decide +kernel
theorem dL_refuses_621 : decode cL_refuses 621 = .ok (.iconst 3, 1) := by decide +kernel
theorem dL_refuses_622 : decode cL_refuses 622 = .ok (.iconst 0, 1) := by decide +kernel
theorem dL_refuses_623 : decode cL_refuses 623 = .ok (.invokestatic 192, 3) := by decide +kernel
theorem dL_refuses_626 : decode cL_refuses 626 = .ok (.ldc 15, 2) := by decide +kernel
theorem dL_refuses_628 : decode cL_refuses 628 = .ok (.if_icmp .ne 207, 3) := by decide +kernel
theorem dL_refuses_631 : decode cL_refuses 631 = .ok (.aload_n 0, 1) := by decide +kernel
theorem dL_refuses_632 : decode cL_refuses 632 = .ok (.bipush 11, 2) := by decide +kernel
theorem dL_refuses_634 : decode cL_refuses 634 = .ok (.iload 6, 2) := by decide +kernel
theorem dL_refuses_636 : decode cL_refuses 636 = .ok (.iload_n 1, 1) := by decide +kernel
theorem dL_refuses_637 : decode cL_refuses 637 = .ok (.iconst 3, 1) := by decide +kernel
theorem dL_refuses_638 : decode cL_refuses 638 = .ok (.irem, 1) := by decide +kernel
theorem dL_refuses_639 : decode cL_refuses 639 = .ok (.ldc 196, 2) := by decide +kernel
theorem dL_refuses_641 : decode cL_refuses 641 = .ok (.iload_n 1, 1) := by decide +kernel
theorem dL_refuses_642 : decode cL_refuses 642 = .ok (.bipush 9, 2) := by decide +kernel
theorem dL_refuses_644 : decode cL_refuses 644 = .ok (.irem, 1) := by decide +kernel
theorem dL_refuses_645 : decode cL_refuses 645 = .ok (.iadd, 1) := by decide +kernel
theorem dL_refuses_646 : decode cL_refuses 646 = .ok (.invokestatic 192, 3) := by decide +kernel
theorem dL_refuses_649 : decode cL_refuses 649 = .ok (.ldc 18, 2) := by decide +kernel
theorem dL_refuses_651 : decode cL_refuses 651 = .ok (.if_icmp .ne 184, 3) := by decide +kernel
theorem dL_refuses_654 : decode cL_refuses 654 = .ok (.aload_n 0, 1) := by decide +kernel
theorem dL_refuses_655 : decode cL_refuses 655 = .ok (.bipush 12, 2) := by decide +kernel
theorem dL_refuses_657 : decode cL_refuses 657 = .ok (.iload 6, 2) := by decide +kernel
theorem dL_refuses_659 : decode cL_refuses 659 = .ok (.iload_n 1, 1) := by decide +kernel
theorem dL_refuses_660 : decode cL_refuses 660 = .ok (.iconst 3, 1) := by decide +kernel
theorem dL_refuses_661 : decode cL_refuses 661 = .ok (.irem, 1) := by decide +kernel
theorem dL_refuses_662 : decode cL_refuses 662 = .ok (.bipush 10, 2) := by decide +kernel
theorem dL_refuses_664 : decode cL_refuses 664 = .ok (.iload_n 1, 1) := by decide +kernel
theorem dL_refuses_665 : decode cL_refuses 665 = .ok (.bipush 9, 2) := by decide +kernel
theorem dL_refuses_667 : decode cL_refuses 667 = .ok (.irem, 1) := by decide +kernel
theorem dL_refuses_668 : decode cL_refuses 668 = .ok (.iadd, 1) := by decide +kernel
theorem dL_refuses_669 : decode cL_refuses 669 = .ok (.invokestatic 192, 3) := by decide +kernel
theorem dL_refuses_672 : decode cL_refuses 672 = .ok (.ldc 18, 2) := by decide +kernel
theorem dL_refuses_674 : decode cL_refuses 674 = .ok (.if_icmp .ne 161, 3) := by decide +kernel
theorem dL_refuses_677 : decode cL_refuses 677 = .ok (.aload_n 0, 1) := by decide +kernel
theorem dL_refuses_678 : decode cL_refuses 678 = .ok (.bipush 15, 2) := by decide +kernel
theorem dL_refuses_680 : decode cL_refuses 680 = .ok (.iload 6, 2) := by decide +kernel
theorem dL_refuses_682 : decode cL_refuses 682 = .ok (.iconst 0, 1) := by decide +kernel
theorem dL_refuses_683 : decode cL_refuses 683 = .ok (.iconst 0, 1) := by decide +kernel
theorem dL_refuses_684 : decode cL_refuses 684 = .ok (.invokestatic 192, 3) := by decide +kernel
theorem dL_refuses_687 : decode cL_refuses 687 = .ok (.ldc 15, 2) := by decide +kernel
theorem dL_refuses_689 : decode cL_refuses 689 = .ok (.if_icmp .ne 146, 3) := by decide +kernel
theorem dL_refuses_692 : decode cL_refuses 692 = .ok (.aload_n 0, 1) := by decide +kernel
theorem dL_refuses_693 : decode cL_refuses 693 = .ok (.bipush 15, 2) := by decide +kernel
theorem dL_refuses_695 : decode cL_refuses 695 = .ok (.iload 6, 2) := by decide +kernel
theorem dL_refuses_697 : decode cL_refuses 697 = .ok (.iload 7, 2) := by decide +kernel
theorem dL_refuses_699 : decode cL_refuses 699 = .ok (.iconst 1, 1) := by decide +kernel
theorem dL_refuses_700 : decode cL_refuses 700 = .ok (.iadd, 1) := by decide +kernel
theorem dL_refuses_701 : decode cL_refuses 701 = .ok (.iconst 0, 1) := by decide +kernel
theorem dL_refuses_702 : decode cL_refuses 702 = .ok (.invokestatic 192, 3) := by decide +kernel
theorem dL_refuses_705 : decode cL_refuses 705 = .ok (.ldc 15, 2) := by decide +kernel
theorem dL_refuses_707 : decode cL_refuses 707 = .ok (.if_icmp .ne 128, 3) := by decide +kernel
theorem dL_refuses_710 : decode cL_refuses 710 = .ok (.aload_n 0, 1) := by decide +kernel
theorem dL_refuses_711 : decode cL_refuses 711 = .ok (.iload 6, 2) := by decide +kernel
theorem dL_refuses_713 : decode cL_refuses 713 = .ok (.bipush 10, 2) := by decide +kernel
theorem dL_refuses_715 : decode cL_refuses 715 = .ok (.iconst 0, 1) := by decide +kernel
theorem dL_refuses_716 : decode cL_refuses 716 = .ok (.iconst 0, 1) := by decide +kernel
theorem dL_refuses_717 : decode cL_refuses 717 = .ok (.iconst 5, 1) := by decide +kernel
theorem dL_refuses_718 : decode cL_refuses 718 = .ok (.invokestatic 197, 3) := by decide +kernel
theorem dL_refuses_721 : decode cL_refuses 721 = .ok (.ldc 18, 2) := by decide +kernel
theorem dL_refuses_723 : decode cL_refuses 723 = .ok (.if_icmp .ne 112, 3) := by decide +kernel
theorem dL_refuses_726 : decode cL_refuses 726 = .ok (.aload_n 0, 1) := by decide +kernel
theorem dL_refuses_727 : decode cL_refuses 727 = .ok (.iload 6, 2) := by decide +kernel
theorem dL_refuses_729 : decode cL_refuses 729 = .ok (.iconst 1, 1) := by decide +kernel
theorem dL_refuses_730 : decode cL_refuses 730 = .ok (.iconst 0, 1) := by decide +kernel
theorem dL_refuses_731 : decode cL_refuses 731 = .ok (.iconst 0, 1) := by decide +kernel
theorem dL_refuses_732 : decode cL_refuses 732 = .ok (.iconst 0, 1) := by decide +kernel
theorem dL_refuses_733 : decode cL_refuses 733 = .ok (.invokestatic 197, 3) := by decide +kernel
theorem dL_refuses_736 : decode cL_refuses 736 = .ok (.ldc 18, 2) := by decide +kernel
theorem dL_refuses_738 : decode cL_refuses 738 = .ok (.if_icmp .ne 97, 3) := by decide +kernel
theorem dL_refuses_741 : decode cL_refuses 741 = .ok (.aload_n 0, 1) := by decide +kernel
theorem dL_refuses_742 : decode cL_refuses 742 = .ok (.iload 6, 2) := by decide +kernel
theorem dL_refuses_744 : decode cL_refuses 744 = .ok (.iconst 0, 1) := by decide +kernel
theorem dL_refuses_745 : decode cL_refuses 745 = .ok (.iconst 0, 1) := by decide +kernel
theorem dL_refuses_746 : decode cL_refuses 746 = .ok (.iconst 0, 1) := by decide +kernel
theorem dL_refuses_747 : decode cL_refuses 747 = .ok (.ldc 201, 2) := by decide +kernel
theorem dL_refuses_749 : decode cL_refuses 749 = .ok (.invokestatic 197, 3) := by decide +kernel
theorem dL_refuses_752 : decode cL_refuses 752 = .ok (.ldc 21, 2) := by decide +kernel
theorem dL_refuses_754 : decode cL_refuses 754 = .ok (.if_icmp .ne 81, 3) := by decide +kernel
theorem dL_refuses_757 : decode cL_refuses 757 = .ok (.aload_n 0, 1) := by decide +kernel
theorem dL_refuses_758 : decode cL_refuses 758 = .ok (.bipush 8, 2) := by decide +kernel
theorem dL_refuses_760 : decode cL_refuses 760 = .ok (.iload_n 1, 1) := by decide +kernel
theorem dL_refuses_761 : decode cL_refuses 761 = .ok (.iconst 3, 1) := by decide +kernel
theorem dL_refuses_762 : decode cL_refuses 762 = .ok (.irem, 1) := by decide +kernel
theorem dL_refuses_763 : decode cL_refuses 763 = .ok (.iconst 1, 1) := by decide +kernel
theorem dL_refuses_764 : decode cL_refuses 764 = .ok (.iconst 1, 1) := by decide +kernel
theorem dL_refuses_765 : decode cL_refuses 765 = .ok (.invokestatic 192, 3) := by decide +kernel
theorem dL_refuses_768 : decode cL_refuses 768 = .ok (.ldc 21, 2) := by decide +kernel
theorem dL_refuses_770 : decode cL_refuses 770 = .ok (.if_icmp .ne 65, 3) := by decide +kernel
theorem dL_refuses_773 : decode cL_refuses 773 = .ok (.iload 4, 2) := by decide +kernel
theorem dL_refuses_775 : decode cL_refuses 775 = .ok (.ifCond .ne 19, 3) := by decide +kernel
theorem dL_refuses_778 : decode cL_refuses 778 = .ok (.aload_n 0, 1) := by decide +kernel
theorem dL_refuses_779 : decode cL_refuses 779 = .ok (.iload 6, 2) := by decide +kernel
theorem dL_refuses_781 : decode cL_refuses 781 = .ok (.iconst 1, 1) := by decide +kernel
theorem dL_refuses_782 : decode cL_refuses 782 = .ok (.iconst 0, 1) := by decide +kernel
theorem dL_refuses_783 : decode cL_refuses 783 = .ok (.iconst 0, 1) := by decide +kernel
theorem dL_refuses_784 : decode cL_refuses 784 = .ok (.ldc 201, 2) := by decide +kernel
theorem dL_refuses_786 : decode cL_refuses 786 = .ok (.invokestatic 197, 3) := by decide +kernel
theorem dL_refuses_789 : decode cL_refuses 789 = .ok (.ldc 21, 2) := by decide +kernel
theorem dL_refuses_791 : decode cL_refuses 791 = .ok (.if_icmp .ne 44, 3) := by decide +kernel
theorem dL_refuses_794 : decode cL_refuses 794 = .ok (.iload 4, 2) := by decide +kernel
theorem dL_refuses_796 : decode cL_refuses 796 = .ok (.ifCond .eq 35, 3) := by decide +kernel
theorem dL_refuses_799 : decode cL_refuses 799 = .ok (.aload_n 0, 1) := by decide +kernel
theorem dL_refuses_800 : decode cL_refuses 800 = .ok (.bipush 12, 2) := by decide +kernel
theorem dL_refuses_802 : decode cL_refuses 802 = .ok (.iload 6, 2) := by decide +kernel
theorem dL_refuses_804 : decode cL_refuses 804 = .ok (.iload_n 1, 1) := by decide +kernel
theorem dL_refuses_805 : decode cL_refuses 805 = .ok (.iconst 3, 1) := by decide +kernel
theorem dL_refuses_806 : decode cL_refuses 806 = .ok (.irem, 1) := by decide +kernel
theorem dL_refuses_807 : decode cL_refuses 807 = .ok (.iconst 0, 1) := by decide +kernel
theorem dL_refuses_808 : decode cL_refuses 808 = .ok (.invokestatic 192, 3) := by decide +kernel
theorem dL_refuses_811 : decode cL_refuses 811 = .ok (.ldc 21, 2) := by decide +kernel
theorem dL_refuses_813 : decode cL_refuses 813 = .ok (.if_icmp .ne 22, 3) := by decide +kernel
theorem dL_refuses_816 : decode cL_refuses 816 = .ok (.aload_n 0, 1) := by decide +kernel
theorem dL_refuses_817 : decode cL_refuses 817 = .ok (.bipush 13, 2) := by decide +kernel
theorem dL_refuses_819 : decode cL_refuses 819 = .ok (.iload 6, 2) := by decide +kernel
theorem dL_refuses_821 : decode cL_refuses 821 = .ok (.iconst 0, 1) := by decide +kernel
theorem dL_refuses_822 : decode cL_refuses 822 = .ok (.iconst 0, 1) := by decide +kernel
theorem dL_refuses_823 : decode cL_refuses 823 = .ok (.invokestatic 192, 3) := by decide +kernel
theorem dL_refuses_826 : decode cL_refuses 826 = .ok (.ldc 21, 2) := by decide +kernel
theorem dL_refuses_828 : decode cL_refuses 828 = .ok (.if_icmp .ne 7, 3) := by decide +kernel
theorem dL_refuses_831 : decode cL_refuses 831 = .ok (.iconst 1, 1) := by decide +kernel
theorem dL_refuses_832 : decode cL_refuses 832 = .ok (.goto 4, 3) := by decide +kernel
theorem dL_refuses_835 : decode cL_refuses 835 = .ok (.iconst 0, 1) := by decide +kernel
theorem dL_refuses_836 : decode cL_refuses 836 = .ok (.istore 5, 2) := by decide +kernel
theorem dL_refuses_838 : decode cL_refuses 838 = .ok (.iload 5, 2) := by decide +kernel
theorem dL_refuses_840 : decode cL_refuses 840 = .ok (.ifCond .eq 96, 3) := by decide +kernel
theorem dL_refuses_843 : decode cL_refuses 843 = .ok (.iload_n 3, 1) := by decide +kernel
theorem dL_refuses_844 : decode cL_refuses 844 = .ok (.ifCond .eq 49, 3) := by decide +kernel
theorem dL_refuses_847 : decode cL_refuses 847 = .ok (.aload_n 0, 1) := by decide +kernel
theorem dL_refuses_848 : decode cL_refuses 848 = .ok (.bipush 10, 2) := by decide +kernel
theorem dL_refuses_850 : decode cL_refuses 850 = .ok (.iconst 1, 1) := by decide +kernel
theorem dL_refuses_851 : decode cL_refuses 851 = .ok (.iconst 1, 1) := by decide +kernel
theorem dL_refuses_852 : decode cL_refuses 852 = .ok (.iconst 0, 1) := by decide +kernel
theorem dL_refuses_853 : decode cL_refuses 853 = .ok (.invokestatic 192, 3) := by decide +kernel
theorem dL_refuses_856 : decode cL_refuses 856 = .ok (.ldc 21, 2) := by decide +kernel
theorem dL_refuses_858 : decode cL_refuses 858 = .ok (.if_icmp .ne 78, 3) := by decide +kernel
theorem dL_refuses_861 : decode cL_refuses 861 = .ok (.aload_n 0, 1) := by decide +kernel
theorem dL_refuses_862 : decode cL_refuses 862 = .ok (.bipush 9, 2) := by decide +kernel
theorem dL_refuses_864 : decode cL_refuses 864 = .ok (.iload_n 1, 1) := by decide +kernel
theorem dL_refuses_865 : decode cL_refuses 865 = .ok (.iconst 3, 1) := by decide +kernel
theorem dL_refuses_866 : decode cL_refuses 866 = .ok (.irem, 1) := by decide +kernel
theorem dL_refuses_867 : decode cL_refuses 867 = .ok (.iconst 5, 1) := by decide +kernel
theorem dL_refuses_868 : decode cL_refuses 868 = .ok (.iconst 0, 1) := by decide +kernel
theorem dL_refuses_869 : decode cL_refuses 869 = .ok (.invokestatic 192, 3) := by decide +kernel
theorem dL_refuses_872 : decode cL_refuses 872 = .ok (.ldc 21, 2) := by decide +kernel
theorem dL_refuses_874 : decode cL_refuses 874 = .ok (.if_icmp .ne 62, 3) := by decide +kernel
theorem dL_refuses_877 : decode cL_refuses 877 = .ok (.aload_n 0, 1) := by decide +kernel
theorem dL_refuses_878 : decode cL_refuses 878 = .ok (.bipush 8, 2) := by decide +kernel
theorem dL_refuses_880 : decode cL_refuses 880 = .ok (.iload_n 1, 1) := by decide +kernel
theorem dL_refuses_881 : decode cL_refuses 881 = .ok (.iconst 3, 1) := by decide +kernel
theorem dL_refuses_882 : decode cL_refuses 882 = .ok (.irem, 1) := by decide +kernel
theorem dL_refuses_883 : decode cL_refuses 883 = .ok (.iconst 1, 1) := by decide +kernel
theorem dL_refuses_884 : decode cL_refuses 884 = .ok (.iconst 1, 1) := by decide +kernel
theorem dL_refuses_885 : decode cL_refuses 885 = .ok (.invokestatic 192, 3) := by decide +kernel
theorem dL_refuses_888 : decode cL_refuses 888 = .ok (.ldc 21, 2) := by decide +kernel
theorem dL_refuses_890 : decode cL_refuses 890 = .ok (.if_icmp .ne 46, 3) := by decide +kernel
theorem dL_refuses_893 : decode cL_refuses 893 = .ok (.iload 4, 2) := by decide +kernel
theorem dL_refuses_895 : decode cL_refuses 895 = .ok (.ifCond .eq 17, 3) := by decide +kernel
theorem dL_refuses_898 : decode cL_refuses 898 = .ok (.aload_n 0, 1) := by decide +kernel
theorem dL_refuses_899 : decode cL_refuses 899 = .ok (.bipush 14, 2) := by decide +kernel
theorem dL_refuses_901 : decode cL_refuses 901 = .ok (.iconst 0, 1) := by decide +kernel
theorem dL_refuses_902 : decode cL_refuses 902 = .ok (.iconst 0, 1) := by decide +kernel
theorem dL_refuses_903 : decode cL_refuses 903 = .ok (.iconst 0, 1) := by decide +kernel
theorem dL_refuses_904 : decode cL_refuses 904 = .ok (.invokestatic 192, 3) := by decide +kernel
theorem dL_refuses_907 : decode cL_refuses 907 = .ok (.ldc 21, 2) := by decide +kernel
theorem dL_refuses_909 : decode cL_refuses 909 = .ok (.if_icmp .ne 27, 3) := by decide +kernel
theorem dL_refuses_912 : decode cL_refuses 912 = .ok (.iload_n 2, 1) := by decide +kernel
theorem dL_refuses_913 : decode cL_refuses 913 = .ok (.bipush 6, 2) := by decide +kernel
theorem dL_refuses_915 : decode cL_refuses 915 = .ok (.if_icmp .lt 17, 3) := by decide +kernel
theorem dL_refuses_918 : decode cL_refuses 918 = .ok (.aload_n 0, 1) := by decide +kernel
theorem dL_refuses_919 : decode cL_refuses 919 = .ok (.bipush 10, 2) := by decide +kernel
theorem dL_refuses_921 : decode cL_refuses 921 = .ok (.iconst 1, 1) := by decide +kernel
theorem dL_refuses_922 : decode cL_refuses 922 = .ok (.iconst 1, 1) := by decide +kernel
theorem dL_refuses_923 : decode cL_refuses 923 = .ok (.iconst 0, 1) := by decide +kernel
theorem dL_refuses_924 : decode cL_refuses 924 = .ok (.invokestatic 192, 3) := by decide +kernel
theorem dL_refuses_927 : decode cL_refuses 927 = .ok (.ldc 21, 2) := by decide +kernel
theorem dL_refuses_929 : decode cL_refuses 929 = .ok (.if_icmp .ne 7, 3) := by decide +kernel
theorem dL_refuses_932 : decode cL_refuses 932 = .ok (.iconst 1, 1) := by decide +kernel
theorem dL_refuses_933 : decode cL_refuses 933 = .ok (.goto 4, 3) := by decide +kernel
theorem dL_refuses_936 : decode cL_refuses 936 = .ok (.iconst 0, 1) := by decide +kernel
theorem dL_refuses_937 : decode cL_refuses 937 = .ok (.istore 5, 2) := by decide +kernel
theorem dL_refuses_939 : decode cL_refuses 939 = .ok (.iload 5, 2) := by decide +kernel
theorem dL_refuses_941 : decode cL_refuses 941 = .ok (.ifCond .eq 132, 3) := by decide +kernel
theorem dL_refuses_944 : decode cL_refuses 944 = .ok (.aload_n 0, 1) := by decide +kernel
theorem dL_refuses_945 : decode cL_refuses 945 = .ok (.bipush 23, 2) := by decide +kernel
theorem dL_refuses_947 : decode cL_refuses 947 = .ok (.iconst 2, 1) := by decide +kernel
theorem dL_refuses_948 : decode cL_refuses 948 = .ok (.iconst 0, 1) := by decide +kernel
theorem dL_refuses_949 : decode cL_refuses 949 = .ok (.iconst 0, 1) := by decide +kernel
theorem dL_refuses_950 : decode cL_refuses 950 = .ok (.invokestatic 192, 3) := by decide +kernel
theorem dL_refuses_953 : decode cL_refuses 953 = .ok (.ldc 15, 2) := by decide +kernel
theorem dL_refuses_955 : decode cL_refuses 955 = .ok (.if_icmp .ne 118, 3) := by decide +kernel
theorem dL_refuses_958 : decode cL_refuses 958 = .ok (.aload_n 0, 1) := by decide +kernel
theorem dL_refuses_959 : decode cL_refuses 959 = .ok (.bipush 24, 2) := by decide +kernel
theorem dL_refuses_961 : decode cL_refuses 961 = .ok (.iconst (-1), 1) := by decide +kernel
theorem dL_refuses_962 : decode cL_refuses 962 = .ok (.iconst 0, 1) := by decide +kernel
theorem dL_refuses_963 : decode cL_refuses 963 = .ok (.iconst 0, 1) := by decide +kernel
theorem dL_refuses_964 : decode cL_refuses 964 = .ok (.invokestatic 192, 3) := by decide +kernel
theorem dL_refuses_967 : decode cL_refuses 967 = .ok (.ldc 15, 2) := by decide +kernel
theorem dL_refuses_969 : decode cL_refuses 969 = .ok (.if_icmp .ne 104, 3) := by decide +kernel
theorem dL_refuses_972 : decode cL_refuses 972 = .ok (.aload_n 0, 1) := by decide +kernel
theorem dL_refuses_973 : decode cL_refuses 973 = .ok (.iconst 0, 1) := by decide +kernel
theorem dL_refuses_974 : decode cL_refuses 974 = .ok (.sipush 256, 3) := by decide +kernel
theorem dL_refuses_977 : decode cL_refuses 977 = .ok (.iload_n 1, 1) := by decide +kernel
theorem dL_refuses_978 : decode cL_refuses 978 = .ok (.bipush 9, 2) := by decide +kernel
theorem dL_refuses_980 : decode cL_refuses 980 = .ok (.irem, 1) := by decide +kernel
theorem dL_refuses_981 : decode cL_refuses 981 = .ok (.iadd, 1) := by decide +kernel
theorem dL_refuses_982 : decode cL_refuses 982 = .ok (.iconst 0, 1) := by decide +kernel
theorem dL_refuses_983 : decode cL_refuses 983 = .ok (.iconst 0, 1) := by decide +kernel
theorem dL_refuses_984 : decode cL_refuses 984 = .ok (.invokestatic 192, 3) := by decide +kernel
theorem dL_refuses_987 : decode cL_refuses 987 = .ok (.ldc 18, 2) := by decide +kernel
theorem dL_refuses_989 : decode cL_refuses 989 = .ok (.if_icmp .ne 84, 3) := by decide +kernel
theorem dL_refuses_992 : decode cL_refuses 992 = .ok (.aload_n 0, 1) := by decide +kernel
theorem dL_refuses_993 : decode cL_refuses 993 = .ok (.iconst 4, 1) := by decide +kernel
theorem dL_refuses_994 : decode cL_refuses 994 = .ok (.lconst 0, 1) := by decide +kernel
theorem dL_refuses_995 : decode cL_refuses 995 = .ok (.invokestatic 202, 3) := by decide +kernel
theorem dL_refuses_998 : decode cL_refuses 998 = .ok (.ldc 18, 2) := by decide +kernel
theorem dL_refuses_1000 : decode cL_refuses 1000 = .ok (.if_icmp .ne 73, 3) := by decide +kernel
theorem dL_refuses_1003 : decode cL_refuses 1003 = .ok (.aload_n 0, 1) := by decide +kernel
theorem dL_refuses_1004 : decode cL_refuses 1004 = .ok (.iconst 1, 1) := by decide +kernel
theorem dL_refuses_1005 : decode cL_refuses 1005 = .ok (.ldc2_w 206, 3) := by decide +kernel
theorem dL_refuses_1008 : decode cL_refuses 1008 = .ok (.iload_n 1, 1) := by decide +kernel
theorem dL_refuses_1009 : decode cL_refuses 1009 = .ok (.i2l, 1) := by decide +kernel
theorem dL_refuses_1010 : decode cL_refuses 1010 = .ok (.ladd, 1) := by decide +kernel
theorem dL_refuses_1011 : decode cL_refuses 1011 = .ok (.invokestatic 202, 3) := by decide +kernel
theorem dL_refuses_1014 : decode cL_refuses 1014 = .ok (.ldc 18, 2) := by decide +kernel
theorem dL_refuses_1016 : decode cL_refuses 1016 = .ok (.if_icmp .ne 57, 3) := by decide +kernel
theorem dL_refuses_1019 : decode cL_refuses 1019 = .ok (.aload_n 0, 1) := by decide +kernel
theorem dL_refuses_1020 : decode cL_refuses 1020 = .ok (.iconst 2, 1) := by decide +kernel
theorem dL_refuses_1021 : decode cL_refuses 1021 = .ok (.ldc2_w 208, 3) := by decide +kernel
theorem dL_refuses_1024 : decode cL_refuses 1024 = .ok (.iload_n 1, 1) := by decide +kernel
theorem dL_refuses_1025 : decode cL_refuses 1025 = .ok (.i2l, 1) := by decide +kernel
theorem dL_refuses_1026 : decode cL_refuses 1026 = .ok (.lsub, 1) := by decide +kernel
theorem dL_refuses_1027 : decode cL_refuses 1027 = .ok (.invokestatic 202, 3) := by decide +kernel
theorem dL_refuses_1030 : decode cL_refuses 1030 = .ok (.ldc 18, 2) := by decide +kernel
theorem dL_refuses_1032 : decode cL_refuses 1032 = .ok (.if_icmp .ne 41, 3) := by decide +kernel
theorem dL_refuses_1035 : decode cL_refuses 1035 = .ok (.aload_n 0, 1) := by decide +kernel
theorem dL_refuses_1036 : decode cL_refuses 1036 = .ok (.iload_n 1, 1) := by decide +kernel
theorem dL_refuses_1037 : decode cL_refuses 1037 = .ok (.i2l, 1) := by decide +kernel
theorem dL_refuses_1038 : decode cL_refuses 1038 = .ok (.bipush 100, 2) := by decide +kernel
theorem dL_refuses_1040 : decode cL_refuses 1040 = .ok (.invokestatic 210, 3) := by decide +kernel
theorem dL_refuses_1043 : decode cL_refuses 1043 = .ok (.ldc 18, 2) := by decide +kernel
theorem dL_refuses_1045 : decode cL_refuses 1045 = .ok (.if_icmp .ne 28, 3) := by decide +kernel
theorem dL_refuses_1048 : decode cL_refuses 1048 = .ok (.aload_n 0, 1) := by decide +kernel
theorem dL_refuses_1049 : decode cL_refuses 1049 = .ok (.invokevirtual 214, 3) := by decide +kernel
theorem dL_refuses_1052 : decode cL_refuses 1052 = .ok (.iconst (-1), 1) := by decide +kernel
theorem dL_refuses_1053 : decode cL_refuses 1053 = .ok (.if_icmp .eq 16, 3) := by decide +kernel
theorem dL_refuses_1056 : decode cL_refuses 1056 = .ok (.aload_n 0, 1) := by decide +kernel
theorem dL_refuses_1057 : decode cL_refuses 1057 = .ok (.iconst 1, 1) := by decide +kernel
theorem dL_refuses_1058 : decode cL_refuses 1058 = .ok (.iconst 0, 1) := by decide +kernel
theorem dL_refuses_1059 : decode cL_refuses 1059 = .ok (.iconst 0, 1) := by decide +kernel
theorem dL_refuses_1060 : decode cL_refuses 1060 = .ok (.iconst 0, 1) := by decide +kernel
theorem dL_refuses_1061 : decode cL_refuses 1061 = .ok (.invokestatic 192, 3) := by decide +kernel
theorem dL_refuses_1064 : decode cL_refuses 1064 = .ok (.ldc 21, 2) := by decide +kernel
theorem dL_refuses_1066 : decode cL_refuses 1066 = .ok (.if_icmp .ne 7, 3) := by decide +kernel
theorem dL_refuses_1069 : decode cL_refuses 1069 = .ok (.iconst 1, 1) := by decide +kernel
theorem dL_refuses_1070 : decode cL_refuses 1070 = .ok (.goto 4, 3) := by decide +kernel
theorem dL_refuses_1073 : decode cL_refuses 1073 = .ok (.iconst 0, 1) := by decide +kernel
theorem dL_refuses_1074 : decode cL_refuses 1074 = .ok (.ireturn, 1) := by decide +kernel
theorem dL_alike_0 : decode cL_alike 0 = .ok (.aload_n 0, 1) := by decide +kernel
theorem dL_alike_1 : decode cL_alike 1 = .ok (.invokevirtual 214, 3) := by decide +kernel
theorem dL_alike_4 : decode cL_alike 4 = .ok (.aload_n 1, 1) := by decide +kernel
theorem dL_alike_5 : decode cL_alike 5 = .ok (.invokevirtual 214, 3) := by decide +kernel
theorem dL_alike_8 : decode cL_alike 8 = .ok (.if_icmp .ne 7, 3) := by decide +kernel
theorem dL_alike_11 : decode cL_alike 11 = .ok (.iconst 1, 1) := by decide +kernel
theorem dL_alike_12 : decode cL_alike 12 = .ok (.goto 4, 3) := by decide +kernel
theorem dL_alike_15 : decode cL_alike 15 = .ok (.iconst 0, 1) := by decide +kernel
theorem dL_alike_16 : decode cL_alike 16 = .ok (.istore_n 3, 1) := by decide +kernel
theorem dL_alike_17 : decode cL_alike 17 = .ok (.iconst 0, 1) := by decide +kernel
theorem dL_alike_18 : decode cL_alike 18 = .ok (.istore 4, 2) := by decide +kernel
theorem dL_alike_20 : decode cL_alike 20 = .ok (.iload 4, 2) := by decide +kernel
theorem dL_alike_22 : decode cL_alike 22 = .ok (.bipush 6, 2) := by decide +kernel
theorem dL_alike_24 : decode cL_alike 24 = .ok (.if_icmp .ge 92, 3) := by decide +kernel
theorem dL_alike_27 : decode cL_alike 27 = .ok (.iload_n 3, 1) := by decide +kernel
theorem dL_alike_28 : decode cL_alike 28 = .ok (.ifCond .eq 88, 3) := by decide +kernel
theorem dL_alike_31 : decode cL_alike 31 = .ok (.aload_n 0, 1) := by decide +kernel
theorem dL_alike_32 : decode cL_alike 32 = .ok (.iconst 2, 1) := by decide +kernel
theorem dL_alike_33 : decode cL_alike 33 = .ok (.iload 4, 2) := by decide +kernel
theorem dL_alike_35 : decode cL_alike 35 = .ok (.iconst 0, 1) := by decide +kernel
theorem dL_alike_36 : decode cL_alike 36 = .ok (.iconst 0, 1) := by decide +kernel
theorem dL_alike_37 : decode cL_alike 37 = .ok (.invokestatic 192, 3) := by decide +kernel
theorem dL_alike_40 : decode cL_alike 40 = .ok (.aload_n 1, 1) := by decide +kernel
theorem dL_alike_41 : decode cL_alike 41 = .ok (.iconst 2, 1) := by decide +kernel
theorem dL_alike_42 : decode cL_alike 42 = .ok (.iload 4, 2) := by decide +kernel
theorem dL_alike_44 : decode cL_alike 44 = .ok (.iconst 0, 1) := by decide +kernel
theorem dL_alike_45 : decode cL_alike 45 = .ok (.iconst 0, 1) := by decide +kernel
theorem dL_alike_46 : decode cL_alike 46 = .ok (.invokestatic 192, 3) := by decide +kernel
theorem dL_alike_49 : decode cL_alike 49 = .ok (.if_icmp .ne 59, 3) := by decide +kernel
theorem dL_alike_52 : decode cL_alike 52 = .ok (.aload_n 0, 1) := by decide +kernel
theorem dL_alike_53 : decode cL_alike 53 = .ok (.bipush 7, 2) := by decide +kernel
theorem dL_alike_55 : decode cL_alike 55 = .ok (.iload 4, 2) := by decide +kernel
theorem dL_alike_57 : decode cL_alike 57 = .ok (.iconst 0, 1) := by decide +kernel
theorem dL_alike_58 : decode cL_alike 58 = .ok (.iconst 0, 1) := by decide +kernel
theorem dL_alike_59 : decode cL_alike 59 = .ok (.invokestatic 192, 3) := by decide +kernel
theorem dL_alike_62 : decode cL_alike 62 = .ok (.aload_n 1, 1) := by decide +kernel
theorem dL_alike_63 : decode cL_alike 63 = .ok (.bipush 7, 2) := by decide +kernel
theorem dL_alike_65 : decode cL_alike 65 = .ok (.iload 4, 2) := by decide +kernel
theorem dL_alike_67 : decode cL_alike 67 = .ok (.iconst 0, 1) := by decide +kernel
theorem dL_alike_68 : decode cL_alike 68 = .ok (.iconst 0, 1) := by decide +kernel
theorem dL_alike_69 : decode cL_alike 69 = .ok (.invokestatic 192, 3) := by decide +kernel
theorem dL_alike_72 : decode cL_alike 72 = .ok (.if_icmp .ne 36, 3) := by decide +kernel
theorem dL_alike_75 : decode cL_alike 75 = .ok (.aload_n 0, 1) := by decide +kernel
theorem dL_alike_76 : decode cL_alike 76 = .ok (.iconst 3, 1) := by decide +kernel
theorem dL_alike_77 : decode cL_alike 77 = .ok (.iload 4, 2) := by decide +kernel
theorem dL_alike_79 : decode cL_alike 79 = .ok (.iconst 3, 1) := by decide +kernel
theorem dL_alike_80 : decode cL_alike 80 = .ok (.irem, 1) := by decide +kernel
theorem dL_alike_81 : decode cL_alike 81 = .ok (.iload_n 2, 1) := by decide +kernel
theorem dL_alike_82 : decode cL_alike 82 = .ok (.iconst 4, 1) := by decide +kernel
theorem dL_alike_83 : decode cL_alike 83 = .ok (.irem, 1) := by decide +kernel
theorem dL_alike_84 : decode cL_alike 84 = .ok (.iconst 0, 1) := by decide +kernel
theorem dL_alike_85 : decode cL_alike 85 = .ok (.invokestatic 192, 3) := by decide +kernel
theorem dL_alike_88 : decode cL_alike 88 = .ok (.aload_n 1, 1) := by decide +kernel
theorem dL_alike_89 : decode cL_alike 89 = .ok (.iconst 3, 1) := by decide +kernel
theorem dL_alike_90 : decode cL_alike 90 = .ok (.iload 4, 2) := by decide +kernel
theorem dL_alike_92 : decode cL_alike 92 = .ok (.iconst 3, 1) := by decide +kernel
theorem dL_alike_93 : decode cL_alike 93 = .ok (.irem, 1) := by decide +kernel
theorem dL_alike_94 : decode cL_alike 94 = .ok (.iload_n 2, 1) := by decide +kernel
theorem dL_alike_95 : decode cL_alike 95 = .ok (.iconst 4, 1) := by decide +kernel
theorem dL_alike_96 : decode cL_alike 96 = .ok (.irem, 1) := by decide +kernel
theorem dL_alike_97 : decode cL_alike 97 = .ok (.iconst 0, 1) := by decide +kernel
theorem dL_alike_98 : decode cL_alike 98 = .ok (.invokestatic 192, 3) := by decide +kernel
theorem dL_alike_101 : decode cL_alike 101 = .ok (.if_icmp .ne 7, 3) := by decide +kernel
theorem dL_alike_104 : decode cL_alike 104 = .ok (.iconst 1, 1) := by decide +kernel
theorem dL_alike_105 : decode cL_alike 105 = .ok (.goto 4, 3) := by decide +kernel
theorem dL_alike_108 : decode cL_alike 108 = .ok (.iconst 0, 1) := by decide +kernel
theorem dL_alike_109 : decode cL_alike 109 = .ok (.istore_n 3, 1) := by decide +kernel
theorem dL_alike_110 : decode cL_alike 110 = .ok (.iinc 4 1, 3) := by decide +kernel
theorem dL_alike_113 : decode cL_alike 113 = .ok (.goto (-93), 3) := by decide +kernel
theorem dL_alike_116 : decode cL_alike 116 = .ok (.aload_n 0, 1) := by decide +kernel
theorem dL_alike_117 : decode cL_alike 117 = .ok (.iconst 2, 1) := by decide +kernel
theorem dL_alike_118 : decode cL_alike 118 = .ok (.iconst 0, 1) := by decide +kernel
theorem dL_alike_119 : decode cL_alike 119 = .ok (.iconst 0, 1) := by decide +kernel
theorem dL_alike_120 : decode cL_alike 120 = .ok (.iconst 0, 1) := by decide +kernel
theorem dL_alike_121 : decode cL_alike 121 = .ok (.invokestatic 192, 3) := by decide +kernel
theorem dL_alike_124 : decode cL_alike 124 = .ok (.istore 4, 2) := by decide +kernel
theorem dL_alike_126 : decode cL_alike 126 = .ok (.iconst 0, 1) := by decide +kernel
theorem dL_alike_127 : decode cL_alike 127 = .ok (.istore 5, 2) := by decide +kernel
theorem dL_alike_129 : decode cL_alike 129 = .ok (.iload 5, 2) := by decide +kernel
theorem dL_alike_131 : decode cL_alike 131 = .ok (.iload 4, 2) := by decide +kernel
theorem dL_alike_133 : decode cL_alike 133 = .ok (.if_icmp .ge 104, 3) := by decide +kernel
theorem dL_alike_136 : decode cL_alike 136 = .ok (.iload_n 3, 1) := by decide +kernel
theorem dL_alike_137 : decode cL_alike 137 = .ok (.ifCond .eq 100, 3) := by decide +kernel
theorem dL_alike_140 : decode cL_alike 140 = .ok (.aload_n 0, 1) := by decide +kernel
theorem dL_alike_141 : decode cL_alike 141 = .ok (.iconst 4, 1) := by decide +kernel
theorem dL_alike_142 : decode cL_alike 142 = .ok (.iload 5, 2) := by decide +kernel
theorem dL_alike_144 : decode cL_alike 144 = .ok (.iload_n 2, 1) := by decide +kernel
theorem dL_alike_145 : decode cL_alike 145 = .ok (.iconst 5, 1) := by decide +kernel
theorem dL_alike_146 : decode cL_alike 146 = .ok (.irem, 1) := by decide +kernel
theorem dL_alike_147 : decode cL_alike 147 = .ok (.iconst 0, 1) := by decide +kernel
theorem dL_alike_148 : decode cL_alike 148 = .ok (.invokestatic 192, 3) := by decide +kernel
theorem dL_alike_151 : decode cL_alike 151 = .ok (.aload_n 1, 1) := by decide +kernel
theorem dL_alike_152 : decode cL_alike 152 = .ok (.iconst 4, 1) := by decide +kernel
theorem dL_alike_153 : decode cL_alike 153 = .ok (.iload 5, 2) := by decide +kernel
theorem dL_alike_155 : decode cL_alike 155 = .ok (.iload_n 2, 1) := by decide +kernel
theorem dL_alike_156 : decode cL_alike 156 = .ok (.iconst 5, 1) := by decide +kernel
theorem dL_alike_157 : decode cL_alike 157 = .ok (.irem, 1) := by decide +kernel
theorem dL_alike_158 : decode cL_alike 158 = .ok (.iconst 0, 1) := by decide +kernel
theorem dL_alike_159 : decode cL_alike 159 = .ok (.invokestatic 192, 3) := by decide +kernel
theorem dL_alike_162 : decode cL_alike 162 = .ok (.if_icmp .ne 67, 3) := by decide +kernel
theorem dL_alike_165 : decode cL_alike 165 = .ok (.aload_n 0, 1) := by decide +kernel
theorem dL_alike_166 : decode cL_alike 166 = .ok (.iconst 5, 1) := by decide +kernel
theorem dL_alike_167 : decode cL_alike 167 = .ok (.iload 5, 2) := by decide +kernel
theorem dL_alike_169 : decode cL_alike 169 = .ok (.iload_n 2, 1) := by decide +kernel
theorem dL_alike_170 : decode cL_alike 170 = .ok (.iconst 3, 1) := by decide +kernel
theorem dL_alike_171 : decode cL_alike 171 = .ok (.irem, 1) := by decide +kernel
theorem dL_alike_172 : decode cL_alike 172 = .ok (.iconst 0, 1) := by decide +kernel
theorem dL_alike_173 : decode cL_alike 173 = .ok (.invokestatic 192, 3) := by decide +kernel
theorem dL_alike_176 : decode cL_alike 176 = .ok (.aload_n 1, 1) := by decide +kernel
theorem dL_alike_177 : decode cL_alike 177 = .ok (.iconst 5, 1) := by decide +kernel
theorem dL_alike_178 : decode cL_alike 178 = .ok (.iload 5, 2) := by decide +kernel
theorem dL_alike_180 : decode cL_alike 180 = .ok (.iload_n 2, 1) := by decide +kernel
theorem dL_alike_181 : decode cL_alike 181 = .ok (.iconst 3, 1) := by decide +kernel
theorem dL_alike_182 : decode cL_alike 182 = .ok (.irem, 1) := by decide +kernel
theorem dL_alike_183 : decode cL_alike 183 = .ok (.iconst 0, 1) := by decide +kernel
theorem dL_alike_184 : decode cL_alike 184 = .ok (.invokestatic 192, 3) := by decide +kernel
theorem dL_alike_187 : decode cL_alike 187 = .ok (.if_icmp .ne 42, 3) := by decide +kernel
theorem dL_alike_190 : decode cL_alike 190 = .ok (.aload_n 0, 1) := by decide +kernel
theorem dL_alike_191 : decode cL_alike 191 = .ok (.bipush 6, 2) := by decide +kernel
theorem dL_alike_193 : decode cL_alike 193 = .ok (.iload 5, 2) := by decide +kernel
theorem dL_alike_195 : decode cL_alike 195 = .ok (.iload_n 2, 1) := by decide +kernel
theorem dL_alike_196 : decode cL_alike 196 = .ok (.iconst 4, 1) := by decide +kernel
theorem dL_alike_197 : decode cL_alike 197 = .ok (.irem, 1) := by decide +kernel
theorem dL_alike_198 : decode cL_alike 198 = .ok (.iload_n 2, 1) := by decide +kernel
theorem dL_alike_199 : decode cL_alike 199 = .ok (.iconst 4, 1) := by decide +kernel
theorem dL_alike_200 : decode cL_alike 200 = .ok (.idiv, 1) := by decide +kernel
theorem dL_alike_201 : decode cL_alike 201 = .ok (.iconst 4, 1) := by decide +kernel
theorem dL_alike_202 : decode cL_alike 202 = .ok (.irem, 1) := by decide +kernel
theorem dL_alike_203 : decode cL_alike 203 = .ok (.invokestatic 192, 3) := by decide +kernel
theorem dL_alike_206 : decode cL_alike 206 = .ok (.aload_n 1, 1) := by decide +kernel
theorem dL_alike_207 : decode cL_alike 207 = .ok (.bipush 6, 2) := by decide +kernel
theorem dL_alike_209 : decode cL_alike 209 = .ok (.iload 5, 2) := by decide +kernel
theorem dL_alike_211 : decode cL_alike 211 = .ok (.iload_n 2, 1) := by decide +kernel
theorem dL_alike_212 : decode cL_alike 212 = .ok (.iconst 4, 1) := by decide +kernel
theorem dL_alike_213 : decode cL_alike 213 = .ok (.irem, 1) := by decide +kernel
theorem dL_alike_214 : decode cL_alike 214 = .ok (.iload_n 2, 1) := by decide +kernel
theorem dL_alike_215 : decode cL_alike 215 = .ok (.iconst 4, 1) := by decide +kernel
theorem dL_alike_216 : decode cL_alike 216 = .ok (.idiv, 1) := by decide +kernel
theorem dL_alike_217 : decode cL_alike 217 = .ok (.iconst 4, 1) := by decide +kernel
theorem dL_alike_218 : decode cL_alike 218 = .ok (.irem, 1) := by decide +kernel
theorem dL_alike_219 : decode cL_alike 219 = .ok (.invokestatic 192, 3) := by decide +kernel
theorem dL_alike_222 : decode cL_alike 222 = .ok (.if_icmp .ne 7, 3) := by decide +kernel
theorem dL_alike_225 : decode cL_alike 225 = .ok (.iconst 1, 1) := by decide +kernel
theorem dL_alike_226 : decode cL_alike 226 = .ok (.goto 4, 3) := by decide +kernel
theorem dL_alike_229 : decode cL_alike 229 = .ok (.iconst 0, 1) := by decide +kernel
theorem dL_alike_230 : decode cL_alike 230 = .ok (.istore_n 3, 1) := by decide +kernel
theorem dL_alike_231 : decode cL_alike 231 = .ok (.iinc 5 1, 3) := by decide +kernel
theorem dL_alike_234 : decode cL_alike 234 = .ok (.goto (-105), 3) := by decide +kernel
theorem dL_alike_237 : decode cL_alike 237 = .ok (.iload_n 3, 1) := by decide +kernel
theorem dL_alike_238 : decode cL_alike 238 = .ok (.ifCond .eq 43, 3) := by decide +kernel
theorem dL_alike_241 : decode cL_alike 241 = .ok (.iload 4, 2) := by decide +kernel
theorem dL_alike_243 : decode cL_alike 243 = .ok (.ifCond .eq 34, 3) := by decide +kernel
theorem dL_alike_246 : decode cL_alike 246 = .ok (.aload_n 0, 1) := by decide +kernel
theorem dL_alike_247 : decode cL_alike 247 = .ok (.bipush 21, 2) := by decide +kernel
theorem dL_alike_249 : decode cL_alike 249 = .ok (.iload_n 2, 1) := by decide +kernel
theorem dL_alike_250 : decode cL_alike 250 = .ok (.iload 4, 2) := by decide +kernel
theorem dL_alike_252 : decode cL_alike 252 = .ok (.irem, 1) := by decide +kernel
theorem dL_alike_253 : decode cL_alike 253 = .ok (.iload_n 2, 1) := by decide +kernel
theorem dL_alike_254 : decode cL_alike 254 = .ok (.iconst 3, 1) := by decide +kernel
theorem dL_alike_255 : decode cL_alike 255 = .ok (.irem, 1) := by decide +kernel
theorem dL_alike_256 : decode cL_alike 256 = .ok (.iconst 0, 1) := by decide +kernel
theorem dL_alike_257 : decode cL_alike 257 = .ok (.invokestatic 192, 3) := by decide +kernel
theorem dL_alike_260 : decode cL_alike 260 = .ok (.aload_n 1, 1) := by decide +kernel
theorem dL_alike_261 : decode cL_alike 261 = .ok (.bipush 21, 2) := by decide +kernel
theorem dL_alike_263 : decode cL_alike 263 = .ok (.iload_n 2, 1) := by decide +kernel
theorem dL_alike_264 : decode cL_alike 264 = .ok (.iload 4, 2) := by decide +kernel
theorem dL_alike_266 : decode cL_alike 266 = .ok (.irem, 1) := by decide +kernel
theorem dL_alike_267 : decode cL_alike 267 = .ok (.iload_n 2, 1) := by decide +kernel
theorem dL_alike_268 : decode cL_alike 268 = .ok (.iconst 3, 1) := by decide +kernel
theorem dL_alike_269 : decode cL_alike 269 = .ok (.irem, 1) := by decide +kernel
theorem dL_alike_270 : decode cL_alike 270 = .ok (.iconst 0, 1) := by decide +kernel
theorem dL_alike_271 : decode cL_alike 271 = .ok (.invokestatic 192, 3) := by decide +kernel
theorem dL_alike_274 : decode cL_alike 274 = .ok (.if_icmp .ne 7, 3) := by decide +kernel
theorem dL_alike_277 : decode cL_alike 277 = .ok (.iconst 1, 1) := by decide +kernel
theorem dL_alike_278 : decode cL_alike 278 = .ok (.goto 4, 3) := by decide +kernel
theorem dL_alike_281 : decode cL_alike 281 = .ok (.iconst 0, 1) := by decide +kernel
theorem dL_alike_282 : decode cL_alike 282 = .ok (.ireturn, 1) := by decide +kernel
theorem dL_holds_0 : decode cL_holds 0 = .ok (.aload_n 0, 1) := by decide +kernel
theorem dL_holds_1 : decode cL_holds 1 = .ok (.iconst 2, 1) := by decide +kernel
theorem dL_holds_2 : decode cL_holds 2 = .ok (.iconst 0, 1) := by decide +kernel
theorem dL_holds_3 : decode cL_holds 3 = .ok (.iconst 0, 1) := by decide +kernel
theorem dL_holds_4 : decode cL_holds 4 = .ok (.iconst 0, 1) := by decide +kernel
theorem dL_holds_5 : decode cL_holds 5 = .ok (.invokestatic 192, 3) := by decide +kernel
theorem dL_holds_8 : decode cL_holds 8 = .ok (.istore_n 2, 1) := by decide +kernel
theorem dL_holds_9 : decode cL_holds 9 = .ok (.aload_n 0, 1) := by decide +kernel
theorem dL_holds_10 : decode cL_holds 10 = .ok (.iconst 2, 1) := by decide +kernel
theorem dL_holds_11 : decode cL_holds 11 = .ok (.iconst 2, 1) := by decide +kernel
theorem dL_holds_12 : decode cL_holds 12 = .ok (.iconst 0, 1) := by decide +kernel
theorem dL_holds_13 : decode cL_holds 13 = .ok (.iconst 0, 1) := by decide +kernel
theorem dL_holds_14 : decode cL_holds 14 = .ok (.invokestatic 192, 3) := by decide +kernel
theorem dL_holds_17 : decode cL_holds 17 = .ok (.iconst 1, 1) := by decide +kernel
theorem dL_holds_18 : decode cL_holds 18 = .ok (.if_icmp .ne 7, 3) := by decide +kernel
theorem dL_holds_21 : decode cL_holds 21 = .ok (.iconst 1, 1) := by decide +kernel
theorem dL_holds_22 : decode cL_holds 22 = .ok (.goto 4, 3) := by decide +kernel
theorem dL_holds_25 : decode cL_holds 25 = .ok (.iconst 0, 1) := by decide +kernel
theorem dL_holds_26 : decode cL_holds 26 = .ok (.istore_n 3, 1) := by decide +kernel
theorem dL_holds_27 : decode cL_holds 27 = .ok (.aload_n 0, 1) := by decide +kernel
theorem dL_holds_28 : decode cL_holds 28 = .ok (.invokevirtual 217, 3) := by decide +kernel
theorem dL_holds_31 : decode cL_holds 31 = .ok (.istore 4, 2) := by decide +kernel
theorem dL_holds_33 : decode cL_holds 33 = .ok (.iconst 0, 1) := by decide +kernel
theorem dL_holds_34 : decode cL_holds 34 = .ok (.istore 5, 2) := by decide +kernel
theorem dL_holds_36 : decode cL_holds 36 = .ok (.iconst 0, 1) := by decide +kernel
theorem dL_holds_37 : decode cL_holds 37 = .ok (.istore 6, 2) := by decide +kernel
theorem dL_holds_39 : decode cL_holds 39 = .ok (.iload 4, 2) := by decide +kernel
theorem dL_holds_41 : decode cL_holds 41 = .ok (.ifCond .lt 7, 3) := by decide +kernel
theorem dL_holds_44 : decode cL_holds 44 = .ok (.iconst 1, 1) := by decide +kernel
theorem dL_holds_45 : decode cL_holds 45 = .ok (.goto 4, 3) := by decide +kernel
theorem dL_holds_48 : decode cL_holds 48 = .ok (.iconst 0, 1) := by decide +kernel
theorem dL_holds_49 : decode cL_holds 49 = .ok (.istore 7, 2) := by decide +kernel
theorem dL_holds_51 : decode cL_holds 51 = .ok (.iconst 0, 1) := by decide +kernel
theorem dL_holds_52 : decode cL_holds 52 = .ok (.istore 8, 2) := by decide +kernel
theorem dL_holds_54 : decode cL_holds 54 = .ok (.iconst 0, 1) := by decide +kernel
theorem dL_holds_55 : decode cL_holds 55 = .ok (.istore 9, 2) := by decide +kernel
theorem dL_holds_57 : decode cL_holds 57 = .ok (.iconst 0, 1) := by decide +kernel
theorem dL_holds_58 : decode cL_holds 58 = .ok (.istore 10, 2) := by decide +kernel
theorem dL_holds_60 : decode cL_holds 60 = .ok (.iconst 0, 1) := by decide +kernel
theorem dL_holds_61 : decode cL_holds 61 = .ok (.istore 11, 2) := by decide +kernel
theorem dL_holds_63 : decode cL_holds 63 = .ok (.iload 11, 2) := by decide +kernel
theorem dL_holds_65 : decode cL_holds 65 = .ok (.iload_n 2, 1) := by decide +kernel
theorem dL_holds_66 : decode cL_holds 66 = .ok (.if_icmp .ge 319, 3) := by decide +kernel
theorem dL_holds_69 : decode cL_holds 69 = .ok (.iload 7, 2) := by decide +kernel
theorem dL_holds_71 : decode cL_holds 71 = .ok (.ifCond .eq 314, 3) := by decide +kernel
theorem dL_holds_74 : decode cL_holds 74 = .ok (.iconst 0, 1) := by decide +kernel
theorem dL_holds_75 : decode cL_holds 75 = .ok (.istore 12, 2) := by decide +kernel
theorem dL_holds_77 : decode cL_holds 77 = .ok (.iconst 0, 1) := by decide +kernel
theorem dL_holds_78 : decode cL_holds 78 = .ok (.istore 13, 2) := by decide +kernel
theorem dL_holds_80 : decode cL_holds 80 = .ok (.iload 13, 2) := by decide +kernel
theorem dL_holds_82 : decode cL_holds 82 = .ok (.iconst 3, 1) := by decide +kernel
theorem dL_holds_83 : decode cL_holds 83 = .ok (.if_icmp .ge 83, 3) := by decide +kernel
theorem dL_holds_86 : decode cL_holds 86 = .ok (.iload 7, 2) := by decide +kernel
theorem dL_holds_88 : decode cL_holds 88 = .ok (.ifCond .eq 78, 3) := by decide +kernel
theorem dL_holds_91 : decode cL_holds 91 = .ok (.aload_n 0, 1) := by decide +kernel
theorem dL_holds_92 : decode cL_holds 92 = .ok (.iconst 5, 1) := by decide +kernel
theorem dL_holds_93 : decode cL_holds 93 = .ok (.iload 11, 2) := by decide +kernel
theorem dL_holds_95 : decode cL_holds 95 = .ok (.iload 13, 2) := by decide +kernel
theorem dL_holds_97 : decode cL_holds 97 = .ok (.iconst 0, 1) := by decide +kernel
theorem dL_holds_98 : decode cL_holds 98 = .ok (.invokestatic 192, 3) := by decide +kernel
theorem dL_holds_101 : decode cL_holds 101 = .ok (.istore 14, 2) := by decide +kernel
theorem dL_holds_103 : decode cL_holds 103 = .ok (.iload 12, 2) := by decide +kernel
theorem dL_holds_105 : decode cL_holds 105 = .ok (.iload 14, 2) := by decide +kernel
theorem dL_holds_107 : decode cL_holds 107 = .ok (.aload_n 0, 1) := by decide +kernel
theorem dL_holds_108 : decode cL_holds 108 = .ok (.iconst 3, 1) := by decide +kernel
theorem dL_holds_109 : decode cL_holds 109 = .ok (.iload 13, 2) := by decide +kernel
theorem dL_holds_111 : decode cL_holds 111 = .ok (.iconst 1, 1) := by decide +kernel
theorem dL_holds_112 : decode cL_holds 112 = .ok (.iconst 0, 1) := by decide +kernel
theorem dL_holds_113 : decode cL_holds 113 = .ok (.invokestatic 192, 3) := by decide +kernel
theorem dL_holds_116 : decode cL_holds 116 = .ok (.imul, 1) := by decide +kernel
theorem dL_holds_117 : decode cL_holds 117 = .ok (.iadd, 1) := by decide +kernel
theorem dL_holds_118 : decode cL_holds 118 = .ok (.istore 12, 2) := by decide +kernel
theorem dL_holds_120 : decode cL_holds 120 = .ok (.iload 14, 2) := by decide +kernel
theorem dL_holds_122 : decode cL_holds 122 = .ok (.ifCond .lt 35, 3) := by decide +kernel
theorem dL_holds_125 : decode cL_holds 125 = .ok (.iload 14, 2) := by decide +kernel
theorem dL_holds_127 : decode cL_holds 127 = .ok (.aload_n 0, 1) := by decide +kernel
theorem dL_holds_128 : decode cL_holds 128 = .ok (.iconst 4, 1) := by decide +kernel
theorem dL_holds_129 : decode cL_holds 129 = .ok (.iload 11, 2) := by decide +kernel
theorem dL_holds_131 : decode cL_holds 131 = .ok (.iconst 1, 1) := by decide +kernel
theorem dL_holds_132 : decode cL_holds 132 = .ok (.iconst 0, 1) := by decide +kernel
theorem dL_holds_133 : decode cL_holds 133 = .ok (.invokestatic 192, 3) := by decide +kernel
theorem dL_holds_136 : decode cL_holds 136 = .ok (.if_icmp .gt 21, 3) := by decide +kernel
theorem dL_holds_139 : decode cL_holds 139 = .ok (.iload 14, 2) := by decide +kernel
theorem dL_holds_141 : decode cL_holds 141 = .ok (.aload_n 0, 1) := by decide +kernel
theorem dL_holds_142 : decode cL_holds 142 = .ok (.iconst 3, 1) := by decide +kernel
theorem dL_holds_143 : decode cL_holds 143 = .ok (.iload 13, 2) := by decide +kernel
theorem dL_holds_145 : decode cL_holds 145 = .ok (.iconst 0, 1) := by decide +kernel
theorem dL_holds_146 : decode cL_holds 146 = .ok (.iconst 0, 1) := by decide +kernel
theorem dL_holds_147 : decode cL_holds 147 = .ok (.invokestatic 192, 3) := by decide +kernel
theorem dL_holds_150 : decode cL_holds 150 = .ok (.if_icmp .gt 7, 3) := by decide +kernel
theorem dL_holds_153 : decode cL_holds 153 = .ok (.iconst 1, 1) := by decide +kernel
theorem dL_holds_154 : decode cL_holds 154 = .ok (.goto 4, 3) := by decide +kernel
theorem dL_holds_157 : decode cL_holds 157 = .ok (.iconst 0, 1) := by decide +kernel
theorem dL_holds_158 : decode cL_holds 158 = .ok (.istore 7, 2) := by decide +kernel
theorem dL_holds_160 : decode cL_holds 160 = .ok (.iinc 13 1, 3) := by decide +kernel
theorem dL_holds_163 : decode cL_holds 163 = .ok (.goto (-83), 3) := by decide +kernel
theorem dL_holds_166 : decode cL_holds 166 = .ok (.aload_n 0, 1) := by decide +kernel
theorem dL_holds_167 : decode cL_holds 167 = .ok (.bipush 18, 2) := by decide +kernel
theorem dL_holds_169 : decode cL_holds 169 = .ok (.iload 11, 2) := by decide +kernel
theorem dL_holds_171 : decode cL_holds 171 = .ok (.iconst 0, 1) := by decide +kernel
theorem dL_holds_172 : decode cL_holds 172 = .ok (.iconst 0, 1) := by decide +kernel
theorem dL_holds_173 : decode cL_holds 173 = .ok (.invokestatic 192, 3) := by decide +kernel
theorem dL_holds_176 : decode cL_holds 176 = .ok (.istore 13, 2) := by decide +kernel
theorem dL_holds_178 : decode cL_holds 178 = .ok (.aload_n 0, 1) := by decide +kernel
theorem dL_holds_179 : decode cL_holds 179 = .ok (.bipush 19, 2) := by decide +kernel
theorem dL_holds_181 : decode cL_holds 181 = .ok (.iload 11, 2) := by decide +kernel
theorem dL_holds_183 : decode cL_holds 183 = .ok (.iconst 0, 1) := by decide +kernel
theorem dL_holds_184 : decode cL_holds 184 = .ok (.iconst 0, 1) := by decide +kernel
theorem dL_holds_185 : decode cL_holds 185 = .ok (.invokestatic 192, 3) := by decide +kernel
theorem dL_holds_188 : decode cL_holds 188 = .ok (.istore 14, 2) := by decide +kernel
theorem dL_holds_190 : decode cL_holds 190 = .ok (.iload 13, 2) := by decide +kernel
theorem dL_holds_192 : decode cL_holds 192 = .ok (.iconst (-1), 1) := by decide +kernel
theorem dL_holds_193 : decode cL_holds 193 = .ok (.if_icmp .ne 7, 3) := by decide +kernel
theorem dL_holds_196 : decode cL_holds 196 = .ok (.iconst 0, 1) := by decide +kernel
theorem dL_holds_197 : decode cL_holds 197 = .ok (.goto 14, 3) := by decide +kernel
theorem dL_holds_200 : decode cL_holds 200 = .ok (.aload_n 0, 1) := by decide +kernel
theorem dL_holds_201 : decode cL_holds 201 = .ok (.bipush 6, 2) := by decide +kernel
theorem dL_holds_203 : decode cL_holds 203 = .ok (.iload 11, 2) := by decide +kernel
theorem dL_holds_205 : decode cL_holds 205 = .ok (.iload 13, 2) := by decide +kernel
theorem dL_holds_207 : decode cL_holds 207 = .ok (.iconst 3, 1) := by decide +kernel
theorem dL_holds_208 : decode cL_holds 208 = .ok (.invokestatic 192, 3) := by decide +kernel
theorem dL_holds_211 : decode cL_holds 211 = .ok (.istore 15, 2) := by decide +kernel
theorem dL_holds_213 : decode cL_holds 213 = .ok (.iload 5, 2) := by decide +kernel
theorem dL_holds_215 : decode cL_holds 215 = .ok (.iload 15, 2) := by decide +kernel
theorem dL_holds_217 : decode cL_holds 217 = .ok (.iadd, 1) := by decide +kernel
theorem dL_holds_218 : decode cL_holds 218 = .ok (.istore 5, 2) := by decide +kernel
theorem dL_holds_220 : decode cL_holds 220 = .ok (.iload 8, 2) := by decide +kernel
theorem dL_holds_222 : decode cL_holds 222 = .ok (.iload 13, 2) := by decide +kernel
theorem dL_holds_224 : decode cL_holds 224 = .ok (.iconst (-1), 1) := by decide +kernel
theorem dL_holds_225 : decode cL_holds 225 = .ok (.if_icmp .ne 7, 3) := by decide +kernel
theorem dL_holds_228 : decode cL_holds 228 = .ok (.iconst 0, 1) := by decide +kernel
theorem dL_holds_229 : decode cL_holds 229 = .ok (.goto 14, 3) := by decide +kernel
theorem dL_holds_232 : decode cL_holds 232 = .ok (.aload_n 0, 1) := by decide +kernel
theorem dL_holds_233 : decode cL_holds 233 = .ok (.bipush 6, 2) := by decide +kernel
theorem dL_holds_235 : decode cL_holds 235 = .ok (.iload 11, 2) := by decide +kernel
theorem dL_holds_237 : decode cL_holds 237 = .ok (.iload 13, 2) := by decide +kernel
theorem dL_holds_239 : decode cL_holds 239 = .ok (.iconst 0, 1) := by decide +kernel
theorem dL_holds_240 : decode cL_holds 240 = .ok (.invokestatic 192, 3) := by decide +kernel
theorem dL_holds_243 : decode cL_holds 243 = .ok (.iadd, 1) := by decide +kernel
theorem dL_holds_244 : decode cL_holds 244 = .ok (.istore 8, 2) := by decide +kernel
theorem dL_holds_246 : decode cL_holds 246 = .ok (.iload 9, 2) := by decide +kernel
theorem dL_holds_248 : decode cL_holds 248 = .ok (.iload 13, 2) := by decide +kernel
theorem dL_holds_250 : decode cL_holds 250 = .ok (.iconst (-1), 1) := by decide +kernel
theorem dL_holds_251 : decode cL_holds 251 = .ok (.if_icmp .ne 7, 3) := by decide +kernel
theorem dL_holds_254 : decode cL_holds 254 = .ok (.iconst 0, 1) := by decide +kernel
theorem dL_holds_255 : decode cL_holds 255 = .ok (.goto 14, 3) := by decide +kernel
theorem dL_holds_258 : decode cL_holds 258 = .ok (.aload_n 0, 1) := by decide +kernel
theorem dL_holds_259 : decode cL_holds 259 = .ok (.bipush 6, 2) := by decide +kernel
theorem dL_holds_261 : decode cL_holds 261 = .ok (.iload 11, 2) := by decide +kernel
theorem dL_holds_263 : decode cL_holds 263 = .ok (.iload 13, 2) := by decide +kernel
theorem dL_holds_265 : decode cL_holds 265 = .ok (.iconst 1, 1) := by decide +kernel
theorem dL_holds_266 : decode cL_holds 266 = .ok (.invokestatic 192, 3) := by decide +kernel
theorem dL_holds_269 : decode cL_holds 269 = .ok (.iadd, 1) := by decide +kernel
theorem dL_holds_270 : decode cL_holds 270 = .ok (.istore 9, 2) := by decide +kernel
theorem dL_holds_272 : decode cL_holds 272 = .ok (.iload 10, 2) := by decide +kernel
theorem dL_holds_274 : decode cL_holds 274 = .ok (.iload 13, 2) := by decide +kernel
theorem dL_holds_276 : decode cL_holds 276 = .ok (.iconst (-1), 1) := by decide +kernel
theorem dL_holds_277 : decode cL_holds 277 = .ok (.if_icmp .ne 7, 3) := by decide +kernel
theorem dL_holds_280 : decode cL_holds 280 = .ok (.iconst 0, 1) := by decide +kernel
theorem dL_holds_281 : decode cL_holds 281 = .ok (.goto 14, 3) := by decide +kernel
theorem dL_holds_284 : decode cL_holds 284 = .ok (.aload_n 0, 1) := by decide +kernel
theorem dL_holds_285 : decode cL_holds 285 = .ok (.bipush 6, 2) := by decide +kernel
theorem dL_holds_287 : decode cL_holds 287 = .ok (.iload 11, 2) := by decide +kernel
theorem dL_holds_289 : decode cL_holds 289 = .ok (.iload 13, 2) := by decide +kernel
theorem dL_holds_291 : decode cL_holds 291 = .ok (.iconst 2, 1) := by decide +kernel
theorem dL_holds_292 : decode cL_holds 292 = .ok (.invokestatic 192, 3) := by decide +kernel
theorem dL_holds_295 : decode cL_holds 295 = .ok (.iadd, 1) := by decide +kernel
theorem dL_holds_296 : decode cL_holds 296 = .ok (.istore 10, 2) := by decide +kernel
theorem dL_holds_298 : decode cL_holds 298 = .ok (.iload 6, 2) := by decide +kernel
theorem dL_holds_300 : decode cL_holds 300 = .ok (.aload_n 0, 1) := by decide +kernel
theorem dL_holds_301 : decode cL_holds 301 = .ok (.bipush 6, 2) := by decide +kernel
theorem dL_holds_303 : decode cL_holds 303 = .ok (.iload 11, 2) := by decide +kernel
theorem dL_holds_305 : decode cL_holds 305 = .ok (.iconst 0, 1) := by decide +kernel
theorem dL_holds_306 : decode cL_holds 306 = .ok (.iconst 3, 1) := by decide +kernel
theorem dL_holds_307 : decode cL_holds 307 = .ok (.invokestatic 192, 3) := by decide +kernel
theorem dL_holds_310 : decode cL_holds 310 = .ok (.iadd, 1) := by decide +kernel
theorem dL_holds_311 : decode cL_holds 311 = .ok (.istore 6, 2) := by decide +kernel
theorem dL_holds_313 : decode cL_holds 313 = .ok (.iload 7, 2) := by decide +kernel
theorem dL_holds_315 : decode cL_holds 315 = .ok (.ifCond .eq 61, 3) := by decide +kernel
theorem dL_holds_318 : decode cL_holds 318 = .ok (.iload 12, 2) := by decide +kernel
theorem dL_holds_320 : decode cL_holds 320 = .ok (.aload_n 0, 1) := by decide +kernel
theorem dL_holds_321 : decode cL_holds 321 = .ok (.iconst 4, 1) := by decide +kernel
theorem dL_holds_322 : decode cL_holds 322 = .ok (.iload 11, 2) := by decide +kernel
theorem dL_holds_324 : decode cL_holds 324 = .ok (.iconst 2, 1) := by decide +kernel
theorem dL_holds_325 : decode cL_holds 325 = .ok (.iconst 0, 1) := by decide +kernel
theorem dL_holds_326 : decode cL_holds 326 = .ok (.invokestatic 192, 3) := by decide +kernel
theorem dL_holds_329 : decode cL_holds 329 = .ok (.if_icmp .ne 47, 3) := by decide +kernel
theorem dL_holds_332 : decode cL_holds 332 = .ok (.iload 12, 2) := by decide +kernel
theorem dL_holds_334 : decode cL_holds 334 = .ok (.aload_n 0, 1) := by decide +kernel
theorem dL_holds_335 : decode cL_holds 335 = .ok (.iconst 4, 1) := by decide +kernel
theorem dL_holds_336 : decode cL_holds 336 = .ok (.iload 11, 2) := by decide +kernel
theorem dL_holds_338 : decode cL_holds 338 = .ok (.iconst 0, 1) := by decide +kernel
theorem dL_holds_339 : decode cL_holds 339 = .ok (.iconst 0, 1) := by decide +kernel
theorem dL_holds_340 : decode cL_holds 340 = .ok (.invokestatic 192, 3) := by decide +kernel
theorem dL_holds_343 : decode cL_holds 343 = .ok (.if_icmp .gt 33, 3) := by decide +kernel
theorem dL_holds_346 : decode cL_holds 346 = .ok (.iload 13, 2) := by decide +kernel
theorem dL_holds_348 : decode cL_holds 348 = .ok (.aload_n 0, 1) := by decide +kernel
theorem dL_holds_349 : decode cL_holds 349 = .ok (.iconst 4, 1) := by decide +kernel
theorem dL_holds_350 : decode cL_holds 350 = .ok (.iload 11, 2) := by decide +kernel
theorem dL_holds_352 : decode cL_holds 352 = .ok (.iconst 3, 1) := by decide +kernel
theorem dL_holds_353 : decode cL_holds 353 = .ok (.iconst 0, 1) := by decide +kernel
theorem dL_holds_354 : decode cL_holds 354 = .ok (.invokestatic 192, 3) := by decide +kernel
theorem dL_holds_357 : decode cL_holds 357 = .ok (.if_icmp .gt 19, 3) := by decide +kernel
theorem dL_holds_360 : decode cL_holds 360 = .ok (.iload 14, 2) := by decide +kernel
theorem dL_holds_362 : decode cL_holds 362 = .ok (.ifCond .lt 14, 3) := by decide +kernel
theorem dL_holds_365 : decode cL_holds 365 = .ok (.iload 14, 2) := by decide +kernel
theorem dL_holds_367 : decode cL_holds 367 = .ok (.iload 15, 2) := by decide +kernel
theorem dL_holds_369 : decode cL_holds 369 = .ok (.if_icmp .gt 7, 3) := by decide +kernel
theorem dL_holds_372 : decode cL_holds 372 = .ok (.iconst 1, 1) := by decide +kernel
theorem dL_holds_373 : decode cL_holds 373 = .ok (.goto 4, 3) := by decide +kernel
theorem dL_holds_376 : decode cL_holds 376 = .ok (.iconst 0, 1) := by decide +kernel
theorem dL_holds_377 : decode cL_holds 377 = .ok (.istore 7, 2) := by decide +kernel
theorem dL_holds_379 : decode cL_holds 379 = .ok (.iinc 11 1, 3) := by decide +kernel
theorem dL_holds_382 : decode cL_holds 382 = .ok (.goto (-319), 3) := by decide +kernel
theorem dL_holds_385 : decode cL_holds 385 = .ok (.iload 7, 2) := by decide +kernel
theorem dL_holds_387 : decode cL_holds 387 = .ok (.ifCond .eq 105, 3) := by decide +kernel
theorem dL_holds_390 : decode cL_holds 390 = .ok (.iload 5, 2) := by decide +kernel
theorem dL_holds_392 : decode cL_holds 392 = .ok (.iload 4, 2) := by decide +kernel
theorem dL_holds_394 : decode cL_holds 394 = .ok (.if_icmp .ne 98, 3) := by decide +kernel
theorem dL_holds_397 : decode cL_holds 397 = .ok (.iload 8, 2) := by decide +kernel
theorem dL_holds_399 : decode cL_holds 399 = .ok (.aload_n 0, 1) := by decide +kernel
theorem dL_holds_400 : decode cL_holds 400 = .ok (.iconst 3, 1) := by decide +kernel
theorem dL_holds_401 : decode cL_holds 401 = .ok (.iconst 0, 1) := by decide +kernel
theorem dL_holds_402 : decode cL_holds 402 = .ok (.iconst 0, 1) := by decide +kernel
theorem dL_holds_403 : decode cL_holds 403 = .ok (.iconst 0, 1) := by decide +kernel
theorem dL_holds_404 : decode cL_holds 404 = .ok (.invokestatic 192, 3) := by decide +kernel
theorem dL_holds_407 : decode cL_holds 407 = .ok (.if_icmp .gt 85, 3) := by decide +kernel
theorem dL_holds_410 : decode cL_holds 410 = .ok (.iload 9, 2) := by decide +kernel
theorem dL_holds_412 : decode cL_holds 412 = .ok (.aload_n 0, 1) := by decide +kernel
theorem dL_holds_413 : decode cL_holds 413 = .ok (.iconst 3, 1) := by decide +kernel
theorem dL_holds_414 : decode cL_holds 414 = .ok (.iconst 1, 1) := by decide +kernel
theorem dL_holds_415 : decode cL_holds 415 = .ok (.iconst 0, 1) := by decide +kernel
theorem dL_holds_416 : decode cL_holds 416 = .ok (.iconst 0, 1) := by decide +kernel
theorem dL_holds_417 : decode cL_holds 417 = .ok (.invokestatic 192, 3) := by decide +kernel
theorem dL_holds_420 : decode cL_holds 420 = .ok (.if_icmp .gt 72, 3) := by decide +kernel
theorem dL_holds_423 : decode cL_holds 423 = .ok (.iload 10, 2) := by decide +kernel
theorem dL_holds_425 : decode cL_holds 425 = .ok (.aload_n 0, 1) := by decide +kernel
theorem dL_holds_426 : decode cL_holds 426 = .ok (.iconst 3, 1) := by decide +kernel
theorem dL_holds_427 : decode cL_holds 427 = .ok (.iconst 2, 1) := by decide +kernel
theorem dL_holds_428 : decode cL_holds 428 = .ok (.iconst 0, 1) := by decide +kernel
theorem dL_holds_429 : decode cL_holds 429 = .ok (.iconst 0, 1) := by decide +kernel
theorem dL_holds_430 : decode cL_holds 430 = .ok (.invokestatic 192, 3) := by decide +kernel
theorem dL_holds_433 : decode cL_holds 433 = .ok (.if_icmp .gt 59, 3) := by decide +kernel
theorem dL_holds_436 : decode cL_holds 436 = .ok (.iload 6, 2) := by decide +kernel
theorem dL_holds_438 : decode cL_holds 438 = .ok (.aload_n 0, 1) := by decide +kernel
theorem dL_holds_439 : decode cL_holds 439 = .ok (.iconst 2, 1) := by decide +kernel
theorem dL_holds_440 : decode cL_holds 440 = .ok (.iconst 5, 1) := by decide +kernel
theorem dL_holds_441 : decode cL_holds 441 = .ok (.iconst 0, 1) := by decide +kernel
theorem dL_holds_442 : decode cL_holds 442 = .ok (.iconst 0, 1) := by decide +kernel
theorem dL_holds_443 : decode cL_holds 443 = .ok (.invokestatic 192, 3) := by decide +kernel
theorem dL_holds_446 : decode cL_holds 446 = .ok (.if_icmp .ne 46, 3) := by decide +kernel
theorem dL_holds_449 : decode cL_holds 449 = .ok (.aload_n 0, 1) := by decide +kernel
theorem dL_holds_450 : decode cL_holds 450 = .ok (.bipush 20, 2) := by decide +kernel
theorem dL_holds_452 : decode cL_holds 452 = .ok (.iload_n 1, 1) := by decide +kernel
theorem dL_holds_453 : decode cL_holds 453 = .ok (.iconst 3, 1) := by decide +kernel
theorem dL_holds_454 : decode cL_holds 454 = .ok (.irem, 1) := by decide +kernel
theorem dL_holds_455 : decode cL_holds 455 = .ok (.iconst 0, 1) := by decide +kernel
theorem dL_holds_456 : decode cL_holds 456 = .ok (.iconst 0, 1) := by decide +kernel
theorem dL_holds_457 : decode cL_holds 457 = .ok (.invokestatic 192, 3) := by decide +kernel
theorem dL_holds_460 : decode cL_holds 460 = .ok (.ifCond .lt 32, 3) := by decide +kernel
theorem dL_holds_463 : decode cL_holds 463 = .ok (.aload_n 0, 1) := by decide +kernel
theorem dL_holds_464 : decode cL_holds 464 = .ok (.invokevirtual 220, 3) := by decide +kernel
theorem dL_holds_467 : decode cL_holds 467 = .ok (.iconst (-1), 1) := by decide +kernel
theorem dL_holds_468 : decode cL_holds 468 = .ok (.if_icmp .ne 7, 3) := by decide +kernel
theorem dL_holds_471 : decode cL_holds 471 = .ok (.iconst 1, 1) := by decide +kernel
theorem dL_holds_472 : decode cL_holds 472 = .ok (.goto 4, 3) := by decide +kernel
theorem dL_holds_475 : decode cL_holds 475 = .ok (.iconst 0, 1) := by decide +kernel
theorem dL_holds_476 : decode cL_holds 476 = .ok (.iload_n 2, 1) := by decide +kernel
theorem dL_holds_477 : decode cL_holds 477 = .ok (.ifCond .ne 7, 3) := by decide +kernel
theorem dL_holds_480 : decode cL_holds 480 = .ok (.iconst 1, 1) := by decide +kernel
theorem dL_holds_481 : decode cL_holds 481 = .ok (.goto 4, 3) := by decide +kernel
theorem dL_holds_484 : decode cL_holds 484 = .ok (.iconst 0, 1) := by decide +kernel
theorem dL_holds_485 : decode cL_holds 485 = .ok (.if_icmp .ne 7, 3) := by decide +kernel
theorem dL_holds_488 : decode cL_holds 488 = .ok (.iconst 1, 1) := by decide +kernel
theorem dL_holds_489 : decode cL_holds 489 = .ok (.goto 4, 3) := by decide +kernel
theorem dL_holds_492 : decode cL_holds 492 = .ok (.iconst 0, 1) := by decide +kernel
theorem dL_holds_493 : decode cL_holds 493 = .ok (.istore 7, 2) := by decide +kernel
theorem dL_holds_495 : decode cL_holds 495 = .ok (.aload_n 0, 1) := by decide +kernel
theorem dL_holds_496 : decode cL_holds 496 = .ok (.invokevirtual 223, 3) := by decide +kernel
theorem dL_holds_499 : decode cL_holds 499 = .ok (.istore 11, 2) := by decide +kernel
theorem dL_holds_501 : decode cL_holds 501 = .ok (.iload_n 1, 1) := by decide +kernel
theorem dL_holds_502 : decode cL_holds 502 = .ok (.iconst 3, 1) := by decide +kernel
theorem dL_holds_503 : decode cL_holds 503 = .ok (.irem, 1) := by decide +kernel
theorem dL_holds_504 : decode cL_holds 504 = .ok (.istore 12, 2) := by decide +kernel
theorem dL_holds_506 : decode cL_holds 506 = .ok (.aload_n 0, 1) := by decide +kernel
theorem dL_holds_507 : decode cL_holds 507 = .ok (.bipush 22, 2) := by decide +kernel
theorem dL_holds_509 : decode cL_holds 509 = .ok (.iload 12, 2) := by decide +kernel
theorem dL_holds_511 : decode cL_holds 511 = .ok (.iconst 0, 1) := by decide +kernel
theorem dL_holds_512 : decode cL_holds 512 = .ok (.iconst 0, 1) := by decide +kernel
theorem dL_holds_513 : decode cL_holds 513 = .ok (.invokestatic 192, 3) := by decide +kernel
theorem dL_holds_516 : decode cL_holds 516 = .ok (.istore 13, 2) := by decide +kernel
theorem dL_holds_518 : decode cL_holds 518 = .ok (.aload_n 0, 1) := by decide +kernel
theorem dL_holds_519 : decode cL_holds 519 = .ok (.iconst 3, 1) := by decide +kernel
theorem dL_holds_520 : decode cL_holds 520 = .ok (.iload 12, 2) := by decide +kernel
theorem dL_holds_522 : decode cL_holds 522 = .ok (.iconst 2, 1) := by decide +kernel
theorem dL_holds_523 : decode cL_holds 523 = .ok (.iconst 0, 1) := by decide +kernel
theorem dL_holds_524 : decode cL_holds 524 = .ok (.invokestatic 192, 3) := by decide +kernel
theorem dL_holds_527 : decode cL_holds 527 = .ok (.istore 14, 2) := by decide +kernel
theorem dL_holds_529 : decode cL_holds 529 = .ok (.iload 7, 2) := by decide +kernel
theorem dL_holds_531 : decode cL_holds 531 = .ok (.ifCond .eq 45, 3) := by decide +kernel
theorem dL_holds_534 : decode cL_holds 534 = .ok (.iload 13, 2) := by decide +kernel
theorem dL_holds_536 : decode cL_holds 536 = .ok (.iload 14, 2) := by decide +kernel
theorem dL_holds_538 : decode cL_holds 538 = .ok (.if_icmp .lt 38, 3) := by decide +kernel
theorem dL_holds_541 : decode cL_holds 541 = .ok (.iload_n 3, 1) := by decide +kernel
theorem dL_holds_542 : decode cL_holds 542 = .ok (.ifCond .eq 18, 3) := by decide +kernel
theorem dL_holds_545 : decode cL_holds 545 = .ok (.iload 11, 2) := by decide +kernel
theorem dL_holds_547 : decode cL_holds 547 = .ok (.ifCond .ne 29, 3) := by decide +kernel
theorem dL_holds_550 : decode cL_holds 550 = .ok (.iload 13, 2) := by decide +kernel
theorem dL_holds_552 : decode cL_holds 552 = .ok (.iload 14, 2) := by decide +kernel
theorem dL_holds_554 : decode cL_holds 554 = .ok (.if_icmp .ne 22, 3) := by decide +kernel
theorem dL_holds_557 : decode cL_holds 557 = .ok (.goto 15, 3) := by decide +kernel
theorem dL_holds_560 : decode cL_holds 560 = .ok (.iload 11, 2) := by decide +kernel
theorem dL_holds_562 : decode cL_holds 562 = .ok (.iconst (-1), 1) := by decide +kernel
theorem dL_holds_563 : decode cL_holds 563 = .ok (.if_icmp .eq 9, 3) := by decide +kernel
theorem dL_holds_566 : decode cL_holds 566 = .ok (.iload 11, 2) := by decide +kernel
theorem dL_holds_568 : decode cL_holds 568 = .ok (.iconst 1, 1) := by decide +kernel
theorem dL_holds_569 : decode cL_holds 569 = .ok (.if_icmp .lt 7, 3) := by decide +kernel
theorem dL_holds_572 : decode cL_holds 572 = .ok (.iconst 1, 1) := by decide +kernel
theorem dL_holds_573 : decode cL_holds 573 = .ok (.goto 4, 3) := by decide +kernel
theorem dL_holds_576 : decode cL_holds 576 = .ok (.iconst 0, 1) := by decide +kernel
theorem dL_holds_577 : decode cL_holds 577 = .ok (.istore 7, 2) := by decide +kernel
theorem dL_holds_579 : decode cL_holds 579 = .ok (.iconst 0, 1) := by decide +kernel
theorem dL_holds_580 : decode cL_holds 580 = .ok (.istore 15, 2) := by decide +kernel
theorem dL_holds_582 : decode cL_holds 582 = .ok (.iload_n 3, 1) := by decide +kernel
theorem dL_holds_583 : decode cL_holds 583 = .ok (.ifCond .ne 231, 3) := by decide +kernel
theorem dL_holds_586 : decode cL_holds 586 = .ok (.iload_n 2, 1) := by decide +kernel
theorem dL_holds_587 : decode cL_holds 587 = .ok (.ifCond .le 227, 3) := by decide +kernel
theorem dL_holds_590 : decode cL_holds 590 = .ok (.iload 7, 2) := by decide +kernel
theorem dL_holds_592 : decode cL_holds 592 = .ok (.ifCond .eq 222, 3) := by decide +kernel
theorem dL_holds_595 : decode cL_holds 595 = .ok (.iload_n 1, 1) := by decide +kernel
theorem dL_holds_596 : decode cL_holds 596 = .ok (.bipush 8, 2) := by decide +kernel
theorem dL_holds_598 : decode cL_holds 598 = .ok (.idiv, 1) := by decide +kernel
theorem dL_holds_599 : decode cL_holds 599 = .ok (.iload_n 2, 1) := by decide +kernel
theorem dL_holds_600 : decode cL_holds 600 = .ok (.irem, 1) := by decide +kernel
theorem dL_holds_601 : decode cL_holds 601 = .ok (.istore 16, 2) := by decide +kernel
theorem dL_holds_603 : decode cL_holds 603 = .ok (.aload_n 0, 1) := by decide +kernel
theorem dL_holds_604 : decode cL_holds 604 = .ok (.iconst 4, 1) := by decide +kernel
theorem dL_holds_605 : decode cL_holds 605 = .ok (.iload 16, 2) := by decide +kernel
theorem dL_holds_607 : decode cL_holds 607 = .ok (.iconst 4, 1) := by decide +kernel
theorem dL_holds_608 : decode cL_holds 608 = .ok (.iconst 0, 1) := by decide +kernel
theorem dL_holds_609 : decode cL_holds 609 = .ok (.invokestatic 192, 3) := by decide +kernel
theorem dL_holds_612 : decode cL_holds 612 = .ok (.istore 17, 2) := by decide +kernel
theorem dL_holds_614 : decode cL_holds 614 = .ok (.aload_n 0, 1) := by decide +kernel
theorem dL_holds_615 : decode cL_holds 615 = .ok (.bipush 21, 2) := by decide +kernel
theorem dL_holds_617 : decode cL_holds 617 = .ok (.iload 16, 2) := by decide +kernel
theorem dL_holds_619 : decode cL_holds 619 = .ok (.iload 12, 2) := by decide +kernel
theorem dL_holds_621 : decode cL_holds 621 = .ok (.iconst 0, 1) := by decide +kernel
theorem dL_holds_622 : decode cL_holds 622 = .ok (.invokestatic 192, 3) := by decide +kernel
theorem dL_holds_625 : decode cL_holds 625 = .ok (.istore 18, 2) := by decide +kernel
theorem dL_holds_627 : decode cL_holds 627 = .ok (.aload_n 0, 1) := by decide +kernel
theorem dL_holds_628 : decode cL_holds 628 = .ok (.bipush 13, 2) := by decide +kernel
theorem dL_holds_630 : decode cL_holds 630 = .ok (.iload 16, 2) := by decide +kernel
theorem dL_holds_632 : decode cL_holds 632 = .ok (.iconst 0, 1) := by decide +kernel
theorem dL_holds_633 : decode cL_holds 633 = .ok (.iconst 0, 1) := by decide +kernel
theorem dL_holds_634 : decode cL_holds 634 = .ok (.invokestatic 192, 3) := by decide +kernel
theorem dL_holds_637 : decode cL_holds 637 = .ok (.istore 19, 2) := by decide +kernel
theorem dL_holds_639 : decode cL_holds 639 = .ok (.iload 19, 2) := by decide +kernel
theorem dL_holds_641 : decode cL_holds 641 = .ok (.iload 17, 2) := by decide +kernel
theorem dL_holds_643 : decode cL_holds 643 = .ok (.if_icmp .lt 41, 3) := by decide +kernel
theorem dL_holds_646 : decode cL_holds 646 = .ok (.iload 19, 2) := by decide +kernel
theorem dL_holds_648 : decode cL_holds 648 = .ok (.ifCond .lt 36, 3) := by decide +kernel
theorem dL_holds_651 : decode cL_holds 651 = .ok (.aload_n 0, 1) := by decide +kernel
theorem dL_holds_652 : decode cL_holds 652 = .ok (.iconst 5, 1) := by decide +kernel
theorem dL_holds_653 : decode cL_holds 653 = .ok (.iload 16, 2) := by decide +kernel
theorem dL_holds_655 : decode cL_holds 655 = .ok (.iload 12, 2) := by decide +kernel
theorem dL_holds_657 : decode cL_holds 657 = .ok (.iconst 0, 1) := by decide +kernel
theorem dL_holds_658 : decode cL_holds 658 = .ok (.invokestatic 192, 3) := by decide +kernel
theorem dL_holds_661 : decode cL_holds 661 = .ok (.iload 18, 2) := by decide +kernel
theorem dL_holds_663 : decode cL_holds 663 = .ok (.if_icmp .ne 21, 3) := by decide +kernel
theorem dL_holds_666 : decode cL_holds 666 = .ok (.aload_n 0, 1) := by decide +kernel
theorem dL_holds_667 : decode cL_holds 667 = .ok (.iconst 4, 1) := by decide +kernel
theorem dL_holds_668 : decode cL_holds 668 = .ok (.iload 16, 2) := by decide +kernel
theorem dL_holds_670 : decode cL_holds 670 = .ok (.iconst 4, 1) := by decide +kernel
theorem dL_holds_671 : decode cL_holds 671 = .ok (.iconst 0, 1) := by decide +kernel
theorem dL_holds_672 : decode cL_holds 672 = .ok (.invokestatic 192, 3) := by decide +kernel
theorem dL_holds_675 : decode cL_holds 675 = .ok (.iload 19, 2) := by decide +kernel
theorem dL_holds_677 : decode cL_holds 677 = .ok (.if_icmp .ne 7, 3) := by decide +kernel
theorem dL_holds_680 : decode cL_holds 680 = .ok (.iconst 1, 1) := by decide +kernel
theorem dL_holds_681 : decode cL_holds 681 = .ok (.goto 4, 3) := by decide +kernel
theorem dL_holds_684 : decode cL_holds 684 = .ok (.iconst 0, 1) := by decide +kernel
theorem dL_holds_685 : decode cL_holds 685 = .ok (.istore 7, 2) := by decide +kernel
theorem dL_holds_687 : decode cL_holds 687 = .ok (.aload_n 0, 1) := by decide +kernel
theorem dL_holds_688 : decode cL_holds 688 = .ok (.iconst 4, 1) := by decide +kernel
theorem dL_holds_689 : decode cL_holds 689 = .ok (.iload 16, 2) := by decide +kernel
theorem dL_holds_691 : decode cL_holds 691 = .ok (.iconst 0, 1) := by decide +kernel
theorem dL_holds_692 : decode cL_holds 692 = .ok (.iconst 0, 1) := by decide +kernel
theorem dL_holds_693 : decode cL_holds 693 = .ok (.invokestatic 192, 3) := by decide +kernel
theorem dL_holds_696 : decode cL_holds 696 = .ok (.istore 20, 2) := by decide +kernel
theorem dL_holds_698 : decode cL_holds 698 = .ok (.aload_n 0, 1) := by decide +kernel
theorem dL_holds_699 : decode cL_holds 699 = .ok (.iconst 2, 1) := by decide +kernel
theorem dL_holds_700 : decode cL_holds 700 = .ok (.iconst 3, 1) := by decide +kernel
theorem dL_holds_701 : decode cL_holds 701 = .ok (.iconst 0, 1) := by decide +kernel
theorem dL_holds_702 : decode cL_holds 702 = .ok (.iconst 0, 1) := by decide +kernel
theorem dL_holds_703 : decode cL_holds 703 = .ok (.invokestatic 192, 3) := by decide +kernel
theorem dL_holds_706 : decode cL_holds 706 = .ok (.istore 21, 2) := by decide +kernel
theorem dL_holds_708 : decode cL_holds 708 = .ok (.iload 7, 2) := by decide +kernel
theorem dL_holds_710 : decode cL_holds 710 = .ok (.ifCond .eq 101, 3) := by decide +kernel
theorem dL_holds_713 : decode cL_holds 713 = .ok (.aload_n 0, 1) := by decide +kernel
theorem dL_holds_714 : decode cL_holds 714 = .ok (.bipush 14, 2) := by decide +kernel
theorem dL_holds_716 : decode cL_holds 716 = .ok (.iconst 0, 1) := by decide +kernel
theorem dL_holds_717 : decode cL_holds 717 = .ok (.iconst 0, 1) := by decide +kernel
theorem dL_holds_718 : decode cL_holds 718 = .ok (.iconst 0, 1) := by decide +kernel
theorem dL_holds_719 : decode cL_holds 719 = .ok (.invokestatic 192, 3) := by decide +kernel
theorem dL_holds_722 : decode cL_holds 722 = .ok (.iload 21, 2) := by decide +kernel
theorem dL_holds_724 : decode cL_holds 724 = .ok (.if_icmp .ne 87, 3) := by decide +kernel
theorem dL_holds_727 : decode cL_holds 727 = .ok (.aload_n 0, 1) := by decide +kernel
theorem dL_holds_728 : decode cL_holds 728 = .ok (.iconst 2, 1) := by decide +kernel
theorem dL_holds_729 : decode cL_holds 729 = .ok (.iconst 2, 1) := by decide +kernel
theorem dL_holds_730 : decode cL_holds 730 = .ok (.iconst 0, 1) := by decide +kernel
theorem dL_holds_731 : decode cL_holds 731 = .ok (.iconst 0, 1) := by decide +kernel
theorem dL_holds_732 : decode cL_holds 732 = .ok (.invokestatic 192, 3) := by decide +kernel
theorem dL_holds_735 : decode cL_holds 735 = .ok (.iload 21, 2) := by decide +kernel
theorem dL_holds_737 : decode cL_holds 737 = .ok (.ifCond .ne 7, 3) := by decide +kernel
theorem dL_holds_740 : decode cL_holds 740 = .ok (.iconst 1, 1) := by decide +kernel
theorem dL_holds_741 : decode cL_holds 741 = .ok (.goto 4, 3) := by decide +kernel
theorem dL_holds_744 : decode cL_holds 744 = .ok (.iconst 0, 1) := by decide +kernel
theorem dL_holds_745 : decode cL_holds 745 = .ok (.if_icmp .ne 66, 3) := by decide +kernel
theorem dL_holds_748 : decode cL_holds 748 = .ok (.aload_n 0, 1) := by decide +kernel
theorem dL_holds_749 : decode cL_holds 749 = .ok (.iconst 4, 1) := by decide +kernel
theorem dL_holds_750 : decode cL_holds 750 = .ok (.iload 16, 2) := by decide +kernel
theorem dL_holds_752 : decode cL_holds 752 = .ok (.iconst 0, 1) := by decide +kernel
theorem dL_holds_753 : decode cL_holds 753 = .ok (.iconst 0, 1) := by decide +kernel
theorem dL_holds_754 : decode cL_holds 754 = .ok (.invokestatic 192, 3) := by decide +kernel
theorem dL_holds_757 : decode cL_holds 757 = .ok (.iload 20, 2) := by decide +kernel
theorem dL_holds_759 : decode cL_holds 759 = .ok (.if_icmp .gt 52, 3) := by decide +kernel
theorem dL_holds_762 : decode cL_holds 762 = .ok (.aload_n 0, 1) := by decide +kernel
theorem dL_holds_763 : decode cL_holds 763 = .ok (.iconst 4, 1) := by decide +kernel
theorem dL_holds_764 : decode cL_holds 764 = .ok (.iload 16, 2) := by decide +kernel
theorem dL_holds_766 : decode cL_holds 766 = .ok (.iconst 0, 1) := by decide +kernel
theorem dL_holds_767 : decode cL_holds 767 = .ok (.iconst 0, 1) := by decide +kernel
theorem dL_holds_768 : decode cL_holds 768 = .ok (.invokestatic 192, 3) := by decide +kernel
theorem dL_holds_771 : decode cL_holds 771 = .ok (.aload_n 0, 1) := by decide +kernel
theorem dL_holds_772 : decode cL_holds 772 = .ok (.iconst 4, 1) := by decide +kernel
theorem dL_holds_773 : decode cL_holds 773 = .ok (.iload 16, 2) := by decide +kernel
theorem dL_holds_775 : decode cL_holds 775 = .ok (.iconst 2, 1) := by decide +kernel
theorem dL_holds_776 : decode cL_holds 776 = .ok (.iconst 0, 1) := by decide +kernel
theorem dL_holds_777 : decode cL_holds 777 = .ok (.invokestatic 192, 3) := by decide +kernel
theorem dL_holds_780 : decode cL_holds 780 = .ok (.if_icmp .lt 31, 3) := by decide +kernel
theorem dL_holds_783 : decode cL_holds 783 = .ok (.aload_n 0, 1) := by decide +kernel
theorem dL_holds_784 : decode cL_holds 784 = .ok (.bipush 17, 2) := by decide +kernel
theorem dL_holds_786 : decode cL_holds 786 = .ok (.iconst 0, 1) := by decide +kernel
theorem dL_holds_787 : decode cL_holds 787 = .ok (.iconst 0, 1) := by decide +kernel
theorem dL_holds_788 : decode cL_holds 788 = .ok (.iconst 0, 1) := by decide +kernel
theorem dL_holds_789 : decode cL_holds 789 = .ok (.invokestatic 192, 3) := by decide +kernel
theorem dL_holds_792 : decode cL_holds 792 = .ok (.ifCond .lt 19, 3) := by decide +kernel
theorem dL_holds_795 : decode cL_holds 795 = .ok (.aload_n 0, 1) := by decide +kernel
theorem dL_holds_796 : decode cL_holds 796 = .ok (.bipush 17, 2) := by decide +kernel
theorem dL_holds_798 : decode cL_holds 798 = .ok (.iconst 0, 1) := by decide +kernel
theorem dL_holds_799 : decode cL_holds 799 = .ok (.iconst 0, 1) := by decide +kernel
theorem dL_holds_800 : decode cL_holds 800 = .ok (.iconst 0, 1) := by decide +kernel
theorem dL_holds_801 : decode cL_holds 801 = .ok (.invokestatic 192, 3) := by decide +kernel
theorem dL_holds_804 : decode cL_holds 804 = .ok (.ifCond .lt 7, 3) := by decide +kernel
theorem dL_holds_807 : decode cL_holds 807 = .ok (.iconst 1, 1) := by decide +kernel
theorem dL_holds_808 : decode cL_holds 808 = .ok (.goto 4, 3) := by decide +kernel
theorem dL_holds_811 : decode cL_holds 811 = .ok (.iconst 0, 1) := by decide +kernel
theorem dL_holds_812 : decode cL_holds 812 = .ok (.istore 7, 2) := by decide +kernel
theorem dL_holds_814 : decode cL_holds 814 = .ok (.iload 7, 2) := by decide +kernel
theorem dL_holds_816 : decode cL_holds 816 = .ok (.ifCond .eq 35, 3) := by decide +kernel
theorem dL_holds_819 : decode cL_holds 819 = .ok (.iload 15, 2) := by decide +kernel
theorem dL_holds_821 : decode cL_holds 821 = .ok (.ifCond .ne 30, 3) := by decide +kernel
theorem dL_holds_824 : decode cL_holds 824 = .ok (.aload_n 0, 1) := by decide +kernel
theorem dL_holds_825 : decode cL_holds 825 = .ok (.invokevirtual 217, 3) := by decide +kernel
theorem dL_holds_828 : decode cL_holds 828 = .ok (.iload 4, 2) := by decide +kernel
theorem dL_holds_830 : decode cL_holds 830 = .ok (.if_icmp .ne 21, 3) := by decide +kernel
theorem dL_holds_833 : decode cL_holds 833 = .ok (.aload_n 0, 1) := by decide +kernel
theorem dL_holds_834 : decode cL_holds 834 = .ok (.iconst 3, 1) := by decide +kernel
theorem dL_holds_835 : decode cL_holds 835 = .ok (.iload 12, 2) := by decide +kernel
theorem dL_holds_837 : decode cL_holds 837 = .ok (.iconst 2, 1) := by decide +kernel
theorem dL_holds_838 : decode cL_holds 838 = .ok (.iconst 0, 1) := by decide +kernel
theorem dL_holds_839 : decode cL_holds 839 = .ok (.invokestatic 192, 3) := by decide +kernel
theorem dL_holds_842 : decode cL_holds 842 = .ok (.iload 14, 2) := by decide +kernel
theorem dL_holds_844 : decode cL_holds 844 = .ok (.if_icmp .ne 7, 3) := by decide +kernel
theorem dL_holds_847 : decode cL_holds 847 = .ok (.iconst 1, 1) := by decide +kernel
theorem dL_holds_848 : decode cL_holds 848 = .ok (.goto 4, 3) := by decide +kernel
theorem dL_holds_851 : decode cL_holds 851 = .ok (.iconst 0, 1) := by decide +kernel
theorem dL_holds_852 : decode cL_holds 852 = .ok (.ireturn, 1) := by decide +kernel
theorem dL_act_0 : decode cL_act 0 = .ok (.aload_n 0, 1) := by decide +kernel
theorem dL_act_1 : decode cL_act 1 = .ok (.iconst 2, 1) := by decide +kernel
theorem dL_act_2 : decode cL_act 2 = .ok (.iconst 0, 1) := by decide +kernel
theorem dL_act_3 : decode cL_act 3 = .ok (.iconst 0, 1) := by decide +kernel
theorem dL_act_4 : decode cL_act 4 = .ok (.iconst 0, 1) := by decide +kernel
theorem dL_act_5 : decode cL_act 5 = .ok (.invokestatic 192, 3) := by decide +kernel
theorem dL_act_8 : decode cL_act 8 = .ok (.istore_n 3, 1) := by decide +kernel
theorem dL_act_9 : decode cL_act 9 = .ok (.iload_n 3, 1) := by decide +kernel
theorem dL_act_10 : decode cL_act 10 = .ok (.ifCond .ne 7, 3) := by decide +kernel
theorem dL_act_13 : decode cL_act 13 = .ok (.iconst 0, 1) := by decide +kernel
theorem dL_act_14 : decode cL_act 14 = .ok (.goto 6, 3) := by decide +kernel
theorem dL_act_17 : decode cL_act 17 = .ok (.iload_n 2, 1) := by decide +kernel
theorem dL_act_18 : decode cL_act 18 = .ok (.iload_n 3, 1) := by decide +kernel
theorem dL_act_19 : decode cL_act 19 = .ok (.irem, 1) := by decide +kernel
theorem dL_act_20 : decode cL_act 20 = .ok (.istore 4, 2) := by decide +kernel
theorem dL_act_22 : decode cL_act 22 = .ok (.iload_n 2, 1) := by decide +kernel
theorem dL_act_23 : decode cL_act 23 = .ok (.bipush 8, 2) := by decide +kernel
theorem dL_act_25 : decode cL_act 25 = .ok (.idiv, 1) := by decide +kernel
theorem dL_act_26 : decode cL_act 26 = .ok (.iconst 3, 1) := by decide +kernel
theorem dL_act_27 : decode cL_act 27 = .ok (.irem, 1) := by decide +kernel
theorem dL_act_28 : decode cL_act 28 = .ok (.istore 5, 2) := by decide +kernel
theorem dL_act_30 : decode cL_act 30 = .ok (.iload_n 1, 1) := by decide +kernel
theorem dL_act_31 : decode cL_act 31 = .ok (.bipush 24, 2) := by decide +kernel
theorem dL_act_33 : decode cL_act 33 = .ok (.irem, 1) := by decide +kernel
theorem dL_act_34 : decode cL_act 34 = .ok (.tableswitch 436 0 21 #[102, 102, 102, 102, 140, 166, 185, 185, 185, 185, 203, 203, 220, 220, 220, 231, 231, 241, 279, 315, 327, 339], 102) := by decide +kernel
theorem dL_act_136 : decode cL_act 136 = .ok (.iload_n 3, 1) := by decide +kernel
theorem dL_act_137 : decode cL_act 137 = .ok (.iconst 4, 1) := by decide +kernel
theorem dL_act_138 : decode cL_act 138 = .ok (.if_icmp .le 16, 3) := by decide +kernel
theorem dL_act_141 : decode cL_act 141 = .ok (.aload_n 0, 1) := by decide +kernel
theorem dL_act_142 : decode cL_act 142 = .ok (.bipush 13, 2) := by decide +kernel
theorem dL_act_144 : decode cL_act 144 = .ok (.iload 4, 2) := by decide +kernel
theorem dL_act_146 : decode cL_act 146 = .ok (.iconst 0, 1) := by decide +kernel
theorem dL_act_147 : decode cL_act 147 = .ok (.iconst 0, 1) := by decide +kernel
theorem dL_act_148 : decode cL_act 148 = .ok (.invokestatic 192, 3) := by decide +kernel
theorem dL_act_151 : decode cL_act 151 = .ok (.goto 22, 3) := by decide +kernel
theorem dL_act_154 : decode cL_act 154 = .ok (.aload_n 0, 1) := by decide +kernel
theorem dL_act_155 : decode cL_act 155 = .ok (.bipush 10, 2) := by decide +kernel
theorem dL_act_157 : decode cL_act 157 = .ok (.iload_n 2, 1) := by decide +kernel
theorem dL_act_158 : decode cL_act 158 = .ok (.bipush 40, 2) := by decide +kernel
theorem dL_act_160 : decode cL_act 160 = .ok (.irem, 1) := by decide +kernel
theorem dL_act_161 : decode cL_act 161 = .ok (.iconst 1, 1) := by decide +kernel
theorem dL_act_162 : decode cL_act 162 = .ok (.iload_n 2, 1) := by decide +kernel
theorem dL_act_163 : decode cL_act 163 = .ok (.bipush 64, 2) := by decide +kernel
theorem dL_act_165 : decode cL_act 165 = .ok (.idiv, 1) := by decide +kernel
theorem dL_act_166 : decode cL_act 166 = .ok (.iconst 4, 1) := by decide +kernel
theorem dL_act_167 : decode cL_act 167 = .ok (.irem, 1) := by decide +kernel
theorem dL_act_168 : decode cL_act 168 = .ok (.iadd, 1) := by decide +kernel
theorem dL_act_169 : decode cL_act 169 = .ok (.iconst 0, 1) := by decide +kernel
theorem dL_act_170 : decode cL_act 170 = .ok (.invokestatic 192, 3) := by decide +kernel
theorem dL_act_173 : decode cL_act 173 = .ok (.ireturn, 1) := by decide +kernel
theorem dL_act_174 : decode cL_act 174 = .ok (.aload_n 0, 1) := by decide +kernel
theorem dL_act_175 : decode cL_act 175 = .ok (.bipush 8, 2) := by decide +kernel
theorem dL_act_177 : decode cL_act 177 = .ok (.iload 5, 2) := by decide +kernel
theorem dL_act_179 : decode cL_act 179 = .ok (.iconst 1, 1) := by decide +kernel
theorem dL_act_180 : decode cL_act 180 = .ok (.iload_n 2, 1) := by decide +kernel
theorem dL_act_181 : decode cL_act 181 = .ok (.bipush 32, 2) := by decide +kernel
theorem dL_act_183 : decode cL_act 183 = .ok (.idiv, 1) := by decide +kernel
theorem dL_act_184 : decode cL_act 184 = .ok (.iconst 4, 1) := by decide +kernel
theorem dL_act_185 : decode cL_act 185 = .ok (.irem, 1) := by decide +kernel
theorem dL_act_186 : decode cL_act 186 = .ok (.iadd, 1) := by decide +kernel
theorem dL_act_187 : decode cL_act 187 = .ok (.iconst 1, 1) := by decide +kernel
theorem dL_act_188 : decode cL_act 188 = .ok (.iload_n 2, 1) := by decide +kernel
theorem dL_act_189 : decode cL_act 189 = .ok (.sipush 128, 3) := by decide +kernel
theorem dL_act_192 : decode cL_act 192 = .ok (.idiv, 1) := by decide +kernel
theorem dL_act_193 : decode cL_act 193 = .ok (.iconst 4, 1) := by decide +kernel
theorem dL_act_194 : decode cL_act 194 = .ok (.irem, 1) := by decide +kernel
theorem dL_act_195 : decode cL_act 195 = .ok (.iadd, 1) := by decide +kernel
theorem dL_act_196 : decode cL_act 196 = .ok (.invokestatic 192, 3) := by decide +kernel
theorem dL_act_199 : decode cL_act 199 = .ok (.ireturn, 1) := by decide +kernel
theorem dL_act_200 : decode cL_act 200 = .ok (.aload_n 0, 1) := by decide +kernel
theorem dL_act_201 : decode cL_act 201 = .ok (.bipush 9, 2) := by decide +kernel
theorem dL_act_203 : decode cL_act 203 = .ok (.iload 5, 2) := by decide +kernel
theorem dL_act_205 : decode cL_act 205 = .ok (.iconst 1, 1) := by decide +kernel
theorem dL_act_206 : decode cL_act 206 = .ok (.iload_n 2, 1) := by decide +kernel
theorem dL_act_207 : decode cL_act 207 = .ok (.bipush 32, 2) := by decide +kernel
theorem dL_act_209 : decode cL_act 209 = .ok (.idiv, 1) := by decide +kernel
theorem dL_act_210 : decode cL_act 210 = .ok (.bipush 60, 2) := by decide +kernel
theorem dL_act_212 : decode cL_act 212 = .ok (.irem, 1) := by decide +kernel
theorem dL_act_213 : decode cL_act 213 = .ok (.iadd, 1) := by decide +kernel
theorem dL_act_214 : decode cL_act 214 = .ok (.iconst 0, 1) := by decide +kernel
theorem dL_act_215 : decode cL_act 215 = .ok (.invokestatic 192, 3) := by decide +kernel
theorem dL_act_218 : decode cL_act 218 = .ok (.ireturn, 1) := by decide +kernel
theorem dL_act_219 : decode cL_act 219 = .ok (.aload_n 0, 1) := by decide +kernel
theorem dL_act_220 : decode cL_act 220 = .ok (.bipush 11, 2) := by decide +kernel
theorem dL_act_222 : decode cL_act 222 = .ok (.iload 4, 2) := by decide +kernel
theorem dL_act_224 : decode cL_act 224 = .ok (.iload 5, 2) := by decide +kernel
theorem dL_act_226 : decode cL_act 226 = .ok (.iload_n 2, 1) := by decide +kernel
theorem dL_act_227 : decode cL_act 227 = .ok (.bipush 32, 2) := by decide +kernel
theorem dL_act_229 : decode cL_act 229 = .ok (.idiv, 1) := by decide +kernel
theorem dL_act_230 : decode cL_act 230 = .ok (.bipush 90, 2) := by decide +kernel
theorem dL_act_232 : decode cL_act 232 = .ok (.irem, 1) := by decide +kernel
theorem dL_act_233 : decode cL_act 233 = .ok (.invokestatic 192, 3) := by decide +kernel
theorem dL_act_236 : decode cL_act 236 = .ok (.ireturn, 1) := by decide +kernel
theorem dL_act_237 : decode cL_act 237 = .ok (.aload_n 0, 1) := by decide +kernel
theorem dL_act_238 : decode cL_act 238 = .ok (.bipush 12, 2) := by decide +kernel
theorem dL_act_240 : decode cL_act 240 = .ok (.iload 4, 2) := by decide +kernel
theorem dL_act_242 : decode cL_act 242 = .ok (.iload 5, 2) := by decide +kernel
theorem dL_act_244 : decode cL_act 244 = .ok (.iload_n 2, 1) := by decide +kernel
theorem dL_act_245 : decode cL_act 245 = .ok (.bipush 32, 2) := by decide +kernel
theorem dL_act_247 : decode cL_act 247 = .ok (.idiv, 1) := by decide +kernel
theorem dL_act_248 : decode cL_act 248 = .ok (.iconst 4, 1) := by decide +kernel
theorem dL_act_249 : decode cL_act 249 = .ok (.irem, 1) := by decide +kernel
theorem dL_act_250 : decode cL_act 250 = .ok (.invokestatic 192, 3) := by decide +kernel
theorem dL_act_253 : decode cL_act 253 = .ok (.ireturn, 1) := by decide +kernel
theorem dL_act_254 : decode cL_act 254 = .ok (.aload_n 0, 1) := by decide +kernel
theorem dL_act_255 : decode cL_act 255 = .ok (.bipush 13, 2) := by decide +kernel
theorem dL_act_257 : decode cL_act 257 = .ok (.iload 4, 2) := by decide +kernel
theorem dL_act_259 : decode cL_act 259 = .ok (.iconst 0, 1) := by decide +kernel
theorem dL_act_260 : decode cL_act 260 = .ok (.iconst 0, 1) := by decide +kernel
theorem dL_act_261 : decode cL_act 261 = .ok (.invokestatic 192, 3) := by decide +kernel
theorem dL_act_264 : decode cL_act 264 = .ok (.ireturn, 1) := by decide +kernel
theorem dL_act_265 : decode cL_act 265 = .ok (.aload_n 0, 1) := by decide +kernel
theorem dL_act_266 : decode cL_act 266 = .ok (.bipush 14, 2) := by decide +kernel
theorem dL_act_268 : decode cL_act 268 = .ok (.iconst 0, 1) := by decide +kernel
theorem dL_act_269 : decode cL_act 269 = .ok (.iconst 0, 1) := by decide +kernel
theorem dL_act_270 : decode cL_act 270 = .ok (.iconst 0, 1) := by decide +kernel
theorem dL_act_271 : decode cL_act 271 = .ok (.invokestatic 192, 3) := by decide +kernel
theorem dL_act_274 : decode cL_act 274 = .ok (.ireturn, 1) := by decide +kernel
theorem dL_act_275 : decode cL_act 275 = .ok (.aload_n 0, 1) := by decide +kernel
theorem dL_act_276 : decode cL_act 276 = .ok (.bipush 16, 2) := by decide +kernel
theorem dL_act_278 : decode cL_act 278 = .ok (.iload_n 2, 1) := by decide +kernel
theorem dL_act_279 : decode cL_act 279 = .ok (.iconst 2, 1) := by decide +kernel
theorem dL_act_280 : decode cL_act 280 = .ok (.irem, 1) := by decide +kernel
theorem dL_act_281 : decode cL_act 281 = .ok (.iload_n 2, 1) := by decide +kernel
theorem dL_act_282 : decode cL_act 282 = .ok (.iconst 2, 1) := by decide +kernel
theorem dL_act_283 : decode cL_act 283 = .ok (.irem, 1) := by decide +kernel
theorem dL_act_284 : decode cL_act 284 = .ok (.ifCond .ne 15, 3) := by decide +kernel
theorem dL_act_287 : decode cL_act 287 = .ok (.bipush 50, 2) := by decide +kernel
theorem dL_act_289 : decode cL_act 289 = .ok (.iload_n 2, 1) := by decide +kernel
theorem dL_act_290 : decode cL_act 290 = .ok (.iconst 2, 1) := by decide +kernel
theorem dL_act_291 : decode cL_act 291 = .ok (.idiv, 1) := by decide +kernel
theorem dL_act_292 : decode cL_act 292 = .ok (.bipush 51, 2) := by decide +kernel
theorem dL_act_294 : decode cL_act 294 = .ok (.irem, 1) := by decide +kernel
theorem dL_act_295 : decode cL_act 295 = .ok (.iadd, 1) := by decide +kernel
theorem dL_act_296 : decode cL_act 296 = .ok (.goto 12, 3) := by decide +kernel
theorem dL_act_299 : decode cL_act 299 = .ok (.bipush 10, 2) := by decide +kernel
theorem dL_act_301 : decode cL_act 301 = .ok (.iload_n 2, 1) := by decide +kernel
theorem dL_act_302 : decode cL_act 302 = .ok (.iconst 2, 1) := by decide +kernel
theorem dL_act_303 : decode cL_act 303 = .ok (.idiv, 1) := by decide +kernel
theorem dL_act_304 : decode cL_act 304 = .ok (.bipush 41, 2) := by decide +kernel
theorem dL_act_306 : decode cL_act 306 = .ok (.irem, 1) := by decide +kernel
theorem dL_act_307 : decode cL_act 307 = .ok (.iadd, 1) := by decide +kernel
theorem dL_act_308 : decode cL_act 308 = .ok (.iconst 0, 1) := by decide +kernel
theorem dL_act_309 : decode cL_act 309 = .ok (.invokestatic 192, 3) := by decide +kernel
theorem dL_act_312 : decode cL_act 312 = .ok (.ireturn, 1) := by decide +kernel
theorem dL_act_313 : decode cL_act 313 = .ok (.iload_n 2, 1) := by decide +kernel
theorem dL_act_314 : decode cL_act 314 = .ok (.iconst 3, 1) := by decide +kernel
theorem dL_act_315 : decode cL_act 315 = .ok (.irem, 1) := by decide +kernel
theorem dL_act_316 : decode cL_act 316 = .ok (.ifCond .ne 15, 3) := by decide +kernel
theorem dL_act_319 : decode cL_act 319 = .ok (.aload_n 0, 1) := by decide +kernel
theorem dL_act_320 : decode cL_act 320 = .ok (.bipush 17, 2) := by decide +kernel
theorem dL_act_322 : decode cL_act 322 = .ok (.iconst 0, 1) := by decide +kernel
theorem dL_act_323 : decode cL_act 323 = .ok (.iconst 0, 1) := by decide +kernel
theorem dL_act_324 : decode cL_act 324 = .ok (.iconst 0, 1) := by decide +kernel
theorem dL_act_325 : decode cL_act 325 = .ok (.invokestatic 192, 3) := by decide +kernel
theorem dL_act_328 : decode cL_act 328 = .ok (.goto 20, 3) := by decide +kernel
theorem dL_act_331 : decode cL_act 331 = .ok (.aload_n 0, 1) := by decide +kernel
theorem dL_act_332 : decode cL_act 332 = .ok (.bipush 15, 2) := by decide +kernel
theorem dL_act_334 : decode cL_act 334 = .ok (.iload 4, 2) := by decide +kernel
theorem dL_act_336 : decode cL_act 336 = .ok (.iconst 1, 1) := by decide +kernel
theorem dL_act_337 : decode cL_act 337 = .ok (.iload_n 2, 1) := by decide +kernel
theorem dL_act_338 : decode cL_act 338 = .ok (.bipush 32, 2) := by decide +kernel
theorem dL_act_340 : decode cL_act 340 = .ok (.idiv, 1) := by decide +kernel
theorem dL_act_341 : decode cL_act 341 = .ok (.iconst 3, 1) := by decide +kernel
theorem dL_act_342 : decode cL_act 342 = .ok (.irem, 1) := by decide +kernel
theorem dL_act_343 : decode cL_act 343 = .ok (.iadd, 1) := by decide +kernel
theorem dL_act_344 : decode cL_act 344 = .ok (.iconst 0, 1) := by decide +kernel
theorem dL_act_345 : decode cL_act 345 = .ok (.invokestatic 192, 3) := by decide +kernel
theorem dL_act_348 : decode cL_act 348 = .ok (.ireturn, 1) := by decide +kernel
theorem dL_act_349 : decode cL_act 349 = .ok (.aload_n 0, 1) := by decide +kernel
theorem dL_act_350 : decode cL_act 350 = .ok (.bipush 23, 2) := by decide +kernel
theorem dL_act_352 : decode cL_act 352 = .ok (.iload_n 2, 1) := by decide +kernel
theorem dL_act_353 : decode cL_act 353 = .ok (.iconst 2, 1) := by decide +kernel
theorem dL_act_354 : decode cL_act 354 = .ok (.irem, 1) := by decide +kernel
theorem dL_act_355 : decode cL_act 355 = .ok (.iconst 0, 1) := by decide +kernel
theorem dL_act_356 : decode cL_act 356 = .ok (.iconst 0, 1) := by decide +kernel
theorem dL_act_357 : decode cL_act 357 = .ok (.invokestatic 192, 3) := by decide +kernel
theorem dL_act_360 : decode cL_act 360 = .ok (.ireturn, 1) := by decide +kernel
theorem dL_act_361 : decode cL_act 361 = .ok (.aload_n 0, 1) := by decide +kernel
theorem dL_act_362 : decode cL_act 362 = .ok (.bipush 24, 2) := by decide +kernel
theorem dL_act_364 : decode cL_act 364 = .ok (.iload_n 2, 1) := by decide +kernel
theorem dL_act_365 : decode cL_act 365 = .ok (.iconst 2, 1) := by decide +kernel
theorem dL_act_366 : decode cL_act 366 = .ok (.irem, 1) := by decide +kernel
theorem dL_act_367 : decode cL_act 367 = .ok (.iconst 0, 1) := by decide +kernel
theorem dL_act_368 : decode cL_act 368 = .ok (.iconst 0, 1) := by decide +kernel
theorem dL_act_369 : decode cL_act 369 = .ok (.invokestatic 192, 3) := by decide +kernel
theorem dL_act_372 : decode cL_act 372 = .ok (.ireturn, 1) := by decide +kernel
theorem dL_act_373 : decode cL_act 373 = .ok (.aload_n 0, 1) := by decide +kernel
theorem dL_act_374 : decode cL_act 374 = .ok (.invokevirtual 226, 3) := by decide +kernel
theorem dL_act_377 : decode cL_act 377 = .ok (.pop, 1) := by decide +kernel
theorem dL_act_378 : decode cL_act 378 = .ok (.aload_n 0, 1) := by decide +kernel
theorem dL_act_379 : decode cL_act 379 = .ok (.iconst 0, 1) := by decide +kernel
theorem dL_act_380 : decode cL_act 380 = .ok (.bipush 76, 2) := by decide +kernel
theorem dL_act_382 : decode cL_act 382 = .ok (.iconst 0, 1) := by decide +kernel
theorem dL_act_383 : decode cL_act 383 = .ok (.iconst 0, 1) := by decide +kernel
theorem dL_act_384 : decode cL_act 384 = .ok (.invokestatic 192, 3) := by decide +kernel
theorem dL_act_387 : decode cL_act 387 = .ok (.aload_n 0, 1) := by decide +kernel
theorem dL_act_388 : decode cL_act 388 = .ok (.iconst 0, 1) := by decide +kernel
theorem dL_act_389 : decode cL_act 389 = .ok (.bipush 98, 2) := by decide +kernel
theorem dL_act_391 : decode cL_act 391 = .ok (.iconst 0, 1) := by decide +kernel
theorem dL_act_392 : decode cL_act 392 = .ok (.iconst 0, 1) := by decide +kernel
theorem dL_act_393 : decode cL_act 393 = .ok (.invokestatic 192, 3) := by decide +kernel
theorem dL_act_396 : decode cL_act 396 = .ok (.iadd, 1) := by decide +kernel
theorem dL_act_397 : decode cL_act 397 = .ok (.aload_n 0, 1) := by decide +kernel
theorem dL_act_398 : decode cL_act 398 = .ok (.iconst 0, 1) := by decide +kernel
theorem dL_act_399 : decode cL_act 399 = .ok (.bipush 48, 2) := by decide +kernel
theorem dL_act_401 : decode cL_act 401 = .ok (.iload_n 2, 1) := by decide +kernel
theorem dL_act_402 : decode cL_act 402 = .ok (.bipush 10, 2) := by decide +kernel
theorem dL_act_404 : decode cL_act 404 = .ok (.irem, 1) := by decide +kernel
theorem dL_act_405 : decode cL_act 405 = .ok (.iadd, 1) := by decide +kernel
theorem dL_act_406 : decode cL_act 406 = .ok (.iconst 0, 1) := by decide +kernel
theorem dL_act_407 : decode cL_act 407 = .ok (.iconst 0, 1) := by decide +kernel
theorem dL_act_408 : decode cL_act 408 = .ok (.invokestatic 192, 3) := by decide +kernel
theorem dL_act_411 : decode cL_act 411 = .ok (.iadd, 1) := by decide +kernel
theorem dL_act_412 : decode cL_act 412 = .ok (.aload_n 0, 1) := by decide +kernel
theorem dL_act_413 : decode cL_act 413 = .ok (.iconst 0, 1) := by decide +kernel
theorem dL_act_414 : decode cL_act 414 = .ok (.bipush 48, 2) := by decide +kernel
theorem dL_act_416 : decode cL_act 416 = .ok (.iload_n 2, 1) := by decide +kernel
theorem dL_act_417 : decode cL_act 417 = .ok (.bipush 16, 2) := by decide +kernel
theorem dL_act_419 : decode cL_act 419 = .ok (.idiv, 1) := by decide +kernel
theorem dL_act_420 : decode cL_act 420 = .ok (.bipush 10, 2) := by decide +kernel
theorem dL_act_422 : decode cL_act 422 = .ok (.irem, 1) := by decide +kernel
theorem dL_act_423 : decode cL_act 423 = .ok (.iadd, 1) := by decide +kernel
theorem dL_act_424 : decode cL_act 424 = .ok (.iconst 0, 1) := by decide +kernel
theorem dL_act_425 : decode cL_act 425 = .ok (.iconst 0, 1) := by decide +kernel
theorem dL_act_426 : decode cL_act 426 = .ok (.invokestatic 192, 3) := by decide +kernel
theorem dL_act_429 : decode cL_act 429 = .ok (.iadd, 1) := by decide +kernel
theorem dL_act_430 : decode cL_act 430 = .ok (.aload_n 0, 1) := by decide +kernel
theorem dL_act_431 : decode cL_act 431 = .ok (.iconst 0, 1) := by decide +kernel
theorem dL_act_432 : decode cL_act 432 = .ok (.bipush 48, 2) := by decide +kernel
theorem dL_act_434 : decode cL_act 434 = .ok (.iload_n 2, 1) := by decide +kernel
theorem dL_act_435 : decode cL_act 435 = .ok (.sipush 256, 3) := by decide +kernel
theorem dL_act_438 : decode cL_act 438 = .ok (.idiv, 1) := by decide +kernel
theorem dL_act_439 : decode cL_act 439 = .ok (.bipush 9, 2) := by decide +kernel
theorem dL_act_441 : decode cL_act 441 = .ok (.irem, 1) := by decide +kernel
theorem dL_act_442 : decode cL_act 442 = .ok (.iadd, 1) := by decide +kernel
theorem dL_act_443 : decode cL_act 443 = .ok (.iconst 0, 1) := by decide +kernel
theorem dL_act_444 : decode cL_act 444 = .ok (.iconst 0, 1) := by decide +kernel
theorem dL_act_445 : decode cL_act 445 = .ok (.invokestatic 192, 3) := by decide +kernel
theorem dL_act_448 : decode cL_act 448 = .ok (.iadd, 1) := by decide +kernel
theorem dL_act_449 : decode cL_act 449 = .ok (.iload_n 2, 1) := by decide +kernel
theorem dL_act_450 : decode cL_act 450 = .ok (.bipush 64, 2) := by decide +kernel
theorem dL_act_452 : decode cL_act 452 = .ok (.irem, 1) := by decide +kernel
theorem dL_act_453 : decode cL_act 453 = .ok (.ifCond .ne 14, 3) := by decide +kernel
theorem dL_act_456 : decode cL_act 456 = .ok (.aload_n 0, 1) := by decide +kernel
theorem dL_act_457 : decode cL_act 457 = .ok (.iconst 1, 1) := by decide +kernel
theorem dL_act_458 : decode cL_act 458 = .ok (.iconst 0, 1) := by decide +kernel
theorem dL_act_459 : decode cL_act 459 = .ok (.iconst 0, 1) := by decide +kernel
theorem dL_act_460 : decode cL_act 460 = .ok (.iconst 0, 1) := by decide +kernel
theorem dL_act_461 : decode cL_act 461 = .ok (.invokestatic 192, 3) := by decide +kernel
theorem dL_act_464 : decode cL_act 464 = .ok (.goto 4, 3) := by decide +kernel
theorem dL_act_467 : decode cL_act 467 = .ok (.iconst 0, 1) := by decide +kernel
theorem dL_act_468 : decode cL_act 468 = .ok (.iadd, 1) := by decide +kernel
theorem dL_act_469 : decode cL_act 469 = .ok (.ireturn, 1) := by decide +kernel
theorem dL_act_470 : decode cL_act 470 = .ok (.aload_n 0, 1) := by decide +kernel
theorem dL_act_471 : decode cL_act 471 = .ok (.iload 4, 2) := by decide +kernel
theorem dL_act_473 : decode cL_act 473 = .ok (.iload_n 2, 1) := by decide +kernel
theorem dL_act_474 : decode cL_act 474 = .ok (.bipush 32, 2) := by decide +kernel
theorem dL_act_476 : decode cL_act 476 = .ok (.idiv, 1) := by decide +kernel
theorem dL_act_477 : decode cL_act 477 = .ok (.iconst 3, 1) := by decide +kernel
theorem dL_act_478 : decode cL_act 478 = .ok (.irem, 1) := by decide +kernel
theorem dL_act_479 : decode cL_act 479 = .ok (.iload_n 2, 1) := by decide +kernel
theorem dL_act_480 : decode cL_act 480 = .ok (.sipush 128, 3) := by decide +kernel
theorem dL_act_483 : decode cL_act 483 = .ok (.idiv, 1) := by decide +kernel
theorem dL_act_484 : decode cL_act 484 = .ok (.iconst 3, 1) := by decide +kernel
theorem dL_act_485 : decode cL_act 485 = .ok (.irem, 1) := by decide +kernel
theorem dL_act_486 : decode cL_act 486 = .ok (.iload_n 2, 1) := by decide +kernel
theorem dL_act_487 : decode cL_act 487 = .ok (.sipush 512, 3) := by decide +kernel
theorem dL_act_490 : decode cL_act 490 = .ok (.idiv, 1) := by decide +kernel
theorem dL_act_491 : decode cL_act 491 = .ok (.iconst 3, 1) := by decide +kernel
theorem dL_act_492 : decode cL_act 492 = .ok (.irem, 1) := by decide +kernel
theorem dL_act_493 : decode cL_act 493 = .ok (.iconst 1, 1) := by decide +kernel
theorem dL_act_494 : decode cL_act 494 = .ok (.iload_n 2, 1) := by decide +kernel
theorem dL_act_495 : decode cL_act 495 = .ok (.sipush 2048, 3) := by decide +kernel
theorem dL_act_498 : decode cL_act 498 = .ok (.idiv, 1) := by decide +kernel
theorem dL_act_499 : decode cL_act 499 = .ok (.sipush 400, 3) := by decide +kernel
theorem dL_act_502 : decode cL_act 502 = .ok (.irem, 1) := by decide +kernel
theorem dL_act_503 : decode cL_act 503 = .ok (.iadd, 1) := by decide +kernel
theorem dL_act_504 : decode cL_act 504 = .ok (.invokestatic 197, 3) := by decide +kernel
theorem dL_act_507 : decode cL_act 507 = .ok (.ireturn, 1) := by decide +kernel
theorem dL_law_0 : decode cL_law 0 = .ok (.new 8, 3) := by decide +kernel
theorem dL_law_3 : decode cL_law 3 = .ok (.dup, 1) := by decide +kernel
theorem dL_law_4 : decode cL_law 4 = .ok (.invokespecial 229, 3) := by decide +kernel
theorem dL_law_7 : decode cL_law 7 = .ok (.astore_n 1, 1) := by decide +kernel
theorem dL_law_8 : decode cL_law 8 = .ok (.new 8, 3) := by decide +kernel
theorem dL_law_11 : decode cL_law 11 = .ok (.dup, 1) := by decide +kernel
theorem dL_law_12 : decode cL_law 12 = .ok (.invokespecial 229, 3) := by decide +kernel
theorem dL_law_15 : decode cL_law 15 = .ok (.astore_n 2, 1) := by decide +kernel
theorem dL_law_16 : decode cL_law 16 = .ok (.iconst 1, 1) := by decide +kernel
theorem dL_law_17 : decode cL_law 17 = .ok (.istore_n 3, 1) := by decide +kernel
theorem dL_law_18 : decode cL_law 18 = .ok (.iconst 0, 1) := by decide +kernel
theorem dL_law_19 : decode cL_law 19 = .ok (.istore 4, 2) := by decide +kernel
theorem dL_law_21 : decode cL_law 21 = .ok (.iload 4, 2) := by decide +kernel
theorem dL_law_23 : decode cL_law 23 = .ok (.bipush 28, 2) := by decide +kernel
theorem dL_law_25 : decode cL_law 25 = .ok (.if_icmp .ge 217, 3) := by decide +kernel
theorem dL_law_28 : decode cL_law 28 = .ok (.iload_n 3, 1) := by decide +kernel
theorem dL_law_29 : decode cL_law 29 = .ok (.ifCond .eq 213, 3) := by decide +kernel
theorem dL_law_32 : decode cL_law 32 = .ok (.aload_n 0, 1) := by decide +kernel
theorem dL_law_33 : decode cL_law 33 = .ok (.iconst 2, 1) := by decide +kernel
theorem dL_law_34 : decode cL_law 34 = .ok (.iload 4, 2) := by decide +kernel
theorem dL_law_36 : decode cL_law 36 = .ok (.imul, 1) := by decide +kernel
theorem dL_law_37 : decode cL_law 37 = .ok (.invokestatic 230, 3) := by decide +kernel
theorem dL_law_40 : decode cL_law 40 = .ok (.istore 5, 2) := by decide +kernel
theorem dL_law_42 : decode cL_law 42 = .ok (.aload_n 0, 1) := by decide +kernel
theorem dL_law_43 : decode cL_law 43 = .ok (.iconst 2, 1) := by decide +kernel
theorem dL_law_44 : decode cL_law 44 = .ok (.iload 4, 2) := by decide +kernel
theorem dL_law_46 : decode cL_law 46 = .ok (.imul, 1) := by decide +kernel
theorem dL_law_47 : decode cL_law 47 = .ok (.iconst 1, 1) := by decide +kernel
theorem dL_law_48 : decode cL_law 48 = .ok (.iadd, 1) := by decide +kernel
theorem dL_law_49 : decode cL_law 49 = .ok (.invokestatic 230, 3) := by decide +kernel
theorem dL_law_52 : decode cL_law 52 = .ok (.istore 6, 2) := by decide +kernel
theorem dL_law_54 : decode cL_law 54 = .ok (.aload_n 1, 1) := by decide +kernel
theorem dL_law_55 : decode cL_law 55 = .ok (.iload 5, 2) := by decide +kernel
theorem dL_law_57 : decode cL_law 57 = .ok (.invokestatic 234, 3) := by decide +kernel
theorem dL_law_60 : decode cL_law 60 = .ok (.ifCond .eq 45, 3) := by decide +kernel
theorem dL_law_63 : decode cL_law 63 = .ok (.aload_n 1, 1) := by decide +kernel
theorem dL_law_64 : decode cL_law 64 = .ok (.iload 5, 2) := by decide +kernel
theorem dL_law_66 : decode cL_law 66 = .ok (.iload 6, 2) := by decide +kernel
theorem dL_law_68 : decode cL_law 68 = .ok (.invokestatic 238, 3) := by decide +kernel
theorem dL_law_71 : decode cL_law 71 = .ok (.aload_n 2, 1) := by decide +kernel
theorem dL_law_72 : decode cL_law 72 = .ok (.iload 5, 2) := by decide +kernel
theorem dL_law_74 : decode cL_law 74 = .ok (.iload 6, 2) := by decide +kernel
theorem dL_law_76 : decode cL_law 76 = .ok (.invokestatic 238, 3) := by decide +kernel
theorem dL_law_79 : decode cL_law 79 = .ok (.if_icmp .ne 26, 3) := by decide +kernel
theorem dL_law_82 : decode cL_law 82 = .ok (.aload_n 1, 1) := by decide +kernel
theorem dL_law_83 : decode cL_law 83 = .ok (.iload 6, 2) := by decide +kernel
theorem dL_law_85 : decode cL_law 85 = .ok (.invokestatic 234, 3) := by decide +kernel
theorem dL_law_88 : decode cL_law 88 = .ok (.ifCond .eq 17, 3) := by decide +kernel
theorem dL_law_91 : decode cL_law 91 = .ok (.aload_n 1, 1) := by decide +kernel
theorem dL_law_92 : decode cL_law 92 = .ok (.aload_n 2, 1) := by decide +kernel
theorem dL_law_93 : decode cL_law 93 = .ok (.iload 5, 2) := by decide +kernel
theorem dL_law_95 : decode cL_law 95 = .ok (.invokestatic 241, 3) := by decide +kernel
theorem dL_law_98 : decode cL_law 98 = .ok (.ifCond .eq 7, 3) := by decide +kernel
theorem dL_law_101 : decode cL_law 101 = .ok (.iconst 1, 1) := by decide +kernel
theorem dL_law_102 : decode cL_law 102 = .ok (.goto 4, 3) := by decide +kernel
theorem dL_law_105 : decode cL_law 105 = .ok (.iconst 0, 1) := by decide +kernel
theorem dL_law_106 : decode cL_law 106 = .ok (.istore_n 3, 1) := by decide +kernel
theorem dL_law_107 : decode cL_law 107 = .ok (.iload 4, 2) := by decide +kernel
theorem dL_law_109 : decode cL_law 109 = .ok (.iconst 5, 1) := by decide +kernel
theorem dL_law_110 : decode cL_law 110 = .ok (.irem, 1) := by decide +kernel
theorem dL_law_111 : decode cL_law 111 = .ok (.iconst 4, 1) := by decide +kernel
theorem dL_law_112 : decode cL_law 112 = .ok (.if_icmp .ne 124, 3) := by decide +kernel
theorem dL_law_115 : decode cL_law 115 = .ok (.iload_n 3, 1) := by decide +kernel
theorem dL_law_116 : decode cL_law 116 = .ok (.ifCond .eq 120, 3) := by decide +kernel
theorem dL_law_119 : decode cL_law 119 = .ok (.aload_n 1, 1) := by decide +kernel
theorem dL_law_120 : decode cL_law 120 = .ok (.iload 6, 2) := by decide +kernel
theorem dL_law_122 : decode cL_law 122 = .ok (.invokestatic 245, 3) := by decide +kernel
theorem dL_law_125 : decode cL_law 125 = .ok (.ifCond .eq 16, 3) := by decide +kernel
theorem dL_law_128 : decode cL_law 128 = .ok (.aload_n 2, 1) := by decide +kernel
theorem dL_law_129 : decode cL_law 129 = .ok (.iload 6, 2) := by decide +kernel
theorem dL_law_131 : decode cL_law 131 = .ok (.invokestatic 245, 3) := by decide +kernel
theorem dL_law_134 : decode cL_law 134 = .ok (.ifCond .eq 7, 3) := by decide +kernel
theorem dL_law_137 : decode cL_law 137 = .ok (.iconst 1, 1) := by decide +kernel
theorem dL_law_138 : decode cL_law 138 = .ok (.goto 4, 3) := by decide +kernel
theorem dL_law_141 : decode cL_law 141 = .ok (.iconst 0, 1) := by decide +kernel
theorem dL_law_142 : decode cL_law 142 = .ok (.istore_n 3, 1) := by decide +kernel
theorem dL_law_143 : decode cL_law 143 = .ok (.iload 5, 2) := by decide +kernel
theorem dL_law_145 : decode cL_law 145 = .ok (.i2l, 1) := by decide +kernel
theorem dL_law_146 : decode cL_law 146 = .ok (.ldc2_w 248, 3) := by decide +kernel
theorem dL_law_149 : decode cL_law 149 = .ok (.lmul, 1) := by decide +kernel
theorem dL_law_150 : decode cL_law 150 = .ok (.ldc2_w 250, 3) := by decide +kernel
theorem dL_law_153 : decode cL_law 153 = .ok (.lsub, 1) := by decide +kernel
theorem dL_law_154 : decode cL_law 154 = .ok (.lstore 7, 2) := by decide +kernel
theorem dL_law_156 : decode cL_law 156 = .ok (.aload_n 1, 1) := by decide +kernel
theorem dL_law_157 : decode cL_law 157 = .ok (.lload 7, 2) := by decide +kernel
theorem dL_law_159 : decode cL_law 159 = .ok (.iconst 1, 1) := by decide +kernel
theorem dL_law_160 : decode cL_law 160 = .ok (.iload 6, 2) := by decide +kernel
theorem dL_law_162 : decode cL_law 162 = .ok (.bipush 30, 2) := by decide +kernel
theorem dL_law_164 : decode cL_law 164 = .ok (.irem, 1) := by decide +kernel
theorem dL_law_165 : decode cL_law 165 = .ok (.iadd, 1) := by decide +kernel
theorem dL_law_166 : decode cL_law 166 = .ok (.invokestatic 210, 3) := by decide +kernel
theorem dL_law_169 : decode cL_law 169 = .ok (.istore 9, 2) := by decide +kernel
theorem dL_law_171 : decode cL_law 171 = .ok (.iload_n 3, 1) := by decide +kernel
theorem dL_law_172 : decode cL_law 172 = .ok (.ifCond .eq 62, 3) := by decide +kernel
theorem dL_law_175 : decode cL_law 175 = .ok (.iload 9, 2) := by decide +kernel
theorem dL_law_177 : decode cL_law 177 = .ok (.aload_n 2, 1) := by decide +kernel
theorem dL_law_178 : decode cL_law 178 = .ok (.lload 7, 2) := by decide +kernel
theorem dL_law_180 : decode cL_law 180 = .ok (.iconst 1, 1) := by decide +kernel
theorem dL_law_181 : decode cL_law 181 = .ok (.iload 6, 2) := by decide +kernel
theorem dL_law_183 : decode cL_law 183 = .ok (.bipush 30, 2) := by decide +kernel
theorem dL_law_185 : decode cL_law 185 = .ok (.irem, 1) := by decide +kernel
theorem dL_law_186 : decode cL_law 186 = .ok (.iadd, 1) := by decide +kernel
theorem dL_law_187 : decode cL_law 187 = .ok (.invokestatic 210, 3) := by decide +kernel
theorem dL_law_190 : decode cL_law 190 = .ok (.if_icmp .ne 44, 3) := by decide +kernel
theorem dL_law_193 : decode cL_law 193 = .ok (.aload_n 1, 1) := by decide +kernel
theorem dL_law_194 : decode cL_law 194 = .ok (.iconst 2, 1) := by decide +kernel
theorem dL_law_195 : decode cL_law 195 = .ok (.iload 6, 2) := by decide +kernel
theorem dL_law_197 : decode cL_law 197 = .ok (.i2l, 1) := by decide +kernel
theorem dL_law_198 : decode cL_law 198 = .ok (.ldc2_w 252, 3) := by decide +kernel
theorem dL_law_201 : decode cL_law 201 = .ok (.lmul, 1) := by decide +kernel
theorem dL_law_202 : decode cL_law 202 = .ok (.invokestatic 202, 3) := by decide +kernel
theorem dL_law_205 : decode cL_law 205 = .ok (.aload_n 2, 1) := by decide +kernel
theorem dL_law_206 : decode cL_law 206 = .ok (.iconst 2, 1) := by decide +kernel
theorem dL_law_207 : decode cL_law 207 = .ok (.iload 6, 2) := by decide +kernel
theorem dL_law_209 : decode cL_law 209 = .ok (.i2l, 1) := by decide +kernel
theorem dL_law_210 : decode cL_law 210 = .ok (.ldc2_w 252, 3) := by decide +kernel
theorem dL_law_213 : decode cL_law 213 = .ok (.lmul, 1) := by decide +kernel
theorem dL_law_214 : decode cL_law 214 = .ok (.invokestatic 202, 3) := by decide +kernel
theorem dL_law_217 : decode cL_law 217 = .ok (.if_icmp .ne 17, 3) := by decide +kernel
theorem dL_law_220 : decode cL_law 220 = .ok (.aload_n 1, 1) := by decide +kernel
theorem dL_law_221 : decode cL_law 221 = .ok (.aload_n 2, 1) := by decide +kernel
theorem dL_law_222 : decode cL_law 222 = .ok (.iload 6, 2) := by decide +kernel
theorem dL_law_224 : decode cL_law 224 = .ok (.invokestatic 241, 3) := by decide +kernel
theorem dL_law_227 : decode cL_law 227 = .ok (.ifCond .eq 7, 3) := by decide +kernel
theorem dL_law_230 : decode cL_law 230 = .ok (.iconst 1, 1) := by decide +kernel
theorem dL_law_231 : decode cL_law 231 = .ok (.goto 4, 3) := by decide +kernel
theorem dL_law_234 : decode cL_law 234 = .ok (.iconst 0, 1) := by decide +kernel
theorem dL_law_235 : decode cL_law 235 = .ok (.istore_n 3, 1) := by decide +kernel
theorem dL_law_236 : decode cL_law 236 = .ok (.iinc 4 1, 3) := by decide +kernel
theorem dL_law_239 : decode cL_law 239 = .ok (.goto (-218), 3) := by decide +kernel
theorem dL_law_242 : decode cL_law 242 = .ok (.iload_n 3, 1) := by decide +kernel
theorem dL_law_243 : decode cL_law 243 = .ok (.ireturn, 1) := by decide +kernel
