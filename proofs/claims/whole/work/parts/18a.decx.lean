/-! DECODE ROWS (printed names) -/
theorem dJ9_min_7cf53_0 : decode cJ9_min_7cf53 0 = .ok (.iload_n 0, 1) := by decide +kernel
theorem dJ9_min_7cf53_1 : decode cJ9_min_7cf53 1 = .ok (.iload_n 1, 1) := by decide +kernel
theorem dJ9_min_7cf53_2 : decode cJ9_min_7cf53 2 = .ok (.if_icmp .gt 7, 3) := by decide +kernel
theorem dJ9_min_7cf53_5 : decode cJ9_min_7cf53 5 = .ok (.iload_n 0, 1) := by decide +kernel
theorem dJ9_min_7cf53_6 : decode cJ9_min_7cf53 6 = .ok (.goto 4, 3) := by decide +kernel
theorem dJ9_min_7cf53_9 : decode cJ9_min_7cf53 9 = .ok (.iload_n 1, 1) := by decide +kernel
theorem dJ9_min_7cf53_10 : decode cJ9_min_7cf53 10 = .ok (.ireturn, 1) := by decide +kernel
theorem dJ9_max_7cf53_0 : decode cJ9_max_7cf53 0 = .ok (.iload_n 0, 1) := by decide +kernel
theorem dJ9_max_7cf53_1 : decode cJ9_max_7cf53 1 = .ok (.iload_n 1, 1) := by decide +kernel
theorem dJ9_max_7cf53_2 : decode cJ9_max_7cf53 2 = .ok (.if_icmp .lt 7, 3) := by decide +kernel
theorem dJ9_max_7cf53_5 : decode cJ9_max_7cf53 5 = .ok (.iload_n 0, 1) := by decide +kernel
theorem dJ9_max_7cf53_6 : decode cJ9_max_7cf53 6 = .ok (.goto 4, 3) := by decide +kernel
theorem dJ9_max_7cf53_9 : decode cJ9_max_7cf53 9 = .ok (.iload_n 1, 1) := by decide +kernel
theorem dJ9_max_7cf53_10 : decode cJ9_max_7cf53 10 = .ok (.ireturn, 1) := by decide +kernel
theorem dJ0_length_8abf5_0 : decode cJ0_length_8abf5 0 = .ok (.aload_n 0, 1) := by decide +kernel
theorem dJ0_length_8abf5_1 : decode cJ0_length_8abf5 1 = .ok (.getfield 9, 3) := by decide +kernel
theorem dJ0_length_8abf5_4 : decode cJ0_length_8abf5 4 = .ok (.arraylength, 1) := by decide +kernel
theorem dJ0_length_8abf5_5 : decode cJ0_length_8abf5 5 = .ok (.aload_n 0, 1) := by decide +kernel
theorem dJ0_length_8abf5_6 : decode cJ0_length_8abf5 6 = .ok (.invokevirtual 335, 3) := by decide +kernel
theorem dJ0_length_8abf5_9 : decode cJ0_length_8abf5 9 = .ok (.ishr, 1) := by decide +kernel
theorem dJ0_length_8abf5_10 : decode cJ0_length_8abf5 10 = .ok (.ireturn, 1) := by decide +kernel
theorem dJ0_coder_7d493_0 : decode cJ0_coder_7d493 0 = .ok (.getstatic 38, 3) := by decide +kernel
theorem dJ0_coder_7d493_3 : decode cJ0_coder_7d493 3 = .ok (.ifCond .eq 10, 3) := by decide +kernel
theorem dJ0_coder_7d493_6 : decode cJ0_coder_7d493 6 = .ok (.aload_n 0, 1) := by decide +kernel
theorem dJ0_coder_7d493_7 : decode cJ0_coder_7d493 7 = .ok (.getfield 15, 3) := by decide +kernel
theorem dJ0_coder_7d493_10 : decode cJ0_coder_7d493 10 = .ok (.goto 4, 3) := by decide +kernel
theorem dJ0_coder_7d493_13 : decode cJ0_coder_7d493 13 = .ok (.iconst 1, 1) := by decide +kernel
theorem dJ0_coder_7d493_14 : decode cJ0_coder_7d493 14 = .ok (.ireturn, 1) := by decide +kernel
theorem dJ0_charAt_5068e_0 : decode cJ0_charAt_5068e 0 = .ok (.aload_n 0, 1) := by decide +kernel
theorem dJ0_charAt_5068e_1 : decode cJ0_charAt_5068e 1 = .ok (.invokevirtual 492, 3) := by decide +kernel
theorem dJ0_charAt_5068e_4 : decode cJ0_charAt_5068e 4 = .ok (.ifCond .eq 12, 3) := by decide +kernel
theorem dJ0_charAt_5068e_7 : decode cJ0_charAt_5068e 7 = .ok (.aload_n 0, 1) := by decide +kernel
theorem dJ0_charAt_5068e_8 : decode cJ0_charAt_5068e 8 = .ok (.getfield 9, 3) := by decide +kernel
theorem dJ0_charAt_5068e_11 : decode cJ0_charAt_5068e 11 = .ok (.iload_n 1, 1) := by decide +kernel
theorem dJ0_charAt_5068e_12 : decode cJ0_charAt_5068e 12 = .ok (.invokestatic 495, 3) := by decide +kernel
theorem dJ0_charAt_5068e_15 : decode cJ0_charAt_5068e 15 = .ok (.ireturn, 1) := by decide +kernel
theorem dJ0_charAt_5068e_16 : decode cJ0_charAt_5068e 16 = .ok (.aload_n 0, 1) := by decide +kernel
theorem dJ0_charAt_5068e_17 : decode cJ0_charAt_5068e 17 = .ok (.getfield 9, 3) := by decide +kernel
theorem dJ0_charAt_5068e_20 : decode cJ0_charAt_5068e 20 = .ok (.iload_n 1, 1) := by decide +kernel
theorem dJ0_charAt_5068e_21 : decode cJ0_charAt_5068e 21 = .ok (.invokestatic 498, 3) := by decide +kernel
theorem dJ0_charAt_5068e_24 : decode cJ0_charAt_5068e 24 = .ok (.ireturn, 1) := by decide +kernel
theorem dJ0_isLatin1_aae02_0 : decode cJ0_isLatin1_aae02 0 = .ok (.getstatic 38, 3) := by decide +kernel
theorem dJ0_isLatin1_aae02_3 : decode cJ0_isLatin1_aae02 3 = .ok (.ifCond .eq 14, 3) := by decide +kernel
theorem dJ0_isLatin1_aae02_6 : decode cJ0_isLatin1_aae02 6 = .ok (.aload_n 0, 1) := by decide +kernel
theorem dJ0_isLatin1_aae02_7 : decode cJ0_isLatin1_aae02 7 = .ok (.getfield 15, 3) := by decide +kernel
theorem dJ0_isLatin1_aae02_10 : decode cJ0_isLatin1_aae02 10 = .ok (.ifCond .ne 7, 3) := by decide +kernel
theorem dJ0_isLatin1_aae02_13 : decode cJ0_isLatin1_aae02 13 = .ok (.iconst 1, 1) := by decide +kernel
theorem dJ0_isLatin1_aae02_14 : decode cJ0_isLatin1_aae02 14 = .ok (.goto 4, 3) := by decide +kernel
theorem dJ0_isLatin1_aae02_17 : decode cJ0_isLatin1_aae02 17 = .ok (.iconst 0, 1) := by decide +kernel
theorem dJ0_isLatin1_aae02_18 : decode cJ0_isLatin1_aae02 18 = .ok (.ireturn, 1) := by decide +kernel
theorem dJ1_charAt_3b067_0 : decode cJ1_charAt_3b067 0 = .ok (.iload_n 1, 1) := by decide +kernel
theorem dJ1_charAt_3b067_1 : decode cJ1_charAt_3b067 1 = .ok (.aload_n 0, 1) := by decide +kernel
theorem dJ1_charAt_3b067_2 : decode cJ1_charAt_3b067 2 = .ok (.arraylength, 1) := by decide +kernel
theorem dJ1_charAt_3b067_3 : decode cJ1_charAt_3b067 3 = .ok (.invokestatic 9, 3) := by decide +kernel
theorem dJ1_charAt_3b067_6 : decode cJ1_charAt_3b067 6 = .ok (.aload_n 0, 1) := by decide +kernel
theorem dJ1_charAt_3b067_7 : decode cJ1_charAt_3b067 7 = .ok (.iload_n 1, 1) := by decide +kernel
theorem dJ1_charAt_3b067_8 : decode cJ1_charAt_3b067 8 = .ok (.baload, 1) := by decide +kernel
theorem dJ1_charAt_3b067_9 : decode cJ1_charAt_3b067 9 = .ok (.sipush 255, 3) := by decide +kernel
theorem dJ1_charAt_3b067_12 : decode cJ1_charAt_3b067 12 = .ok (.iand, 1) := by decide +kernel
theorem dJ1_charAt_3b067_13 : decode cJ1_charAt_3b067 13 = .ok (.i2c, 1) := by decide +kernel
theorem dJ1_charAt_3b067_14 : decode cJ1_charAt_3b067 14 = .ok (.ireturn, 1) := by decide +kernel
theorem dJ0_checkIndex_df160_0 : decode cJ0_checkIndex_df160 0 = .ok (.iload_n 0, 1) := by decide +kernel
theorem dJ0_checkIndex_df160_1 : decode cJ0_checkIndex_df160 1 = .ok (.iload_n 1, 1) := by decide +kernel
theorem dJ0_checkIndex_df160_2 : decode cJ0_checkIndex_df160 2 = .ok (.getstatic 1053, 3) := by decide +kernel
theorem dJ0_checkIndex_df160_5 : decode cJ0_checkIndex_df160 5 = .ok (.invokestatic 1059, 3) := by decide +kernel
theorem dJ0_checkIndex_df160_8 : decode cJ0_checkIndex_df160 8 = .ok (.pop, 1) := by decide +kernel
theorem dJ0_checkIndex_df160_9 : decode cJ0_checkIndex_df160 9 = .ok (.return_, 1) := by decide +kernel
theorem dJ3_checkIndex_8e157_0 : decode cJ3_checkIndex_8e157 0 = .ok (.iload_n 0, 1) := by decide +kernel
theorem dJ3_checkIndex_8e157_1 : decode cJ3_checkIndex_8e157 1 = .ok (.ifCond .lt 8, 3) := by decide +kernel
theorem dJ3_checkIndex_8e157_4 : decode cJ3_checkIndex_8e157 4 = .ok (.iload_n 0, 1) := by decide +kernel
theorem dJ3_checkIndex_8e157_5 : decode cJ3_checkIndex_8e157 5 = .ok (.iload_n 1, 1) := by decide +kernel
theorem dJ3_checkIndex_8e157_6 : decode cJ3_checkIndex_8e157 6 = .ok (.if_icmp .lt 10, 3) := by decide +kernel
theorem dJ3_checkIndex_8e157_9 : decode cJ3_checkIndex_8e157 9 = .ok (.aload_n 2, 1) := by decide +kernel
theorem dJ3_checkIndex_8e157_10 : decode cJ3_checkIndex_8e157 10 = .ok (.iload_n 0, 1) := by decide +kernel
theorem dJ3_checkIndex_8e157_11 : decode cJ3_checkIndex_8e157 11 = .ok (.iload_n 1, 1) := by decide +kernel
theorem dJ3_checkIndex_8e157_12 : decode cJ3_checkIndex_8e157 12 = .ok (.invokestatic 95, 3) := by decide +kernel
theorem dJ3_checkIndex_8e157_15 : decode cJ3_checkIndex_8e157 15 = .ok (.athrow, 1) := by decide +kernel
theorem dJ3_checkIndex_8e157_16 : decode cJ3_checkIndex_8e157 16 = .ok (.iload_n 0, 1) := by decide +kernel
theorem dJ3_checkIndex_8e157_17 : decode cJ3_checkIndex_8e157 17 = .ok (.ireturn, 1) := by decide +kernel
theorem dJ0_isEmpty_aae02_0 : decode cJ0_isEmpty_aae02 0 = .ok (.aload_n 0, 1) := by decide +kernel
theorem dJ0_isEmpty_aae02_1 : decode cJ0_isEmpty_aae02 1 = .ok (.getfield 9, 3) := by decide +kernel
theorem dJ0_isEmpty_aae02_4 : decode cJ0_isEmpty_aae02 4 = .ok (.arraylength, 1) := by decide +kernel
theorem dJ0_isEmpty_aae02_5 : decode cJ0_isEmpty_aae02 5 = .ok (.ifCond .ne 7, 3) := by decide +kernel
theorem dJ0_isEmpty_aae02_8 : decode cJ0_isEmpty_aae02 8 = .ok (.iconst 1, 1) := by decide +kernel
theorem dJ0_isEmpty_aae02_9 : decode cJ0_isEmpty_aae02 9 = .ok (.goto 4, 3) := by decide +kernel
theorem dJ0_isEmpty_aae02_12 : decode cJ0_isEmpty_aae02 12 = .ok (.iconst 0, 1) := by decide +kernel
theorem dJ0_isEmpty_aae02_13 : decode cJ0_isEmpty_aae02 13 = .ok (.ireturn, 1) := by decide +kernel
theorem dJ13_bitCount_95d88_0 : decode cJ13_bitCount_95d88 0 = .ok (.lload_n 0, 1) := by decide +kernel
theorem dJ13_bitCount_95d88_1 : decode cJ13_bitCount_95d88 1 = .ok (.lload_n 0, 1) := by decide +kernel
theorem dJ13_bitCount_95d88_2 : decode cJ13_bitCount_95d88 2 = .ok (.iconst 1, 1) := by decide +kernel
theorem dJ13_bitCount_95d88_3 : decode cJ13_bitCount_95d88 3 = .ok (.lushr, 1) := by decide +kernel
theorem dJ13_bitCount_95d88_4 : decode cJ13_bitCount_95d88 4 = .ok (.ldc2_w 314, 3) := by decide +kernel
theorem dJ13_bitCount_95d88_7 : decode cJ13_bitCount_95d88 7 = .ok (.land, 1) := by decide +kernel
theorem dJ13_bitCount_95d88_8 : decode cJ13_bitCount_95d88 8 = .ok (.lsub, 1) := by decide +kernel
theorem dJ13_bitCount_95d88_9 : decode cJ13_bitCount_95d88 9 = .ok (.lstore_n 0, 1) := by decide +kernel
theorem dJ13_bitCount_95d88_10 : decode cJ13_bitCount_95d88 10 = .ok (.lload_n 0, 1) := by decide +kernel
theorem dJ13_bitCount_95d88_11 : decode cJ13_bitCount_95d88 11 = .ok (.ldc2_w 316, 3) := by decide +kernel
theorem dJ13_bitCount_95d88_14 : decode cJ13_bitCount_95d88 14 = .ok (.land, 1) := by decide +kernel
theorem dJ13_bitCount_95d88_15 : decode cJ13_bitCount_95d88 15 = .ok (.lload_n 0, 1) := by decide +kernel
theorem dJ13_bitCount_95d88_16 : decode cJ13_bitCount_95d88 16 = .ok (.iconst 2, 1) := by decide +kernel
theorem dJ13_bitCount_95d88_17 : decode cJ13_bitCount_95d88 17 = .ok (.lushr, 1) := by decide +kernel
theorem dJ13_bitCount_95d88_18 : decode cJ13_bitCount_95d88 18 = .ok (.ldc2_w 316, 3) := by decide +kernel
theorem dJ13_bitCount_95d88_21 : decode cJ13_bitCount_95d88 21 = .ok (.land, 1) := by decide +kernel
theorem dJ13_bitCount_95d88_22 : decode cJ13_bitCount_95d88 22 = .ok (.ladd, 1) := by decide +kernel
theorem dJ13_bitCount_95d88_23 : decode cJ13_bitCount_95d88 23 = .ok (.lstore_n 0, 1) := by decide +kernel
theorem dJ13_bitCount_95d88_24 : decode cJ13_bitCount_95d88 24 = .ok (.lload_n 0, 1) := by decide +kernel
theorem dJ13_bitCount_95d88_25 : decode cJ13_bitCount_95d88 25 = .ok (.lload_n 0, 1) := by decide +kernel
theorem dJ13_bitCount_95d88_26 : decode cJ13_bitCount_95d88 26 = .ok (.iconst 4, 1) := by decide +kernel
theorem dJ13_bitCount_95d88_27 : decode cJ13_bitCount_95d88 27 = .ok (.lushr, 1) := by decide +kernel
theorem dJ13_bitCount_95d88_28 : decode cJ13_bitCount_95d88 28 = .ok (.ladd, 1) := by decide +kernel
theorem dJ13_bitCount_95d88_29 : decode cJ13_bitCount_95d88 29 = .ok (.ldc2_w 318, 3) := by decide +kernel
theorem dJ13_bitCount_95d88_32 : decode cJ13_bitCount_95d88 32 = .ok (.land, 1) := by decide +kernel
theorem dJ13_bitCount_95d88_33 : decode cJ13_bitCount_95d88 33 = .ok (.lstore_n 0, 1) := by decide +kernel
theorem dJ13_bitCount_95d88_34 : decode cJ13_bitCount_95d88 34 = .ok (.lload_n 0, 1) := by decide +kernel
theorem dJ13_bitCount_95d88_35 : decode cJ13_bitCount_95d88 35 = .ok (.lload_n 0, 1) := by decide +kernel
theorem dJ13_bitCount_95d88_36 : decode cJ13_bitCount_95d88 36 = .ok (.bipush 8, 2) := by decide +kernel
theorem dJ13_bitCount_95d88_38 : decode cJ13_bitCount_95d88 38 = .ok (.lushr, 1) := by decide +kernel
theorem dJ13_bitCount_95d88_39 : decode cJ13_bitCount_95d88 39 = .ok (.ladd, 1) := by decide +kernel
theorem dJ13_bitCount_95d88_40 : decode cJ13_bitCount_95d88 40 = .ok (.lstore_n 0, 1) := by decide +kernel
theorem dJ13_bitCount_95d88_41 : decode cJ13_bitCount_95d88 41 = .ok (.lload_n 0, 1) := by decide +kernel
theorem dJ13_bitCount_95d88_42 : decode cJ13_bitCount_95d88 42 = .ok (.lload_n 0, 1) := by decide +kernel
theorem dJ13_bitCount_95d88_43 : decode cJ13_bitCount_95d88 43 = .ok (.bipush 16, 2) := by decide +kernel
theorem dJ13_bitCount_95d88_45 : decode cJ13_bitCount_95d88 45 = .ok (.lushr, 1) := by decide +kernel
theorem dJ13_bitCount_95d88_46 : decode cJ13_bitCount_95d88 46 = .ok (.ladd, 1) := by decide +kernel
theorem dJ13_bitCount_95d88_47 : decode cJ13_bitCount_95d88 47 = .ok (.lstore_n 0, 1) := by decide +kernel
theorem dJ13_bitCount_95d88_48 : decode cJ13_bitCount_95d88 48 = .ok (.lload_n 0, 1) := by decide +kernel
theorem dJ13_bitCount_95d88_49 : decode cJ13_bitCount_95d88 49 = .ok (.lload_n 0, 1) := by decide +kernel
theorem dJ13_bitCount_95d88_50 : decode cJ13_bitCount_95d88 50 = .ok (.bipush 32, 2) := by decide +kernel
theorem dJ13_bitCount_95d88_52 : decode cJ13_bitCount_95d88 52 = .ok (.lushr, 1) := by decide +kernel
theorem dJ13_bitCount_95d88_53 : decode cJ13_bitCount_95d88 53 = .ok (.ladd, 1) := by decide +kernel
theorem dJ13_bitCount_95d88_54 : decode cJ13_bitCount_95d88 54 = .ok (.lstore_n 0, 1) := by decide +kernel
theorem dJ13_bitCount_95d88_55 : decode cJ13_bitCount_95d88 55 = .ok (.lload_n 0, 1) := by decide +kernel
theorem dJ13_bitCount_95d88_56 : decode cJ13_bitCount_95d88 56 = .ok (.l2i, 1) := by decide +kernel
theorem dJ13_bitCount_95d88_57 : decode cJ13_bitCount_95d88 57 = .ok (.bipush 127, 2) := by decide +kernel
theorem dJ13_bitCount_95d88_59 : decode cJ13_bitCount_95d88 59 = .ok (.iand, 1) := by decide +kernel
theorem dJ13_bitCount_95d88_60 : decode cJ13_bitCount_95d88 60 = .ok (.ireturn, 1) := by decide +kernel
theorem dJ9_floorDiv_7cf53_0 : decode cJ9_floorDiv_7cf53 0 = .ok (.iload_n 0, 1) := by decide +kernel
theorem dJ9_floorDiv_7cf53_1 : decode cJ9_floorDiv_7cf53 1 = .ok (.iload_n 1, 1) := by decide +kernel
theorem dJ9_floorDiv_7cf53_2 : decode cJ9_floorDiv_7cf53 2 = .ok (.idiv, 1) := by decide +kernel
theorem dJ9_floorDiv_7cf53_3 : decode cJ9_floorDiv_7cf53 3 = .ok (.istore_n 2, 1) := by decide +kernel
theorem dJ9_floorDiv_7cf53_4 : decode cJ9_floorDiv_7cf53 4 = .ok (.iload_n 0, 1) := by decide +kernel
theorem dJ9_floorDiv_7cf53_5 : decode cJ9_floorDiv_7cf53 5 = .ok (.iload_n 1, 1) := by decide +kernel
theorem dJ9_floorDiv_7cf53_6 : decode cJ9_floorDiv_7cf53 6 = .ok (.ixor, 1) := by decide +kernel
theorem dJ9_floorDiv_7cf53_7 : decode cJ9_floorDiv_7cf53 7 = .ok (.ifCond .ge 14, 3) := by decide +kernel
theorem dJ9_floorDiv_7cf53_10 : decode cJ9_floorDiv_7cf53 10 = .ok (.iload_n 2, 1) := by decide +kernel
theorem dJ9_floorDiv_7cf53_11 : decode cJ9_floorDiv_7cf53 11 = .ok (.iload_n 1, 1) := by decide +kernel
theorem dJ9_floorDiv_7cf53_12 : decode cJ9_floorDiv_7cf53 12 = .ok (.imul, 1) := by decide +kernel
theorem dJ9_floorDiv_7cf53_13 : decode cJ9_floorDiv_7cf53 13 = .ok (.iload_n 0, 1) := by decide +kernel
theorem dJ9_floorDiv_7cf53_14 : decode cJ9_floorDiv_7cf53 14 = .ok (.if_icmp .eq 7, 3) := by decide +kernel
theorem dJ9_floorDiv_7cf53_17 : decode cJ9_floorDiv_7cf53 17 = .ok (.iload_n 2, 1) := by decide +kernel
theorem dJ9_floorDiv_7cf53_18 : decode cJ9_floorDiv_7cf53 18 = .ok (.iconst 1, 1) := by decide +kernel
theorem dJ9_floorDiv_7cf53_19 : decode cJ9_floorDiv_7cf53 19 = .ok (.isub, 1) := by decide +kernel
theorem dJ9_floorDiv_7cf53_20 : decode cJ9_floorDiv_7cf53 20 = .ok (.ireturn, 1) := by decide +kernel
theorem dJ9_floorDiv_7cf53_21 : decode cJ9_floorDiv_7cf53 21 = .ok (.iload_n 2, 1) := by decide +kernel
theorem dJ9_floorDiv_7cf53_22 : decode cJ9_floorDiv_7cf53 22 = .ok (.ireturn, 1) := by decide +kernel
theorem dJ9_abs_0f7a4_0 : decode cJ9_abs_0f7a4 0 = .ok (.iload_n 0, 1) := by decide +kernel
theorem dJ9_abs_0f7a4_1 : decode cJ9_abs_0f7a4 1 = .ok (.ifCond .ge 8, 3) := by decide +kernel
theorem dJ9_abs_0f7a4_4 : decode cJ9_abs_0f7a4 4 = .ok (.iload_n 0, 1) := by decide +kernel
theorem dJ9_abs_0f7a4_5 : decode cJ9_abs_0f7a4 5 = .ok (.ineg, 1) := by decide +kernel
theorem dJ9_abs_0f7a4_6 : decode cJ9_abs_0f7a4 6 = .ok (.goto 4, 3) := by decide +kernel
theorem dJ9_abs_0f7a4_9 : decode cJ9_abs_0f7a4 9 = .ok (.iload_n 0, 1) := by decide +kernel
theorem dJ9_abs_0f7a4_10 : decode cJ9_abs_0f7a4 10 = .ok (.ireturn, 1) := by decide +kernel
theorem dJ9_floorMod_7cf53_0 : decode cJ9_floorMod_7cf53 0 = .ok (.iload_n 0, 1) := by decide +kernel
theorem dJ9_floorMod_7cf53_1 : decode cJ9_floorMod_7cf53 1 = .ok (.iload_n 1, 1) := by decide +kernel
theorem dJ9_floorMod_7cf53_2 : decode cJ9_floorMod_7cf53 2 = .ok (.irem, 1) := by decide +kernel
theorem dJ9_floorMod_7cf53_3 : decode cJ9_floorMod_7cf53 3 = .ok (.istore_n 2, 1) := by decide +kernel
theorem dJ9_floorMod_7cf53_4 : decode cJ9_floorMod_7cf53 4 = .ok (.iload_n 0, 1) := by decide +kernel
theorem dJ9_floorMod_7cf53_5 : decode cJ9_floorMod_7cf53 5 = .ok (.iload_n 1, 1) := by decide +kernel
theorem dJ9_floorMod_7cf53_6 : decode cJ9_floorMod_7cf53 6 = .ok (.ixor, 1) := by decide +kernel
theorem dJ9_floorMod_7cf53_7 : decode cJ9_floorMod_7cf53 7 = .ok (.ifCond .ge 11, 3) := by decide +kernel
theorem dJ9_floorMod_7cf53_10 : decode cJ9_floorMod_7cf53 10 = .ok (.iload_n 2, 1) := by decide +kernel
theorem dJ9_floorMod_7cf53_11 : decode cJ9_floorMod_7cf53 11 = .ok (.ifCond .eq 7, 3) := by decide +kernel
theorem dJ9_floorMod_7cf53_14 : decode cJ9_floorMod_7cf53 14 = .ok (.iload_n 2, 1) := by decide +kernel
theorem dJ9_floorMod_7cf53_15 : decode cJ9_floorMod_7cf53 15 = .ok (.iload_n 1, 1) := by decide +kernel
theorem dJ9_floorMod_7cf53_16 : decode cJ9_floorMod_7cf53 16 = .ok (.iadd, 1) := by decide +kernel
theorem dJ9_floorMod_7cf53_17 : decode cJ9_floorMod_7cf53 17 = .ok (.ireturn, 1) := by decide +kernel
theorem dJ9_floorMod_7cf53_18 : decode cJ9_floorMod_7cf53 18 = .ok (.iload_n 2, 1) := by decide +kernel
theorem dJ9_floorMod_7cf53_19 : decode cJ9_floorMod_7cf53 19 = .ok (.ireturn, 1) := by decide +kernel
theorem dX4_init_0 : decode cX4_init 0 = .ok (.aload_n 0, 1) := by decide +kernel
theorem dX4_init_1 : decode cX4_init 1 = .ok (.invokespecial 1, 3) := by decide +kernel
theorem dX4_init_4 : decode cX4_init 4 = .ok (.aload_n 0, 1) := by decide +kernel
theorem dX4_init_5 : decode cX4_init 5 = .ok (.iload_n 1, 1) := by decide +kernel
theorem dX4_init_6 : decode cX4_init 6 = .ok (.putfield 7, 3) := by decide +kernel
theorem dX4_init_9 : decode cX4_init 9 = .ok (.aload_n 0, 1) := by decide +kernel
theorem dX4_init_10 : decode cX4_init 10 = .ok (.iload_n 2, 1) := by decide +kernel
theorem dX4_init_11 : decode cX4_init 11 = .ok (.putfield 13, 3) := by decide +kernel
theorem dX4_init_14 : decode cX4_init 14 = .ok (.aload_n 0, 1) := by decide +kernel
theorem dX4_init_15 : decode cX4_init 15 = .ok (.iload_n 1, 1) := by decide +kernel
theorem dX4_init_16 : decode cX4_init 16 = .ok (.invokestatic 16, 3) := by decide +kernel
theorem dX4_init_19 : decode cX4_init 19 = .ok (.putfield 20, 3) := by decide +kernel
theorem dX4_init_22 : decode cX4_init 22 = .ok (.aload_n 0, 1) := by decide +kernel
theorem dX4_init_23 : decode cX4_init 23 = .ok (.iload_n 2, 1) := by decide +kernel
theorem dX4_init_24 : decode cX4_init 24 = .ok (.newarray .long, 2) := by decide +kernel
theorem dX4_init_26 : decode cX4_init 26 = .ok (.putfield 24, 3) := by decide +kernel
theorem dX4_init_29 : decode cX4_init 29 = .ok (.return_, 1) := by decide +kernel
theorem dX4_below_0 : decode cX4_below 0 = .ok (.iload_n 0, 1) := by decide +kernel
theorem dX4_below_1 : decode cX4_below 1 = .ok (.ifCond .gt 5, 3) := by decide +kernel
theorem dX4_below_4 : decode cX4_below 4 = .ok (.lconst 0, 1) := by decide +kernel
theorem dX4_below_5 : decode cX4_below 5 = .ok (.lreturn, 1) := by decide +kernel
theorem dX4_below_6 : decode cX4_below 6 = .ok (.iload_n 0, 1) := by decide +kernel
theorem dX4_below_7 : decode cX4_below 7 = .ok (.bipush 64, 2) := by decide +kernel
theorem dX4_below_9 : decode cX4_below 9 = .ok (.if_icmp .lt 9, 3) := by decide +kernel
theorem dX4_below_12 : decode cX4_below 12 = .ok (.ldc2_w 28, 3) := by decide +kernel
theorem dX4_below_15 : decode cX4_below 15 = .ok (.goto 8, 3) := by decide +kernel
theorem dX4_below_18 : decode cX4_below 18 = .ok (.lconst 1, 1) := by decide +kernel
theorem dX4_below_19 : decode cX4_below 19 = .ok (.iload_n 0, 1) := by decide +kernel
theorem dX4_below_20 : decode cX4_below 20 = .ok (.lshl, 1) := by decide +kernel
theorem dX4_below_21 : decode cX4_below 21 = .ok (.lconst 1, 1) := by decide +kernel
theorem dX4_below_22 : decode cX4_below 22 = .ok (.lsub, 1) := by decide +kernel
theorem dX4_below_23 : decode cX4_below 23 = .ok (.lreturn, 1) := by decide +kernel
theorem dX3_init_0 : decode cX3_init 0 = .ok (.aload_n 0, 1) := by decide +kernel
theorem dX3_init_1 : decode cX3_init 1 = .ok (.invokespecial 3, 3) := by decide +kernel
theorem dX3_init_4 : decode cX3_init 4 = .ok (.aload_n 0, 1) := by decide +kernel
theorem dX3_init_5 : decode cX3_init 5 = .ok (.bipush 8, 2) := by decide +kernel
theorem dX3_init_7 : decode cX3_init 7 = .ok (.anewarray 9, 3) := by decide +kernel
theorem dX3_init_10 : decode cX3_init 10 = .ok (.putfield 11, 3) := by decide +kernel
theorem dX3_init_13 : decode cX3_init 13 = .ok (.aload_n 0, 1) := by decide +kernel
theorem dX3_init_14 : decode cX3_init 14 = .ok (.bipush 8, 2) := by decide +kernel
theorem dX3_init_16 : decode cX3_init 16 = .ok (.newarray .int, 2) := by decide +kernel
theorem dX3_init_18 : decode cX3_init 18 = .ok (.putfield 17, 3) := by decide +kernel
theorem dX3_init_21 : decode cX3_init 21 = .ok (.iconst 0, 1) := by decide +kernel
theorem dX3_init_22 : decode cX3_init 22 = .ok (.istore_n 3, 1) := by decide +kernel
theorem dX3_init_23 : decode cX3_init 23 = .ok (.iload_n 3, 1) := by decide +kernel
theorem dX3_init_24 : decode cX3_init 24 = .ok (.bipush 8, 2) := by decide +kernel
theorem dX3_init_26 : decode cX3_init 26 = .ok (.if_icmp .ge 24, 3) := by decide +kernel
theorem dX3_init_29 : decode cX3_init 29 = .ok (.aload_n 0, 1) := by decide +kernel
theorem dX3_init_30 : decode cX3_init 30 = .ok (.getfield 11, 3) := by decide +kernel
theorem dX3_init_33 : decode cX3_init 33 = .ok (.iload_n 3, 1) := by decide +kernel
theorem dX3_init_34 : decode cX3_init 34 = .ok (.new 9, 3) := by decide +kernel
theorem dX3_init_37 : decode cX3_init 37 = .ok (.dup, 1) := by decide +kernel
theorem dX3_init_38 : decode cX3_init 38 = .ok (.iload_n 1, 1) := by decide +kernel
theorem dX3_init_39 : decode cX3_init 39 = .ok (.iload_n 2, 1) := by decide +kernel
theorem dX3_init_40 : decode cX3_init 40 = .ok (.invokespecial 21, 3) := by decide +kernel
theorem dX3_init_43 : decode cX3_init 43 = .ok (.aastore, 1) := by decide +kernel
theorem dX3_init_44 : decode cX3_init 44 = .ok (.iinc 3 1, 3) := by decide +kernel
theorem dX3_init_47 : decode cX3_init 47 = .ok (.goto (-24), 3) := by decide +kernel
theorem dX3_init_50 : decode cX3_init 50 = .ok (.return_, 1) := by decide +kernel
theorem dX4_paint_0 : decode cX4_paint 0 = .ok (.aload_n 0, 1) := by decide +kernel
theorem dX4_paint_1 : decode cX4_paint 1 = .ok (.lload_n 1, 1) := by decide +kernel
theorem dX4_paint_2 : decode cX4_paint 2 = .ok (.iload 5, 2) := by decide +kernel
theorem dX4_paint_4 : decode cX4_paint 4 = .ok (.invokevirtual 47, 3) := by decide +kernel
theorem dX4_paint_7 : decode cX4_paint 7 = .ok (.lstore 8, 2) := by decide +kernel
theorem dX4_paint_9 : decode cX4_paint 9 = .ok (.lload_n 3, 1) := by decide +kernel
theorem dX4_paint_10 : decode cX4_paint 10 = .ok (.iload 6, 2) := by decide +kernel
theorem dX4_paint_12 : decode cX4_paint 12 = .ok (.i2l, 1) := by decide +kernel
theorem dX4_paint_13 : decode cX4_paint 13 = .ok (.ladd, 1) := by decide +kernel
theorem dX4_paint_14 : decode cX4_paint 14 = .ok (.aload_n 0, 1) := by decide +kernel
theorem dX4_paint_15 : decode cX4_paint 15 = .ok (.getfield 13, 3) := by decide +kernel
theorem dX4_paint_18 : decode cX4_paint 18 = .ok (.invokestatic 43, 3) := by decide +kernel
theorem dX4_paint_21 : decode cX4_paint 21 = .ok (.istore 10, 2) := by decide +kernel
theorem dX4_paint_23 : decode cX4_paint 23 = .ok (.lload_n 3, 1) := by decide +kernel
theorem dX4_paint_24 : decode cX4_paint 24 = .ok (.aload_n 0, 1) := by decide +kernel
theorem dX4_paint_25 : decode cX4_paint 25 = .ok (.getfield 13, 3) := by decide +kernel
theorem dX4_paint_28 : decode cX4_paint 28 = .ok (.invokestatic 43, 3) := by decide +kernel
theorem dX4_paint_31 : decode cX4_paint 31 = .ok (.istore 11, 2) := by decide +kernel
theorem dX4_paint_33 : decode cX4_paint 33 = .ok (.iload 11, 2) := by decide +kernel
theorem dX4_paint_35 : decode cX4_paint 35 = .ok (.iload 10, 2) := by decide +kernel
theorem dX4_paint_37 : decode cX4_paint 37 = .ok (.if_icmp .ge 45, 3) := by decide +kernel
theorem dX4_paint_40 : decode cX4_paint 40 = .ok (.aload_n 0, 1) := by decide +kernel
theorem dX4_paint_41 : decode cX4_paint 41 = .ok (.iload 11, 2) := by decide +kernel
theorem dX4_paint_43 : decode cX4_paint 43 = .ok (.iload 7, 2) := by decide +kernel
theorem dX4_paint_45 : decode cX4_paint 45 = .ok (.ifCond .eq 15, 3) := by decide +kernel
theorem dX4_paint_48 : decode cX4_paint 48 = .ok (.aload_n 0, 1) := by decide +kernel
theorem dX4_paint_49 : decode cX4_paint 49 = .ok (.iload 11, 2) := by decide +kernel
theorem dX4_paint_51 : decode cX4_paint 51 = .ok (.invokevirtual 30, 3) := by decide +kernel
theorem dX4_paint_54 : decode cX4_paint 54 = .ok (.lload 8, 2) := by decide +kernel
theorem dX4_paint_56 : decode cX4_paint 56 = .ok (.lor, 1) := by decide +kernel
theorem dX4_paint_57 : decode cX4_paint 57 = .ok (.goto 16, 3) := by decide +kernel
theorem dX4_paint_60 : decode cX4_paint 60 = .ok (.aload_n 0, 1) := by decide +kernel
theorem dX4_paint_61 : decode cX4_paint 61 = .ok (.iload 11, 2) := by decide +kernel
theorem dX4_paint_63 : decode cX4_paint 63 = .ok (.invokevirtual 30, 3) := by decide +kernel
theorem dX4_paint_66 : decode cX4_paint 66 = .ok (.lload 8, 2) := by decide +kernel
theorem dX4_paint_68 : decode cX4_paint 68 = .ok (.ldc2_w 28, 3) := by decide +kernel
theorem dX4_paint_71 : decode cX4_paint 71 = .ok (.lxor, 1) := by decide +kernel
theorem dX4_paint_72 : decode cX4_paint 72 = .ok (.land, 1) := by decide +kernel
theorem dX4_paint_73 : decode cX4_paint 73 = .ok (.invokevirtual 33, 3) := by decide +kernel
theorem dX4_paint_76 : decode cX4_paint 76 = .ok (.iinc 11 1, 3) := by decide +kernel
theorem dX4_paint_79 : decode cX4_paint 79 = .ok (.goto (-46), 3) := by decide +kernel
theorem dX4_paint_82 : decode cX4_paint 82 = .ok (.return_, 1) := by decide +kernel
theorem dX4_span_0 : decode cX4_span 0 = .ok (.lload_n 1, 1) := by decide +kernel
theorem dX4_span_1 : decode cX4_span 1 = .ok (.iload_n 3, 1) := by decide +kernel
theorem dX4_span_2 : decode cX4_span 2 = .ok (.i2l, 1) := by decide +kernel
theorem dX4_span_3 : decode cX4_span 3 = .ok (.ladd, 1) := by decide +kernel
theorem dX4_span_4 : decode cX4_span 4 = .ok (.aload_n 0, 1) := by decide +kernel
theorem dX4_span_5 : decode cX4_span 5 = .ok (.getfield 7, 3) := by decide +kernel
theorem dX4_span_8 : decode cX4_span 8 = .ok (.invokestatic 43, 3) := by decide +kernel
theorem dX4_span_11 : decode cX4_span 11 = .ok (.invokestatic 16, 3) := by decide +kernel
theorem dX4_span_14 : decode cX4_span 14 = .ok (.lload_n 1, 1) := by decide +kernel
theorem dX4_span_15 : decode cX4_span 15 = .ok (.aload_n 0, 1) := by decide +kernel
theorem dX4_span_16 : decode cX4_span 16 = .ok (.getfield 7, 3) := by decide +kernel
theorem dX4_span_19 : decode cX4_span 19 = .ok (.invokestatic 43, 3) := by decide +kernel
theorem dX4_span_22 : decode cX4_span 22 = .ok (.invokestatic 16, 3) := by decide +kernel
theorem dX4_span_25 : decode cX4_span 25 = .ok (.ldc2_w 28, 3) := by decide +kernel
theorem dX4_span_28 : decode cX4_span 28 = .ok (.lxor, 1) := by decide +kernel
theorem dX4_span_29 : decode cX4_span 29 = .ok (.land, 1) := by decide +kernel
theorem dX4_span_30 : decode cX4_span 30 = .ok (.lreturn, 1) := by decide +kernel
theorem dX4_clipped_0 : decode cX4_clipped 0 = .ok (.lload_n 0, 1) := by decide +kernel
theorem dX4_clipped_1 : decode cX4_clipped 1 = .ok (.lconst 0, 1) := by decide +kernel
theorem dX4_clipped_2 : decode cX4_clipped 2 = .ok (.lcmp, 1) := by decide +kernel
theorem dX4_clipped_3 : decode cX4_clipped 3 = .ok (.ifCond .ge 5, 3) := by decide +kernel
theorem dX4_clipped_6 : decode cX4_clipped 6 = .ok (.iconst 0, 1) := by decide +kernel
theorem dX4_clipped_7 : decode cX4_clipped 7 = .ok (.ireturn, 1) := by decide +kernel
theorem dX4_clipped_8 : decode cX4_clipped 8 = .ok (.lload_n 0, 1) := by decide +kernel
theorem dX4_clipped_9 : decode cX4_clipped 9 = .ok (.iload_n 2, 1) := by decide +kernel
theorem dX4_clipped_10 : decode cX4_clipped 10 = .ok (.i2l, 1) := by decide +kernel
theorem dX4_clipped_11 : decode cX4_clipped 11 = .ok (.lcmp, 1) := by decide +kernel
theorem dX4_clipped_12 : decode cX4_clipped 12 = .ok (.ifCond .le 7, 3) := by decide +kernel
theorem dX4_clipped_15 : decode cX4_clipped 15 = .ok (.iload_n 2, 1) := by decide +kernel
theorem dX4_clipped_16 : decode cX4_clipped 16 = .ok (.goto 5, 3) := by decide +kernel
theorem dX4_clipped_19 : decode cX4_clipped 19 = .ok (.lload_n 0, 1) := by decide +kernel
theorem dX4_clipped_20 : decode cX4_clipped 20 = .ok (.l2i, 1) := by decide +kernel
theorem dX4_clipped_21 : decode cX4_clipped 21 = .ok (.ireturn, 1) := by decide +kernel
theorem dX4_rowAt_0 : decode cX4_rowAt 0 = .ok (.iload_n 1, 1) := by decide +kernel
theorem dX4_rowAt_1 : decode cX4_rowAt 1 = .ok (.ifCond .lt 21, 3) := by decide +kernel
theorem dX4_rowAt_4 : decode cX4_rowAt 4 = .ok (.iload_n 1, 1) := by decide +kernel
theorem dX4_rowAt_5 : decode cX4_rowAt 5 = .ok (.aload_n 0, 1) := by decide +kernel
theorem dX4_rowAt_6 : decode cX4_rowAt 6 = .ok (.getfield 24, 3) := by decide +kernel
theorem dX4_rowAt_9 : decode cX4_rowAt 9 = .ok (.arraylength, 1) := by decide +kernel
theorem dX4_rowAt_10 : decode cX4_rowAt 10 = .ok (.if_icmp .ge 12, 3) := by decide +kernel
theorem dX4_rowAt_13 : decode cX4_rowAt 13 = .ok (.aload_n 0, 1) := by decide +kernel
theorem dX4_rowAt_14 : decode cX4_rowAt 14 = .ok (.getfield 24, 3) := by decide +kernel
theorem dX4_rowAt_17 : decode cX4_rowAt 17 = .ok (.iload_n 1, 1) := by decide +kernel
theorem dX4_rowAt_18 : decode cX4_rowAt 18 = .ok (.laload, 1) := by decide +kernel
theorem dX4_rowAt_19 : decode cX4_rowAt 19 = .ok (.goto 4, 3) := by decide +kernel
theorem dX4_rowAt_22 : decode cX4_rowAt 22 = .ok (.lconst 0, 1) := by decide +kernel
theorem dX4_rowAt_23 : decode cX4_rowAt 23 = .ok (.lreturn, 1) := by decide +kernel
theorem dX4_putRow_0 : decode cX4_putRow 0 = .ok (.iload_n 1, 1) := by decide +kernel
theorem dX4_putRow_1 : decode cX4_putRow 1 = .ok (.ifCond .lt 24, 3) := by decide +kernel
theorem dX4_putRow_4 : decode cX4_putRow 4 = .ok (.iload_n 1, 1) := by decide +kernel
theorem dX4_putRow_5 : decode cX4_putRow 5 = .ok (.aload_n 0, 1) := by decide +kernel
theorem dX4_putRow_6 : decode cX4_putRow 6 = .ok (.getfield 24, 3) := by decide +kernel
theorem dX4_putRow_9 : decode cX4_putRow 9 = .ok (.arraylength, 1) := by decide +kernel
theorem dX4_putRow_10 : decode cX4_putRow 10 = .ok (.if_icmp .ge 15, 3) := by decide +kernel
theorem dX4_putRow_13 : decode cX4_putRow 13 = .ok (.aload_n 0, 1) := by decide +kernel
theorem dX4_putRow_14 : decode cX4_putRow 14 = .ok (.getfield 24, 3) := by decide +kernel
theorem dX4_putRow_17 : decode cX4_putRow 17 = .ok (.iload_n 1, 1) := by decide +kernel
theorem dX4_putRow_18 : decode cX4_putRow 18 = .ok (.lload_n 2, 1) := by decide +kernel
theorem dX4_putRow_19 : decode cX4_putRow 19 = .ok (.aload_n 0, 1) := by decide +kernel
theorem dX4_putRow_20 : decode cX4_putRow 20 = .ok (.getfield 20, 3) := by decide +kernel
theorem dX4_putRow_23 : decode cX4_putRow 23 = .ok (.land, 1) := by decide +kernel
theorem dX4_putRow_24 : decode cX4_putRow 24 = .ok (.lastore, 1) := by decide +kernel
theorem dX4_putRow_25 : decode cX4_putRow 25 = .ok (.return_, 1) := by decide +kernel
theorem dX4_takeFrom_0 : decode cX4_takeFrom 0 = .ok (.iconst 0, 1) := by decide +kernel
theorem dX4_takeFrom_1 : decode cX4_takeFrom 1 = .ok (.istore_n 2, 1) := by decide +kernel
theorem dX4_takeFrom_2 : decode cX4_takeFrom 2 = .ok (.iload_n 2, 1) := by decide +kernel
theorem dX4_takeFrom_3 : decode cX4_takeFrom 3 = .ok (.aload_n 0, 1) := by decide +kernel
theorem dX4_takeFrom_4 : decode cX4_takeFrom 4 = .ok (.getfield 13, 3) := by decide +kernel
theorem dX4_takeFrom_7 : decode cX4_takeFrom 7 = .ok (.if_icmp .ge 19, 3) := by decide +kernel
theorem dX4_takeFrom_10 : decode cX4_takeFrom 10 = .ok (.aload_n 0, 1) := by decide +kernel
theorem dX4_takeFrom_11 : decode cX4_takeFrom 11 = .ok (.iload_n 2, 1) := by decide +kernel
theorem dX4_takeFrom_12 : decode cX4_takeFrom 12 = .ok (.aload_n 1, 1) := by decide +kernel
theorem dX4_takeFrom_13 : decode cX4_takeFrom 13 = .ok (.iload_n 2, 1) := by decide +kernel
theorem dX4_takeFrom_14 : decode cX4_takeFrom 14 = .ok (.invokevirtual 30, 3) := by decide +kernel
theorem dX4_takeFrom_17 : decode cX4_takeFrom 17 = .ok (.invokevirtual 33, 3) := by decide +kernel
theorem dX4_takeFrom_20 : decode cX4_takeFrom 20 = .ok (.iinc 2 1, 3) := by decide +kernel
theorem dX4_takeFrom_23 : decode cX4_takeFrom 23 = .ok (.goto (-21), 3) := by decide +kernel
theorem dX4_takeFrom_26 : decode cX4_takeFrom 26 = .ok (.return_, 1) := by decide +kernel
theorem dX4_inkWithin_0 : decode cX4_inkWithin 0 = .ok (.aload_n 0, 1) := by decide +kernel
theorem dX4_inkWithin_1 : decode cX4_inkWithin 1 = .ok (.lload_n 1, 1) := by decide +kernel
theorem dX4_inkWithin_2 : decode cX4_inkWithin 2 = .ok (.iload 5, 2) := by decide +kernel
theorem dX4_inkWithin_4 : decode cX4_inkWithin 4 = .ok (.invokevirtual 47, 3) := by decide +kernel
theorem dX4_inkWithin_7 : decode cX4_inkWithin 7 = .ok (.lstore 7, 2) := by decide +kernel
theorem dX4_inkWithin_9 : decode cX4_inkWithin 9 = .ok (.lload_n 3, 1) := by decide +kernel
theorem dX4_inkWithin_10 : decode cX4_inkWithin 10 = .ok (.iload 6, 2) := by decide +kernel
theorem dX4_inkWithin_12 : decode cX4_inkWithin 12 = .ok (.i2l, 1) := by decide +kernel
theorem dX4_inkWithin_13 : decode cX4_inkWithin 13 = .ok (.ladd, 1) := by decide +kernel
theorem dX4_inkWithin_14 : decode cX4_inkWithin 14 = .ok (.aload_n 0, 1) := by decide +kernel
theorem dX4_inkWithin_15 : decode cX4_inkWithin 15 = .ok (.getfield 13, 3) := by decide +kernel
theorem dX4_inkWithin_18 : decode cX4_inkWithin 18 = .ok (.invokestatic 43, 3) := by decide +kernel
theorem dX4_inkWithin_21 : decode cX4_inkWithin 21 = .ok (.istore 9, 2) := by decide +kernel
theorem dX4_inkWithin_23 : decode cX4_inkWithin 23 = .ok (.iconst 0, 1) := by decide +kernel
theorem dX4_inkWithin_24 : decode cX4_inkWithin 24 = .ok (.istore 10, 2) := by decide +kernel
theorem dX4_inkWithin_26 : decode cX4_inkWithin 26 = .ok (.lload_n 3, 1) := by decide +kernel
theorem dX4_inkWithin_27 : decode cX4_inkWithin 27 = .ok (.aload_n 0, 1) := by decide +kernel
theorem dX4_inkWithin_28 : decode cX4_inkWithin 28 = .ok (.getfield 13, 3) := by decide +kernel
theorem dX4_inkWithin_31 : decode cX4_inkWithin 31 = .ok (.invokestatic 43, 3) := by decide +kernel
theorem dX4_inkWithin_34 : decode cX4_inkWithin 34 = .ok (.istore 11, 2) := by decide +kernel
theorem dX4_inkWithin_36 : decode cX4_inkWithin 36 = .ok (.iload 11, 2) := by decide +kernel
theorem dX4_inkWithin_38 : decode cX4_inkWithin 38 = .ok (.iload 9, 2) := by decide +kernel
theorem dX4_inkWithin_40 : decode cX4_inkWithin 40 = .ok (.if_icmp .ge 26, 3) := by decide +kernel
theorem dX4_inkWithin_43 : decode cX4_inkWithin 43 = .ok (.iload 10, 2) := by decide +kernel
theorem dX4_inkWithin_45 : decode cX4_inkWithin 45 = .ok (.aload_n 0, 1) := by decide +kernel
theorem dX4_inkWithin_46 : decode cX4_inkWithin 46 = .ok (.iload 11, 2) := by decide +kernel
theorem dX4_inkWithin_48 : decode cX4_inkWithin 48 = .ok (.invokevirtual 30, 3) := by decide +kernel
theorem dX4_inkWithin_51 : decode cX4_inkWithin 51 = .ok (.lload 7, 2) := by decide +kernel
theorem dX4_inkWithin_53 : decode cX4_inkWithin 53 = .ok (.land, 1) := by decide +kernel
theorem dX4_inkWithin_54 : decode cX4_inkWithin 54 = .ok (.invokestatic 37, 3) := by decide +kernel
theorem dX4_inkWithin_57 : decode cX4_inkWithin 57 = .ok (.iadd, 1) := by decide +kernel
theorem dX4_inkWithin_58 : decode cX4_inkWithin 58 = .ok (.istore 10, 2) := by decide +kernel
theorem dX4_inkWithin_60 : decode cX4_inkWithin 60 = .ok (.iinc 11 1, 3) := by decide +kernel
theorem dX4_inkWithin_63 : decode cX4_inkWithin 63 = .ok (.goto (-27), 3) := by decide +kernel
theorem dX4_inkWithin_66 : decode cX4_inkWithin 66 = .ok (.iload 10, 2) := by decide +kernel
theorem dX4_inkWithin_68 : decode cX4_inkWithin 68 = .ok (.ireturn, 1) := by decide +kernel
theorem dX4_drawFlipped_0 : decode cX4_drawFlipped 0 = .ok (.iconst 0, 1) := by decide +kernel
theorem dX4_drawFlipped_1 : decode cX4_drawFlipped 1 = .ok (.istore 4, 2) := by decide +kernel
theorem dX4_drawFlipped_3 : decode cX4_drawFlipped 3 = .ok (.iload 4, 2) := by decide +kernel
theorem dX4_drawFlipped_5 : decode cX4_drawFlipped 5 = .ok (.aload_n 0, 1) := by decide +kernel
theorem dX4_drawFlipped_6 : decode cX4_drawFlipped 6 = .ok (.getfield 13, 3) := by decide +kernel
theorem dX4_drawFlipped_9 : decode cX4_drawFlipped 9 = .ok (.if_icmp .ge 54, 3) := by decide +kernel
theorem dX4_drawFlipped_12 : decode cX4_drawFlipped 12 = .ok (.aload_n 1, 1) := by decide +kernel
theorem dX4_drawFlipped_13 : decode cX4_drawFlipped 13 = .ok (.iload_n 3, 1) := by decide +kernel
theorem dX4_drawFlipped_14 : decode cX4_drawFlipped 14 = .ok (.ifCond .eq 15, 3) := by decide +kernel
theorem dX4_drawFlipped_17 : decode cX4_drawFlipped 17 = .ok (.aload_n 0, 1) := by decide +kernel
theorem dX4_drawFlipped_18 : decode cX4_drawFlipped 18 = .ok (.getfield 13, 3) := by decide +kernel
theorem dX4_drawFlipped_21 : decode cX4_drawFlipped 21 = .ok (.iconst 1, 1) := by decide +kernel
theorem dX4_drawFlipped_22 : decode cX4_drawFlipped 22 = .ok (.isub, 1) := by decide +kernel
theorem dX4_drawFlipped_23 : decode cX4_drawFlipped 23 = .ok (.iload 4, 2) := by decide +kernel
theorem dX4_drawFlipped_25 : decode cX4_drawFlipped 25 = .ok (.isub, 1) := by decide +kernel
theorem dX4_drawFlipped_26 : decode cX4_drawFlipped 26 = .ok (.goto 5, 3) := by decide +kernel
theorem dX4_drawFlipped_29 : decode cX4_drawFlipped 29 = .ok (.iload 4, 2) := by decide +kernel
theorem dX4_drawFlipped_31 : decode cX4_drawFlipped 31 = .ok (.invokevirtual 30, 3) := by decide +kernel
theorem dX4_drawFlipped_34 : decode cX4_drawFlipped 34 = .ok (.lstore 5, 2) := by decide +kernel
theorem dX4_drawFlipped_36 : decode cX4_drawFlipped 36 = .ok (.aload_n 0, 1) := by decide +kernel
theorem dX4_drawFlipped_37 : decode cX4_drawFlipped 37 = .ok (.iload 4, 2) := by decide +kernel
theorem dX4_drawFlipped_39 : decode cX4_drawFlipped 39 = .ok (.iload_n 2, 1) := by decide +kernel
theorem dX4_drawFlipped_40 : decode cX4_drawFlipped 40 = .ok (.ifCond .eq 12, 3) := by decide +kernel
theorem dX4_drawFlipped_43 : decode cX4_drawFlipped 43 = .ok (.aload_n 0, 1) := by decide +kernel
theorem dX4_drawFlipped_44 : decode cX4_drawFlipped 44 = .ok (.lload 5, 2) := by decide +kernel
theorem dX4_drawFlipped_46 : decode cX4_drawFlipped 46 = .ok (.invokevirtual 54, 3) := by decide +kernel
theorem dX4_drawFlipped_49 : decode cX4_drawFlipped 49 = .ok (.goto 5, 3) := by decide +kernel
theorem dX4_drawFlipped_52 : decode cX4_drawFlipped 52 = .ok (.lload 5, 2) := by decide +kernel
theorem dX4_drawFlipped_54 : decode cX4_drawFlipped 54 = .ok (.invokevirtual 33, 3) := by decide +kernel
theorem dX4_drawFlipped_57 : decode cX4_drawFlipped 57 = .ok (.iinc 4 1, 3) := by decide +kernel
theorem dX4_drawFlipped_60 : decode cX4_drawFlipped 60 = .ok (.goto (-57), 3) := by decide +kernel
theorem dX4_drawFlipped_63 : decode cX4_drawFlipped 63 = .ok (.return_, 1) := by decide +kernel
theorem dX4_mirrored_0 : decode cX4_mirrored 0 = .ok (.lconst 0, 1) := by decide +kernel
theorem dX4_mirrored_1 : decode cX4_mirrored 1 = .ok (.lstore_n 3, 1) := by decide +kernel
theorem dX4_mirrored_2 : decode cX4_mirrored 2 = .ok (.iconst 0, 1) := by decide +kernel
theorem dX4_mirrored_3 : decode cX4_mirrored 3 = .ok (.istore 5, 2) := by decide +kernel
theorem dX4_mirrored_5 : decode cX4_mirrored 5 = .ok (.iload 5, 2) := by decide +kernel
theorem dX4_mirrored_7 : decode cX4_mirrored 7 = .ok (.aload_n 0, 1) := by decide +kernel
theorem dX4_mirrored_8 : decode cX4_mirrored 8 = .ok (.getfield 7, 3) := by decide +kernel
theorem dX4_mirrored_11 : decode cX4_mirrored 11 = .ok (.if_icmp .ge 20, 3) := by decide +kernel
theorem dX4_mirrored_14 : decode cX4_mirrored 14 = .ok (.lload_n 3, 1) := by decide +kernel
theorem dX4_mirrored_15 : decode cX4_mirrored 15 = .ok (.iconst 1, 1) := by decide +kernel
theorem dX4_mirrored_16 : decode cX4_mirrored 16 = .ok (.lshl, 1) := by decide +kernel
theorem dX4_mirrored_17 : decode cX4_mirrored 17 = .ok (.lload_n 1, 1) := by decide +kernel
theorem dX4_mirrored_18 : decode cX4_mirrored 18 = .ok (.iload 5, 2) := by decide +kernel
theorem dX4_mirrored_20 : decode cX4_mirrored 20 = .ok (.lushr, 1) := by decide +kernel
theorem dX4_mirrored_21 : decode cX4_mirrored 21 = .ok (.lconst 1, 1) := by decide +kernel
theorem dX4_mirrored_22 : decode cX4_mirrored 22 = .ok (.land, 1) := by decide +kernel
theorem dX4_mirrored_23 : decode cX4_mirrored 23 = .ok (.lor, 1) := by decide +kernel
theorem dX4_mirrored_24 : decode cX4_mirrored 24 = .ok (.lstore_n 3, 1) := by decide +kernel
theorem dX4_mirrored_25 : decode cX4_mirrored 25 = .ok (.iinc 5 1, 3) := by decide +kernel
theorem dX4_mirrored_28 : decode cX4_mirrored 28 = .ok (.goto (-23), 3) := by decide +kernel
theorem dX4_mirrored_31 : decode cX4_mirrored 31 = .ok (.lload_n 3, 1) := by decide +kernel
theorem dX4_mirrored_32 : decode cX4_mirrored 32 = .ok (.lreturn, 1) := by decide +kernel
theorem dX4_moved_0 : decode cX4_moved 0 = .ok (.iload_n 2, 1) := by decide +kernel
theorem dX4_moved_1 : decode cX4_moved 1 = .ok (.bipush 64, 2) := by decide +kernel
theorem dX4_moved_3 : decode cX4_moved 3 = .ok (.if_icmp .ge 9, 3) := by decide +kernel
theorem dX4_moved_6 : decode cX4_moved 6 = .ok (.iload_n 2, 1) := by decide +kernel
theorem dX4_moved_7 : decode cX4_moved 7 = .ok (.bipush (-64), 2) := by decide +kernel
theorem dX4_moved_9 : decode cX4_moved 9 = .ok (.if_icmp .gt 5, 3) := by decide +kernel
theorem dX4_moved_12 : decode cX4_moved 12 = .ok (.lconst 0, 1) := by decide +kernel
theorem dX4_moved_13 : decode cX4_moved 13 = .ok (.lreturn, 1) := by decide +kernel
theorem dX4_moved_14 : decode cX4_moved 14 = .ok (.iload_n 2, 1) := by decide +kernel
theorem dX4_moved_15 : decode cX4_moved 15 = .ok (.ifCond .lt 9, 3) := by decide +kernel
theorem dX4_moved_18 : decode cX4_moved 18 = .ok (.lload_n 0, 1) := by decide +kernel
theorem dX4_moved_19 : decode cX4_moved 19 = .ok (.iload_n 2, 1) := by decide +kernel
theorem dX4_moved_20 : decode cX4_moved 20 = .ok (.lshl, 1) := by decide +kernel
theorem dX4_moved_21 : decode cX4_moved 21 = .ok (.goto 7, 3) := by decide +kernel
theorem dX4_moved_24 : decode cX4_moved 24 = .ok (.lload_n 0, 1) := by decide +kernel
theorem dX4_moved_25 : decode cX4_moved 25 = .ok (.iload_n 2, 1) := by decide +kernel
theorem dX4_moved_26 : decode cX4_moved 26 = .ok (.ineg, 1) := by decide +kernel
theorem dX4_moved_27 : decode cX4_moved 27 = .ok (.lushr, 1) := by decide +kernel
theorem dX4_moved_28 : decode cX4_moved 28 = .ok (.lreturn, 1) := by decide +kernel
theorem dX4_drawMoved_0 : decode cX4_drawMoved 0 = .ok (.iconst 0, 1) := by decide +kernel
theorem dX4_drawMoved_1 : decode cX4_drawMoved 1 = .ok (.istore 4, 2) := by decide +kernel
theorem dX4_drawMoved_3 : decode cX4_drawMoved 3 = .ok (.iload 4, 2) := by decide +kernel
theorem dX4_drawMoved_5 : decode cX4_drawMoved 5 = .ok (.aload_n 0, 1) := by decide +kernel
theorem dX4_drawMoved_6 : decode cX4_drawMoved 6 = .ok (.getfield 13, 3) := by decide +kernel
theorem dX4_drawMoved_9 : decode cX4_drawMoved 9 = .ok (.if_icmp .ge 56, 3) := by decide +kernel
theorem dX4_drawMoved_12 : decode cX4_drawMoved 12 = .ok (.iload 4, 2) := by decide +kernel
theorem dX4_drawMoved_14 : decode cX4_drawMoved 14 = .ok (.i2l, 1) := by decide +kernel
theorem dX4_drawMoved_15 : decode cX4_drawMoved 15 = .ok (.iload_n 3, 1) := by decide +kernel
theorem dX4_drawMoved_16 : decode cX4_drawMoved 16 = .ok (.i2l, 1) := by decide +kernel
theorem dX4_drawMoved_17 : decode cX4_drawMoved 17 = .ok (.lsub, 1) := by decide +kernel
theorem dX4_drawMoved_18 : decode cX4_drawMoved 18 = .ok (.lstore 5, 2) := by decide +kernel
theorem dX4_drawMoved_20 : decode cX4_drawMoved 20 = .ok (.aload_n 0, 1) := by decide +kernel
theorem dX4_drawMoved_21 : decode cX4_drawMoved 21 = .ok (.iload 4, 2) := by decide +kernel
theorem dX4_drawMoved_23 : decode cX4_drawMoved 23 = .ok (.lload 5, 2) := by decide +kernel
theorem dX4_drawMoved_25 : decode cX4_drawMoved 25 = .ok (.lconst 0, 1) := by decide +kernel
theorem dX4_drawMoved_26 : decode cX4_drawMoved 26 = .ok (.lcmp, 1) := by decide +kernel
theorem dX4_drawMoved_27 : decode cX4_drawMoved 27 = .ok (.ifCond .lt 14, 3) := by decide +kernel
theorem dX4_drawMoved_30 : decode cX4_drawMoved 30 = .ok (.lload 5, 2) := by decide +kernel
theorem dX4_drawMoved_32 : decode cX4_drawMoved 32 = .ok (.aload_n 0, 1) := by decide +kernel
theorem dX4_drawMoved_33 : decode cX4_drawMoved 33 = .ok (.getfield 13, 3) := by decide +kernel
theorem dX4_drawMoved_36 : decode cX4_drawMoved 36 = .ok (.i2l, 1) := by decide +kernel
theorem dX4_drawMoved_37 : decode cX4_drawMoved 37 = .ok (.lcmp, 1) := by decide +kernel
theorem dX4_drawMoved_38 : decode cX4_drawMoved 38 = .ok (.ifCond .lt 7, 3) := by decide +kernel
theorem dX4_drawMoved_41 : decode cX4_drawMoved 41 = .ok (.lconst 0, 1) := by decide +kernel
theorem dX4_drawMoved_42 : decode cX4_drawMoved 42 = .ok (.goto 14, 3) := by decide +kernel
theorem dX4_drawMoved_45 : decode cX4_drawMoved 45 = .ok (.aload_n 1, 1) := by decide +kernel
theorem dX4_drawMoved_46 : decode cX4_drawMoved 46 = .ok (.lload 5, 2) := by decide +kernel
theorem dX4_drawMoved_48 : decode cX4_drawMoved 48 = .ok (.l2i, 1) := by decide +kernel
theorem dX4_drawMoved_49 : decode cX4_drawMoved 49 = .ok (.invokevirtual 30, 3) := by decide +kernel
theorem dX4_drawMoved_52 : decode cX4_drawMoved 52 = .ok (.iload_n 2, 1) := by decide +kernel
theorem dX4_drawMoved_53 : decode cX4_drawMoved 53 = .ok (.invokestatic 51, 3) := by decide +kernel
theorem dX4_drawMoved_56 : decode cX4_drawMoved 56 = .ok (.invokevirtual 33, 3) := by decide +kernel
theorem dX4_drawMoved_59 : decode cX4_drawMoved 59 = .ok (.iinc 4 1, 3) := by decide +kernel
theorem dX4_drawMoved_62 : decode cX4_drawMoved 62 = .ok (.goto (-59), 3) := by decide +kernel
theorem dX4_drawMoved_65 : decode cX4_drawMoved 65 = .ok (.return_, 1) := by decide +kernel
theorem dX4_drawUnmatched_0 : decode cX4_drawUnmatched 0 = .ok (.iconst 0, 1) := by decide +kernel
theorem dX4_drawUnmatched_1 : decode cX4_drawUnmatched 1 = .ok (.istore 4, 2) := by decide +kernel
theorem dX4_drawUnmatched_3 : decode cX4_drawUnmatched 3 = .ok (.iload 4, 2) := by decide +kernel
theorem dX4_drawUnmatched_5 : decode cX4_drawUnmatched 5 = .ok (.aload_n 0, 1) := by decide +kernel
theorem dX4_drawUnmatched_6 : decode cX4_drawUnmatched 6 = .ok (.getfield 13, 3) := by decide +kernel
theorem dX4_drawUnmatched_9 : decode cX4_drawUnmatched 9 = .ok (.if_icmp .ge 33, 3) := by decide +kernel
theorem dX4_drawUnmatched_12 : decode cX4_drawUnmatched 12 = .ok (.aload_n 0, 1) := by decide +kernel
theorem dX4_drawUnmatched_13 : decode cX4_drawUnmatched 13 = .ok (.iload 4, 2) := by decide +kernel
theorem dX4_drawUnmatched_15 : decode cX4_drawUnmatched 15 = .ok (.aload_n 1, 1) := by decide +kernel
theorem dX4_drawUnmatched_16 : decode cX4_drawUnmatched 16 = .ok (.iload 4, 2) := by decide +kernel
theorem dX4_drawUnmatched_18 : decode cX4_drawUnmatched 18 = .ok (.invokevirtual 30, 3) := by decide +kernel
theorem dX4_drawUnmatched_21 : decode cX4_drawUnmatched 21 = .ok (.aload_n 2, 1) := by decide +kernel
theorem dX4_drawUnmatched_22 : decode cX4_drawUnmatched 22 = .ok (.iload 4, 2) := by decide +kernel
theorem dX4_drawUnmatched_24 : decode cX4_drawUnmatched 24 = .ok (.iload_n 3, 1) := by decide +kernel
theorem dX4_drawUnmatched_25 : decode cX4_drawUnmatched 25 = .ok (.invokevirtual 58, 3) := by decide +kernel
theorem dX4_drawUnmatched_28 : decode cX4_drawUnmatched 28 = .ok (.ldc2_w 28, 3) := by decide +kernel
theorem dX4_drawUnmatched_31 : decode cX4_drawUnmatched 31 = .ok (.lxor, 1) := by decide +kernel
theorem dX4_drawUnmatched_32 : decode cX4_drawUnmatched 32 = .ok (.land, 1) := by decide +kernel
theorem dX4_drawUnmatched_33 : decode cX4_drawUnmatched 33 = .ok (.invokevirtual 33, 3) := by decide +kernel
theorem dX4_drawUnmatched_36 : decode cX4_drawUnmatched 36 = .ok (.iinc 4 1, 3) := by decide +kernel
theorem dX4_drawUnmatched_39 : decode cX4_drawUnmatched 39 = .ok (.goto (-36), 3) := by decide +kernel
theorem dX4_drawUnmatched_42 : decode cX4_drawUnmatched 42 = .ok (.return_, 1) := by decide +kernel
theorem dX4_inkAround_0 : decode cX4_inkAround 0 = .ok (.lconst 0, 1) := by decide +kernel
theorem dX4_inkAround_1 : decode cX4_inkAround 1 = .ok (.lstore_n 3, 1) := by decide +kernel
theorem dX4_inkAround_2 : decode cX4_inkAround 2 = .ok (.iload_n 1, 1) := by decide +kernel
theorem dX4_inkAround_3 : decode cX4_inkAround 3 = .ok (.iload_n 2, 1) := by decide +kernel
theorem dX4_inkAround_4 : decode cX4_inkAround 4 = .ok (.isub, 1) := by decide +kernel
theorem dX4_inkAround_5 : decode cX4_inkAround 5 = .ok (.istore 5, 2) := by decide +kernel
theorem dX4_inkAround_7 : decode cX4_inkAround 7 = .ok (.iload 5, 2) := by decide +kernel
theorem dX4_inkAround_9 : decode cX4_inkAround 9 = .ok (.iload_n 1, 1) := by decide +kernel
theorem dX4_inkAround_10 : decode cX4_inkAround 10 = .ok (.iload_n 2, 1) := by decide +kernel
theorem dX4_inkAround_11 : decode cX4_inkAround 11 = .ok (.iadd, 1) := by decide +kernel
theorem dX4_inkAround_12 : decode cX4_inkAround 12 = .ok (.if_icmp .gt 18, 3) := by decide +kernel
theorem dX4_inkAround_15 : decode cX4_inkAround 15 = .ok (.lload_n 3, 1) := by decide +kernel
theorem dX4_inkAround_16 : decode cX4_inkAround 16 = .ok (.aload_n 0, 1) := by decide +kernel
theorem dX4_inkAround_17 : decode cX4_inkAround 17 = .ok (.iload 5, 2) := by decide +kernel
theorem dX4_inkAround_19 : decode cX4_inkAround 19 = .ok (.invokevirtual 30, 3) := by decide +kernel
theorem dX4_inkAround_22 : decode cX4_inkAround 22 = .ok (.lor, 1) := by decide +kernel
theorem dX4_inkAround_23 : decode cX4_inkAround 23 = .ok (.lstore_n 3, 1) := by decide +kernel
theorem dX4_inkAround_24 : decode cX4_inkAround 24 = .ok (.iinc 5 1, 3) := by decide +kernel
theorem dX4_inkAround_27 : decode cX4_inkAround 27 = .ok (.goto (-20), 3) := by decide +kernel
theorem dX4_inkAround_30 : decode cX4_inkAround 30 = .ok (.iconst 0, 1) := by decide +kernel
theorem dX4_inkAround_31 : decode cX4_inkAround 31 = .ok (.istore 5, 2) := by decide +kernel
theorem dX4_inkAround_33 : decode cX4_inkAround 33 = .ok (.iload 5, 2) := by decide +kernel
theorem dX4_inkAround_35 : decode cX4_inkAround 35 = .ok (.iload_n 2, 1) := by decide +kernel
theorem dX4_inkAround_36 : decode cX4_inkAround 36 = .ok (.if_icmp .ge 19, 3) := by decide +kernel
theorem dX4_inkAround_39 : decode cX4_inkAround 39 = .ok (.lload_n 3, 1) := by decide +kernel
theorem dX4_inkAround_40 : decode cX4_inkAround 40 = .ok (.lload_n 3, 1) := by decide +kernel
theorem dX4_inkAround_41 : decode cX4_inkAround 41 = .ok (.iconst 1, 1) := by decide +kernel
theorem dX4_inkAround_42 : decode cX4_inkAround 42 = .ok (.lshl, 1) := by decide +kernel
theorem dX4_inkAround_43 : decode cX4_inkAround 43 = .ok (.lload_n 3, 1) := by decide +kernel
theorem dX4_inkAround_44 : decode cX4_inkAround 44 = .ok (.iconst 1, 1) := by decide +kernel
theorem dX4_inkAround_45 : decode cX4_inkAround 45 = .ok (.lushr, 1) := by decide +kernel
theorem dX4_inkAround_46 : decode cX4_inkAround 46 = .ok (.lor, 1) := by decide +kernel
theorem dX4_inkAround_47 : decode cX4_inkAround 47 = .ok (.lor, 1) := by decide +kernel
theorem dX4_inkAround_48 : decode cX4_inkAround 48 = .ok (.lstore_n 3, 1) := by decide +kernel
theorem dX4_inkAround_49 : decode cX4_inkAround 49 = .ok (.iinc 5 1, 3) := by decide +kernel
theorem dX4_inkAround_52 : decode cX4_inkAround 52 = .ok (.goto (-19), 3) := by decide +kernel
theorem dX4_inkAround_55 : decode cX4_inkAround 55 = .ok (.lload_n 3, 1) := by decide +kernel
theorem dX4_inkAround_56 : decode cX4_inkAround 56 = .ok (.lreturn, 1) := by decide +kernel
theorem dX4_keepOnly_0 : decode cX4_keepOnly 0 = .ok (.iconst 0, 1) := by decide +kernel
theorem dX4_keepOnly_1 : decode cX4_keepOnly 1 = .ok (.istore_n 2, 1) := by decide +kernel
theorem dX4_keepOnly_2 : decode cX4_keepOnly 2 = .ok (.iload_n 2, 1) := by decide +kernel
theorem dX4_keepOnly_3 : decode cX4_keepOnly 3 = .ok (.aload_n 0, 1) := by decide +kernel
theorem dX4_keepOnly_4 : decode cX4_keepOnly 4 = .ok (.getfield 13, 3) := by decide +kernel
theorem dX4_keepOnly_7 : decode cX4_keepOnly 7 = .ok (.if_icmp .ge 25, 3) := by decide +kernel
theorem dX4_keepOnly_10 : decode cX4_keepOnly 10 = .ok (.aload_n 0, 1) := by decide +kernel
theorem dX4_keepOnly_11 : decode cX4_keepOnly 11 = .ok (.iload_n 2, 1) := by decide +kernel
theorem dX4_keepOnly_12 : decode cX4_keepOnly 12 = .ok (.aload_n 0, 1) := by decide +kernel
theorem dX4_keepOnly_13 : decode cX4_keepOnly 13 = .ok (.iload_n 2, 1) := by decide +kernel
theorem dX4_keepOnly_14 : decode cX4_keepOnly 14 = .ok (.invokevirtual 30, 3) := by decide +kernel
theorem dX4_keepOnly_17 : decode cX4_keepOnly 17 = .ok (.aload_n 1, 1) := by decide +kernel
theorem dX4_keepOnly_18 : decode cX4_keepOnly 18 = .ok (.iload_n 2, 1) := by decide +kernel
theorem dX4_keepOnly_19 : decode cX4_keepOnly 19 = .ok (.invokevirtual 30, 3) := by decide +kernel
theorem dX4_keepOnly_22 : decode cX4_keepOnly 22 = .ok (.land, 1) := by decide +kernel
theorem dX4_keepOnly_23 : decode cX4_keepOnly 23 = .ok (.invokevirtual 33, 3) := by decide +kernel
theorem dX4_keepOnly_26 : decode cX4_keepOnly 26 = .ok (.iinc 2 1, 3) := by decide +kernel
theorem dX4_keepOnly_29 : decode cX4_keepOnly 29 = .ok (.goto (-27), 3) := by decide +kernel
theorem dX4_keepOnly_32 : decode cX4_keepOnly 32 = .ok (.return_, 1) := by decide +kernel
theorem dX4_linesUpTo_0 : decode cX4_linesUpTo 0 = .ok (.iconst 0, 1) := by decide +kernel
theorem dX4_linesUpTo_1 : decode cX4_linesUpTo 1 = .ok (.istore_n 2, 1) := by decide +kernel
theorem dX4_linesUpTo_2 : decode cX4_linesUpTo 2 = .ok (.iconst 0, 1) := by decide +kernel
theorem dX4_linesUpTo_3 : decode cX4_linesUpTo 3 = .ok (.istore_n 3, 1) := by decide +kernel
theorem dX4_linesUpTo_4 : decode cX4_linesUpTo 4 = .ok (.iload_n 3, 1) := by decide +kernel
theorem dX4_linesUpTo_5 : decode cX4_linesUpTo 5 = .ok (.iload_n 1, 1) := by decide +kernel
theorem dX4_linesUpTo_6 : decode cX4_linesUpTo 6 = .ok (.if_icmp .gt 28, 3) := by decide +kernel
theorem dX4_linesUpTo_9 : decode cX4_linesUpTo 9 = .ok (.iload_n 3, 1) := by decide +kernel
theorem dX4_linesUpTo_10 : decode cX4_linesUpTo 10 = .ok (.aload_n 0, 1) := by decide +kernel
theorem dX4_linesUpTo_11 : decode cX4_linesUpTo 11 = .ok (.getfield 13, 3) := by decide +kernel
theorem dX4_linesUpTo_14 : decode cX4_linesUpTo 14 = .ok (.if_icmp .ge 20, 3) := by decide +kernel
theorem dX4_linesUpTo_17 : decode cX4_linesUpTo 17 = .ok (.aload_n 0, 1) := by decide +kernel
theorem dX4_linesUpTo_18 : decode cX4_linesUpTo 18 = .ok (.iload_n 3, 1) := by decide +kernel
theorem dX4_linesUpTo_19 : decode cX4_linesUpTo 19 = .ok (.invokevirtual 82, 3) := by decide +kernel
theorem dX4_linesUpTo_22 : decode cX4_linesUpTo 22 = .ok (.ifCond .eq 6, 3) := by decide +kernel
theorem dX4_linesUpTo_25 : decode cX4_linesUpTo 25 = .ok (.iinc 2 1, 3) := by decide +kernel
theorem dX4_linesUpTo_28 : decode cX4_linesUpTo 28 = .ok (.iinc 3 1, 3) := by decide +kernel
theorem dX4_linesUpTo_31 : decode cX4_linesUpTo 31 = .ok (.goto (-27), 3) := by decide +kernel
theorem dX4_linesUpTo_34 : decode cX4_linesUpTo 34 = .ok (.iload_n 2, 1) := by decide +kernel
theorem dX4_linesUpTo_35 : decode cX4_linesUpTo 35 = .ok (.ireturn, 1) := by decide +kernel
theorem dX4_startsLine_0 : decode cX4_startsLine 0 = .ok (.aload_n 0, 1) := by decide +kernel
theorem dX4_startsLine_1 : decode cX4_startsLine 1 = .ok (.iload_n 1, 1) := by decide +kernel
theorem dX4_startsLine_2 : decode cX4_startsLine 2 = .ok (.invokevirtual 30, 3) := by decide +kernel
theorem dX4_startsLine_5 : decode cX4_startsLine 5 = .ok (.lconst 0, 1) := by decide +kernel
theorem dX4_startsLine_6 : decode cX4_startsLine 6 = .ok (.lcmp, 1) := by decide +kernel
theorem dX4_startsLine_7 : decode cX4_startsLine 7 = .ok (.ifCond .eq 19, 3) := by decide +kernel
theorem dX4_startsLine_10 : decode cX4_startsLine 10 = .ok (.aload_n 0, 1) := by decide +kernel
theorem dX4_startsLine_11 : decode cX4_startsLine 11 = .ok (.iload_n 1, 1) := by decide +kernel
theorem dX4_startsLine_12 : decode cX4_startsLine 12 = .ok (.iconst 1, 1) := by decide +kernel
theorem dX4_startsLine_13 : decode cX4_startsLine 13 = .ok (.isub, 1) := by decide +kernel
theorem dX4_startsLine_14 : decode cX4_startsLine 14 = .ok (.invokevirtual 30, 3) := by decide +kernel
theorem dX4_startsLine_17 : decode cX4_startsLine 17 = .ok (.lconst 0, 1) := by decide +kernel
theorem dX4_startsLine_18 : decode cX4_startsLine 18 = .ok (.lcmp, 1) := by decide +kernel
theorem dX4_startsLine_19 : decode cX4_startsLine 19 = .ok (.ifCond .ne 7, 3) := by decide +kernel
theorem dX4_startsLine_22 : decode cX4_startsLine 22 = .ok (.iconst 1, 1) := by decide +kernel
theorem dX4_startsLine_23 : decode cX4_startsLine 23 = .ok (.goto 4, 3) := by decide +kernel
theorem dX4_startsLine_26 : decode cX4_startsLine 26 = .ok (.iconst 0, 1) := by decide +kernel
theorem dX4_startsLine_27 : decode cX4_startsLine 27 = .ok (.ireturn, 1) := by decide +kernel
theorem dX3_keep_0 : decode cX3_keep 0 = .ok (.aload_n 0, 1) := by decide +kernel
theorem dX3_keep_1 : decode cX3_keep 1 = .ok (.getfield 24, 3) := by decide +kernel
theorem dX3_keep_4 : decode cX3_keep 4 = .ok (.bipush 8, 2) := by decide +kernel
theorem dX3_keep_6 : decode cX3_keep 6 = .ok (.if_icmp .ne 22, 3) := by decide +kernel
theorem dX3_keep_9 : decode cX3_keep 9 = .ok (.aload_n 0, 1) := by decide +kernel
theorem dX3_keep_10 : decode cX3_keep 10 = .ok (.aload_n 0, 1) := by decide +kernel
theorem dX3_keep_11 : decode cX3_keep 11 = .ok (.iconst 1, 1) := by decide +kernel
theorem dX3_keep_12 : decode cX3_keep 12 = .ok (.invokevirtual 37, 3) := by decide +kernel
theorem dX3_keep_15 : decode cX3_keep 15 = .ok (.putfield 28, 3) := by decide +kernel
theorem dX3_keep_18 : decode cX3_keep 18 = .ok (.aload_n 0, 1) := by decide +kernel
theorem dX3_keep_19 : decode cX3_keep 19 = .ok (.dup, 1) := by decide +kernel
theorem dX3_keep_20 : decode cX3_keep 20 = .ok (.getfield 24, 3) := by decide +kernel
theorem dX3_keep_23 : decode cX3_keep 23 = .ok (.iconst 1, 1) := by decide +kernel
theorem dX3_keep_24 : decode cX3_keep 24 = .ok (.isub, 1) := by decide +kernel
theorem dX3_keep_25 : decode cX3_keep 25 = .ok (.putfield 24, 3) := by decide +kernel
theorem dX3_keep_28 : decode cX3_keep 28 = .ok (.aload_n 0, 1) := by decide +kernel
theorem dX3_keep_29 : decode cX3_keep 29 = .ok (.aload_n 0, 1) := by decide +kernel
theorem dX3_keep_30 : decode cX3_keep 30 = .ok (.getfield 24, 3) := by decide +kernel
theorem dX3_keep_33 : decode cX3_keep 33 = .ok (.invokevirtual 37, 3) := by decide +kernel
theorem dX3_keep_36 : decode cX3_keep 36 = .ok (.istore_n 3, 1) := by decide +kernel
theorem dX3_keep_37 : decode cX3_keep 37 = .ok (.aload_n 0, 1) := by decide +kernel
theorem dX3_keep_38 : decode cX3_keep 38 = .ok (.getfield 17, 3) := by decide +kernel
theorem dX3_keep_41 : decode cX3_keep 41 = .ok (.iload_n 3, 1) := by decide +kernel
theorem dX3_keep_42 : decode cX3_keep 42 = .ok (.iload_n 1, 1) := by decide +kernel
theorem dX3_keep_43 : decode cX3_keep 43 = .ok (.iastore, 1) := by decide +kernel
theorem dX3_keep_44 : decode cX3_keep 44 = .ok (.aload_n 0, 1) := by decide +kernel
theorem dX3_keep_45 : decode cX3_keep 45 = .ok (.getfield 11, 3) := by decide +kernel
theorem dX3_keep_48 : decode cX3_keep 48 = .ok (.iload_n 3, 1) := by decide +kernel
theorem dX3_keep_49 : decode cX3_keep 49 = .ok (.aaload, 1) := by decide +kernel
theorem dX3_keep_50 : decode cX3_keep 50 = .ok (.aload_n 2, 1) := by decide +kernel
theorem dX3_keep_51 : decode cX3_keep 51 = .ok (.invokevirtual 41, 3) := by decide +kernel
theorem dX3_keep_54 : decode cX3_keep 54 = .ok (.aload_n 0, 1) := by decide +kernel
theorem dX3_keep_55 : decode cX3_keep 55 = .ok (.dup, 1) := by decide +kernel
theorem dX3_keep_56 : decode cX3_keep 56 = .ok (.getfield 24, 3) := by decide +kernel
theorem dX3_keep_59 : decode cX3_keep 59 = .ok (.iconst 1, 1) := by decide +kernel
theorem dX3_keep_60 : decode cX3_keep 60 = .ok (.iadd, 1) := by decide +kernel
theorem dX3_keep_61 : decode cX3_keep 61 = .ok (.putfield 24, 3) := by decide +kernel
theorem dX3_keep_64 : decode cX3_keep 64 = .ok (.aload_n 0, 1) := by decide +kernel
theorem dX3_keep_65 : decode cX3_keep 65 = .ok (.getfield 11, 3) := by decide +kernel
theorem dX3_keep_68 : decode cX3_keep 68 = .ok (.iload_n 3, 1) := by decide +kernel
theorem dX3_keep_69 : decode cX3_keep 69 = .ok (.aaload, 1) := by decide +kernel
theorem dX3_keep_70 : decode cX3_keep 70 = .ok (.areturn, 1) := by decide +kernel
theorem dX3_slotAt_0 : decode cX3_slotAt 0 = .ok (.aload_n 0, 1) := by decide +kernel
theorem dX3_slotAt_1 : decode cX3_slotAt 1 = .ok (.getfield 28, 3) := by decide +kernel
theorem dX3_slotAt_4 : decode cX3_slotAt 4 = .ok (.iload_n 1, 1) := by decide +kernel
theorem dX3_slotAt_5 : decode cX3_slotAt 5 = .ok (.iadd, 1) := by decide +kernel
theorem dX3_slotAt_6 : decode cX3_slotAt 6 = .ok (.bipush 8, 2) := by decide +kernel
theorem dX3_slotAt_8 : decode cX3_slotAt 8 = .ok (.invokestatic 31, 3) := by decide +kernel
theorem dX3_slotAt_11 : decode cX3_slotAt 11 = .ok (.ireturn, 1) := by decide +kernel
theorem dX4_differences_0 : decode cX4_differences 0 = .ok (.iconst 0, 1) := by decide +kernel
theorem dX4_differences_1 : decode cX4_differences 1 = .ok (.istore_n 2, 1) := by decide +kernel
theorem dX4_differences_2 : decode cX4_differences 2 = .ok (.iconst 0, 1) := by decide +kernel
theorem dX4_differences_3 : decode cX4_differences 3 = .ok (.istore_n 3, 1) := by decide +kernel
theorem dX4_differences_4 : decode cX4_differences 4 = .ok (.iload_n 3, 1) := by decide +kernel
theorem dX4_differences_5 : decode cX4_differences 5 = .ok (.aload_n 0, 1) := by decide +kernel
theorem dX4_differences_6 : decode cX4_differences 6 = .ok (.getfield 13, 3) := by decide +kernel
theorem dX4_differences_9 : decode cX4_differences 9 = .ok (.if_icmp .ge 26, 3) := by decide +kernel
theorem dX4_differences_12 : decode cX4_differences 12 = .ok (.iload_n 2, 1) := by decide +kernel
theorem dX4_differences_13 : decode cX4_differences 13 = .ok (.aload_n 0, 1) := by decide +kernel
theorem dX4_differences_14 : decode cX4_differences 14 = .ok (.iload_n 3, 1) := by decide +kernel
theorem dX4_differences_15 : decode cX4_differences 15 = .ok (.invokevirtual 30, 3) := by decide +kernel
theorem dX4_differences_18 : decode cX4_differences 18 = .ok (.aload_n 1, 1) := by decide +kernel
theorem dX4_differences_19 : decode cX4_differences 19 = .ok (.iload_n 3, 1) := by decide +kernel
theorem dX4_differences_20 : decode cX4_differences 20 = .ok (.invokevirtual 30, 3) := by decide +kernel
theorem dX4_differences_23 : decode cX4_differences 23 = .ok (.lxor, 1) := by decide +kernel
theorem dX4_differences_24 : decode cX4_differences 24 = .ok (.invokestatic 37, 3) := by decide +kernel
theorem dX4_differences_27 : decode cX4_differences 27 = .ok (.iadd, 1) := by decide +kernel
theorem dX4_differences_28 : decode cX4_differences 28 = .ok (.istore_n 2, 1) := by decide +kernel
theorem dX4_differences_29 : decode cX4_differences 29 = .ok (.iinc 3 1, 3) := by decide +kernel
theorem dX4_differences_32 : decode cX4_differences 32 = .ok (.goto (-28), 3) := by decide +kernel
theorem dX4_differences_35 : decode cX4_differences 35 = .ok (.iload_n 2, 1) := by decide +kernel
theorem dX4_differences_36 : decode cX4_differences 36 = .ok (.ireturn, 1) := by decide +kernel
theorem dX4_drawMajority_0 : decode cX4_drawMajority 0 = .ok (.iconst 0, 1) := by decide +kernel
theorem dX4_drawMajority_1 : decode cX4_drawMajority 1 = .ok (.istore 4, 2) := by decide +kernel
theorem dX4_drawMajority_3 : decode cX4_drawMajority 3 = .ok (.iload 4, 2) := by decide +kernel
theorem dX4_drawMajority_5 : decode cX4_drawMajority 5 = .ok (.aload_n 0, 1) := by decide +kernel
theorem dX4_drawMajority_6 : decode cX4_drawMajority 6 = .ok (.getfield 13, 3) := by decide +kernel
theorem dX4_drawMajority_9 : decode cX4_drawMajority 9 = .ok (.if_icmp .ge 56, 3) := by decide +kernel
theorem dX4_drawMajority_12 : decode cX4_drawMajority 12 = .ok (.aload_n 1, 1) := by decide +kernel
theorem dX4_drawMajority_13 : decode cX4_drawMajority 13 = .ok (.iload 4, 2) := by decide +kernel
theorem dX4_drawMajority_15 : decode cX4_drawMajority 15 = .ok (.invokevirtual 30, 3) := by decide +kernel
theorem dX4_drawMajority_18 : decode cX4_drawMajority 18 = .ok (.lstore 5, 2) := by decide +kernel
theorem dX4_drawMajority_20 : decode cX4_drawMajority 20 = .ok (.aload_n 2, 1) := by decide +kernel
theorem dX4_drawMajority_21 : decode cX4_drawMajority 21 = .ok (.iload 4, 2) := by decide +kernel
theorem dX4_drawMajority_23 : decode cX4_drawMajority 23 = .ok (.invokevirtual 30, 3) := by decide +kernel
theorem dX4_drawMajority_26 : decode cX4_drawMajority 26 = .ok (.lstore 7, 2) := by decide +kernel
theorem dX4_drawMajority_28 : decode cX4_drawMajority 28 = .ok (.aload_n 3, 1) := by decide +kernel
theorem dX4_drawMajority_29 : decode cX4_drawMajority 29 = .ok (.iload 4, 2) := by decide +kernel
theorem dX4_drawMajority_31 : decode cX4_drawMajority 31 = .ok (.invokevirtual 30, 3) := by decide +kernel
theorem dX4_drawMajority_34 : decode cX4_drawMajority 34 = .ok (.lstore 9, 2) := by decide +kernel
theorem dX4_drawMajority_36 : decode cX4_drawMajority 36 = .ok (.aload_n 0, 1) := by decide +kernel
theorem dX4_drawMajority_37 : decode cX4_drawMajority 37 = .ok (.iload 4, 2) := by decide +kernel
theorem dX4_drawMajority_39 : decode cX4_drawMajority 39 = .ok (.lload 5, 2) := by decide +kernel
theorem dX4_drawMajority_41 : decode cX4_drawMajority 41 = .ok (.lload 7, 2) := by decide +kernel
theorem dX4_drawMajority_43 : decode cX4_drawMajority 43 = .ok (.land, 1) := by decide +kernel
theorem dX4_drawMajority_44 : decode cX4_drawMajority 44 = .ok (.lload 5, 2) := by decide +kernel
theorem dX4_drawMajority_46 : decode cX4_drawMajority 46 = .ok (.lload 9, 2) := by decide +kernel
theorem dX4_drawMajority_48 : decode cX4_drawMajority 48 = .ok (.land, 1) := by decide +kernel
theorem dX4_drawMajority_49 : decode cX4_drawMajority 49 = .ok (.lor, 1) := by decide +kernel
theorem dX4_drawMajority_50 : decode cX4_drawMajority 50 = .ok (.lload 7, 2) := by decide +kernel
theorem dX4_drawMajority_52 : decode cX4_drawMajority 52 = .ok (.lload 9, 2) := by decide +kernel
theorem dX4_drawMajority_54 : decode cX4_drawMajority 54 = .ok (.land, 1) := by decide +kernel
theorem dX4_drawMajority_55 : decode cX4_drawMajority 55 = .ok (.lor, 1) := by decide +kernel
theorem dX4_drawMajority_56 : decode cX4_drawMajority 56 = .ok (.invokevirtual 33, 3) := by decide +kernel
theorem dX4_drawMajority_59 : decode cX4_drawMajority 59 = .ok (.iinc 4 1, 3) := by decide +kernel
theorem dX4_drawMajority_62 : decode cX4_drawMajority 62 = .ok (.goto (-59), 3) := by decide +kernel
theorem dX4_drawMajority_65 : decode cX4_drawMajority 65 = .ok (.return_, 1) := by decide +kernel
theorem dX4_lineCount_0 : decode cX4_lineCount 0 = .ok (.aload_n 0, 1) := by decide +kernel
theorem dX4_lineCount_1 : decode cX4_lineCount 1 = .ok (.aload_n 0, 1) := by decide +kernel
theorem dX4_lineCount_2 : decode cX4_lineCount 2 = .ok (.getfield 13, 3) := by decide +kernel
theorem dX4_lineCount_5 : decode cX4_lineCount 5 = .ok (.iconst 1, 1) := by decide +kernel
theorem dX4_lineCount_6 : decode cX4_lineCount 6 = .ok (.isub, 1) := by decide +kernel
theorem dX4_lineCount_7 : decode cX4_lineCount 7 = .ok (.invokevirtual 78, 3) := by decide +kernel
theorem dX4_lineCount_10 : decode cX4_lineCount 10 = .ok (.ireturn, 1) := by decide +kernel
theorem dX4_lineStart_0 : decode cX4_lineStart 0 = .ok (.iconst 0, 1) := by decide +kernel
theorem dX4_lineStart_1 : decode cX4_lineStart 1 = .ok (.istore_n 2, 1) := by decide +kernel
theorem dX4_lineStart_2 : decode cX4_lineStart 2 = .ok (.iconst 0, 1) := by decide +kernel
theorem dX4_lineStart_3 : decode cX4_lineStart 3 = .ok (.istore_n 3, 1) := by decide +kernel
theorem dX4_lineStart_4 : decode cX4_lineStart 4 = .ok (.iload_n 3, 1) := by decide +kernel
theorem dX4_lineStart_5 : decode cX4_lineStart 5 = .ok (.aload_n 0, 1) := by decide +kernel
theorem dX4_lineStart_6 : decode cX4_lineStart 6 = .ok (.getfield 13, 3) := by decide +kernel
theorem dX4_lineStart_9 : decode cX4_lineStart 9 = .ok (.if_icmp .ge 27, 3) := by decide +kernel
theorem dX4_lineStart_12 : decode cX4_lineStart 12 = .ok (.aload_n 0, 1) := by decide +kernel
theorem dX4_lineStart_13 : decode cX4_lineStart 13 = .ok (.iload_n 3, 1) := by decide +kernel
theorem dX4_lineStart_14 : decode cX4_lineStart 14 = .ok (.invokevirtual 82, 3) := by decide +kernel
theorem dX4_lineStart_17 : decode cX4_lineStart 17 = .ok (.ifCond .eq 13, 3) := by decide +kernel
theorem dX4_lineStart_20 : decode cX4_lineStart 20 = .ok (.iload_n 2, 1) := by decide +kernel
theorem dX4_lineStart_21 : decode cX4_lineStart 21 = .ok (.iload_n 1, 1) := by decide +kernel
theorem dX4_lineStart_22 : decode cX4_lineStart 22 = .ok (.if_icmp .ne 5, 3) := by decide +kernel
theorem dX4_lineStart_25 : decode cX4_lineStart 25 = .ok (.iload_n 3, 1) := by decide +kernel
theorem dX4_lineStart_26 : decode cX4_lineStart 26 = .ok (.ireturn, 1) := by decide +kernel
theorem dX4_lineStart_27 : decode cX4_lineStart 27 = .ok (.iinc 2 1, 3) := by decide +kernel
theorem dX4_lineStart_30 : decode cX4_lineStart 30 = .ok (.iinc 3 1, 3) := by decide +kernel
theorem dX4_lineStart_33 : decode cX4_lineStart 33 = .ok (.goto (-29), 3) := by decide +kernel
theorem dX4_lineStart_36 : decode cX4_lineStart 36 = .ok (.iconst (-1), 1) := by decide +kernel
theorem dX4_lineStart_37 : decode cX4_lineStart 37 = .ok (.ireturn, 1) := by decide +kernel
theorem dX4_lineEnd_0 : decode cX4_lineEnd 0 = .ok (.iload_n 1, 1) := by decide +kernel
theorem dX4_lineEnd_1 : decode cX4_lineEnd 1 = .ok (.istore_n 2, 1) := by decide +kernel
theorem dX4_lineEnd_2 : decode cX4_lineEnd 2 = .ok (.iload_n 2, 1) := by decide +kernel
theorem dX4_lineEnd_3 : decode cX4_lineEnd 3 = .ok (.iconst 1, 1) := by decide +kernel
theorem dX4_lineEnd_4 : decode cX4_lineEnd 4 = .ok (.iadd, 1) := by decide +kernel
theorem dX4_lineEnd_5 : decode cX4_lineEnd 5 = .ok (.aload_n 0, 1) := by decide +kernel
theorem dX4_lineEnd_6 : decode cX4_lineEnd 6 = .ok (.getfield 13, 3) := by decide +kernel
theorem dX4_lineEnd_9 : decode cX4_lineEnd 9 = .ok (.if_icmp .ge 21, 3) := by decide +kernel
theorem dX4_lineEnd_12 : decode cX4_lineEnd 12 = .ok (.aload_n 0, 1) := by decide +kernel
theorem dX4_lineEnd_13 : decode cX4_lineEnd 13 = .ok (.iload_n 2, 1) := by decide +kernel
theorem dX4_lineEnd_14 : decode cX4_lineEnd 14 = .ok (.iconst 1, 1) := by decide +kernel
theorem dX4_lineEnd_15 : decode cX4_lineEnd 15 = .ok (.iadd, 1) := by decide +kernel
theorem dX4_lineEnd_16 : decode cX4_lineEnd 16 = .ok (.invokevirtual 30, 3) := by decide +kernel
theorem dX4_lineEnd_19 : decode cX4_lineEnd 19 = .ok (.lconst 0, 1) := by decide +kernel
theorem dX4_lineEnd_20 : decode cX4_lineEnd 20 = .ok (.lcmp, 1) := by decide +kernel
theorem dX4_lineEnd_21 : decode cX4_lineEnd 21 = .ok (.ifCond .eq 9, 3) := by decide +kernel
theorem dX4_lineEnd_24 : decode cX4_lineEnd 24 = .ok (.iinc 2 1, 3) := by decide +kernel
theorem dX4_lineEnd_27 : decode cX4_lineEnd 27 = .ok (.goto (-25), 3) := by decide +kernel
theorem dX4_lineEnd_30 : decode cX4_lineEnd 30 = .ok (.iload_n 2, 1) := by decide +kernel
theorem dX4_lineEnd_31 : decode cX4_lineEnd 31 = .ok (.ireturn, 1) := by decide +kernel
theorem dX4_wordCount_0 : decode cX4_wordCount 0 = .ok (.aload_n 0, 1) := by decide +kernel
theorem dX4_wordCount_1 : decode cX4_wordCount 1 = .ok (.iload_n 1, 1) := by decide +kernel
theorem dX4_wordCount_2 : decode cX4_wordCount 2 = .ok (.invokevirtual 86, 3) := by decide +kernel
theorem dX4_wordCount_5 : decode cX4_wordCount 5 = .ok (.istore_n 3, 1) := by decide +kernel
theorem dX4_wordCount_6 : decode cX4_wordCount 6 = .ok (.lconst 0, 1) := by decide +kernel
theorem dX4_wordCount_7 : decode cX4_wordCount 7 = .ok (.lstore 4, 2) := by decide +kernel
theorem dX4_wordCount_9 : decode cX4_wordCount 9 = .ok (.iload_n 1, 1) := by decide +kernel
theorem dX4_wordCount_10 : decode cX4_wordCount 10 = .ok (.istore 6, 2) := by decide +kernel
theorem dX4_wordCount_12 : decode cX4_wordCount 12 = .ok (.iload 6, 2) := by decide +kernel
theorem dX4_wordCount_14 : decode cX4_wordCount 14 = .ok (.iload_n 3, 1) := by decide +kernel
theorem dX4_wordCount_15 : decode cX4_wordCount 15 = .ok (.if_icmp .gt 20, 3) := by decide +kernel
theorem dX4_wordCount_18 : decode cX4_wordCount 18 = .ok (.lload 4, 2) := by decide +kernel
theorem dX4_wordCount_20 : decode cX4_wordCount 20 = .ok (.aload_n 0, 1) := by decide +kernel
theorem dX4_wordCount_21 : decode cX4_wordCount 21 = .ok (.iload 6, 2) := by decide +kernel
theorem dX4_wordCount_23 : decode cX4_wordCount 23 = .ok (.invokevirtual 30, 3) := by decide +kernel
theorem dX4_wordCount_26 : decode cX4_wordCount 26 = .ok (.lor, 1) := by decide +kernel
theorem dX4_wordCount_27 : decode cX4_wordCount 27 = .ok (.lstore 4, 2) := by decide +kernel
theorem dX4_wordCount_29 : decode cX4_wordCount 29 = .ok (.iinc 6 1, 3) := by decide +kernel
theorem dX4_wordCount_32 : decode cX4_wordCount 32 = .ok (.goto (-20), 3) := by decide +kernel
theorem dX4_wordCount_35 : decode cX4_wordCount 35 = .ok (.iconst 0, 1) := by decide +kernel
theorem dX4_wordCount_36 : decode cX4_wordCount 36 = .ok (.istore 6, 2) := by decide +kernel
theorem dX4_wordCount_38 : decode cX4_wordCount 38 = .ok (.iconst (-1), 1) := by decide +kernel
theorem dX4_wordCount_39 : decode cX4_wordCount 39 = .ok (.istore 7, 2) := by decide +kernel
theorem dX4_wordCount_41 : decode cX4_wordCount 41 = .ok (.iconst 0, 1) := by decide +kernel
theorem dX4_wordCount_42 : decode cX4_wordCount 42 = .ok (.istore 8, 2) := by decide +kernel
theorem dX4_wordCount_44 : decode cX4_wordCount 44 = .ok (.iload 8, 2) := by decide +kernel
theorem dX4_wordCount_46 : decode cX4_wordCount 46 = .ok (.aload_n 0, 1) := by decide +kernel
theorem dX4_wordCount_47 : decode cX4_wordCount 47 = .ok (.getfield 7, 3) := by decide +kernel
theorem dX4_wordCount_50 : decode cX4_wordCount 50 = .ok (.if_icmp .ge 44, 3) := by decide +kernel
theorem dX4_wordCount_53 : decode cX4_wordCount 53 = .ok (.lload 4, 2) := by decide +kernel
theorem dX4_wordCount_55 : decode cX4_wordCount 55 = .ok (.iload 8, 2) := by decide +kernel
theorem dX4_wordCount_57 : decode cX4_wordCount 57 = .ok (.lushr, 1) := by decide +kernel
theorem dX4_wordCount_58 : decode cX4_wordCount 58 = .ok (.lconst 1, 1) := by decide +kernel
theorem dX4_wordCount_59 : decode cX4_wordCount 59 = .ok (.land, 1) := by decide +kernel
theorem dX4_wordCount_60 : decode cX4_wordCount 60 = .ok (.lconst 0, 1) := by decide +kernel
theorem dX4_wordCount_61 : decode cX4_wordCount 61 = .ok (.lcmp, 1) := by decide +kernel
theorem dX4_wordCount_62 : decode cX4_wordCount 62 = .ok (.ifCond .eq 26, 3) := by decide +kernel
theorem dX4_wordCount_65 : decode cX4_wordCount 65 = .ok (.iload 6, 2) := by decide +kernel
theorem dX4_wordCount_67 : decode cX4_wordCount 67 = .ok (.ifCond .eq 14, 3) := by decide +kernel
theorem dX4_wordCount_70 : decode cX4_wordCount 70 = .ok (.iload 8, 2) := by decide +kernel
theorem dX4_wordCount_72 : decode cX4_wordCount 72 = .ok (.iload 7, 2) := by decide +kernel
theorem dX4_wordCount_74 : decode cX4_wordCount 74 = .ok (.isub, 1) := by decide +kernel
theorem dX4_wordCount_75 : decode cX4_wordCount 75 = .ok (.iconst 1, 1) := by decide +kernel
theorem dX4_wordCount_76 : decode cX4_wordCount 76 = .ok (.isub, 1) := by decide +kernel
theorem dX4_wordCount_77 : decode cX4_wordCount 77 = .ok (.iload_n 2, 1) := by decide +kernel
theorem dX4_wordCount_78 : decode cX4_wordCount 78 = .ok (.if_icmp .lt 6, 3) := by decide +kernel
theorem dX4_wordCount_81 : decode cX4_wordCount 81 = .ok (.iinc 6 1, 3) := by decide +kernel
theorem dX4_wordCount_84 : decode cX4_wordCount 84 = .ok (.iload 8, 2) := by decide +kernel
theorem dX4_wordCount_86 : decode cX4_wordCount 86 = .ok (.istore 7, 2) := by decide +kernel
theorem dX4_wordCount_88 : decode cX4_wordCount 88 = .ok (.iinc 8 1, 3) := by decide +kernel
theorem dX4_wordCount_91 : decode cX4_wordCount 91 = .ok (.goto (-47), 3) := by decide +kernel
theorem dX4_wordCount_94 : decode cX4_wordCount 94 = .ok (.iload 6, 2) := by decide +kernel
theorem dX4_wordCount_96 : decode cX4_wordCount 96 = .ok (.ireturn, 1) := by decide +kernel
theorem dX3_isBare_0 : decode cX3_isBare 0 = .ok (.aload_n 0, 1) := by decide +kernel
theorem dX3_isBare_1 : decode cX3_isBare 1 = .ok (.getfield 24, 3) := by decide +kernel
theorem dX3_isBare_4 : decode cX3_isBare 4 = .ok (.ifCond .ne 7, 3) := by decide +kernel
theorem dX3_isBare_7 : decode cX3_isBare 7 = .ok (.iconst 1, 1) := by decide +kernel
theorem dX3_isBare_8 : decode cX3_isBare 8 = .ok (.goto 4, 3) := by decide +kernel
theorem dX3_isBare_11 : decode cX3_isBare 11 = .ok (.iconst 0, 1) := by decide +kernel
theorem dX3_isBare_12 : decode cX3_isBare 12 = .ok (.ireturn, 1) := by decide +kernel
theorem dX3_restoreTo_0 : decode cX3_restoreTo 0 = .ok (.aload_n 0, 1) := by decide +kernel
theorem dX3_restoreTo_1 : decode cX3_restoreTo 1 = .ok (.getfield 24, 3) := by decide +kernel
theorem dX3_restoreTo_4 : decode cX3_restoreTo 4 = .ok (.ifCond .le 51, 3) := by decide +kernel
theorem dX3_restoreTo_7 : decode cX3_restoreTo 7 = .ok (.aload_n 0, 1) := by decide +kernel
theorem dX3_restoreTo_8 : decode cX3_restoreTo 8 = .ok (.dup, 1) := by decide +kernel
theorem dX3_restoreTo_9 : decode cX3_restoreTo 9 = .ok (.getfield 24, 3) := by decide +kernel
theorem dX3_restoreTo_12 : decode cX3_restoreTo 12 = .ok (.iconst 1, 1) := by decide +kernel
theorem dX3_restoreTo_13 : decode cX3_restoreTo 13 = .ok (.isub, 1) := by decide +kernel
theorem dX3_restoreTo_14 : decode cX3_restoreTo 14 = .ok (.putfield 24, 3) := by decide +kernel
theorem dX3_restoreTo_17 : decode cX3_restoreTo 17 = .ok (.aload_n 0, 1) := by decide +kernel
theorem dX3_restoreTo_18 : decode cX3_restoreTo 18 = .ok (.aload_n 0, 1) := by decide +kernel
theorem dX3_restoreTo_19 : decode cX3_restoreTo 19 = .ok (.getfield 24, 3) := by decide +kernel
theorem dX3_restoreTo_22 : decode cX3_restoreTo 22 = .ok (.invokevirtual 37, 3) := by decide +kernel
theorem dX3_restoreTo_25 : decode cX3_restoreTo 25 = .ok (.istore_n 2, 1) := by decide +kernel
theorem dX3_restoreTo_26 : decode cX3_restoreTo 26 = .ok (.aload_n 0, 1) := by decide +kernel
theorem dX3_restoreTo_27 : decode cX3_restoreTo 27 = .ok (.getfield 17, 3) := by decide +kernel
theorem dX3_restoreTo_30 : decode cX3_restoreTo 30 = .ok (.iload_n 2, 1) := by decide +kernel
theorem dX3_restoreTo_31 : decode cX3_restoreTo 31 = .ok (.iaload, 1) := by decide +kernel
theorem dX3_restoreTo_32 : decode cX3_restoreTo 32 = .ok (.istore_n 3, 1) := by decide +kernel
theorem dX3_restoreTo_33 : decode cX3_restoreTo 33 = .ok (.iload_n 3, 1) := by decide +kernel
theorem dX3_restoreTo_34 : decode cX3_restoreTo 34 = .ok (.ifCond .lt 21, 3) := by decide +kernel
theorem dX3_restoreTo_37 : decode cX3_restoreTo 37 = .ok (.iload_n 3, 1) := by decide +kernel
theorem dX3_restoreTo_38 : decode cX3_restoreTo 38 = .ok (.aload_n 1, 1) := by decide +kernel
theorem dX3_restoreTo_39 : decode cX3_restoreTo 39 = .ok (.arraylength, 1) := by decide +kernel
theorem dX3_restoreTo_40 : decode cX3_restoreTo 40 = .ok (.if_icmp .ge 15, 3) := by decide +kernel
theorem dX3_restoreTo_43 : decode cX3_restoreTo 43 = .ok (.aload_n 1, 1) := by decide +kernel
theorem dX3_restoreTo_44 : decode cX3_restoreTo 44 = .ok (.iload_n 3, 1) := by decide +kernel
theorem dX3_restoreTo_45 : decode cX3_restoreTo 45 = .ok (.aaload, 1) := by decide +kernel
theorem dX3_restoreTo_46 : decode cX3_restoreTo 46 = .ok (.aload_n 0, 1) := by decide +kernel
theorem dX3_restoreTo_47 : decode cX3_restoreTo 47 = .ok (.getfield 11, 3) := by decide +kernel
theorem dX3_restoreTo_50 : decode cX3_restoreTo 50 = .ok (.iload_n 2, 1) := by decide +kernel
theorem dX3_restoreTo_51 : decode cX3_restoreTo 51 = .ok (.aaload, 1) := by decide +kernel
theorem dX3_restoreTo_52 : decode cX3_restoreTo 52 = .ok (.invokevirtual 41, 3) := by decide +kernel
theorem dX3_restoreTo_55 : decode cX3_restoreTo 55 = .ok (.aload_n 0, 1) := by decide +kernel
theorem dX3_restoreTo_56 : decode cX3_restoreTo 56 = .ok (.getfield 24, 3) := by decide +kernel
theorem dX3_restoreTo_59 : decode cX3_restoreTo 59 = .ok (.ireturn, 1) := by decide +kernel
theorem dX4_stampPart_0 : decode cX4_stampPart 0 = .ok (.iconst 0, 1) := by decide +kernel
theorem dX4_stampPart_1 : decode cX4_stampPart 1 = .ok (.istore_n 2, 1) := by decide +kernel
theorem dX4_stampPart_2 : decode cX4_stampPart 2 = .ok (.iload_n 2, 1) := by decide +kernel
theorem dX4_stampPart_3 : decode cX4_stampPart 3 = .ok (.aload_n 1, 1) := by decide +kernel
theorem dX4_stampPart_4 : decode cX4_stampPart 4 = .ok (.getfield 62, 3) := by decide +kernel
theorem dX4_stampPart_7 : decode cX4_stampPart 7 = .ok (.if_icmp .ge 66, 3) := by decide +kernel
theorem dX4_stampPart_10 : decode cX4_stampPart 10 = .ok (.aload_n 1, 1) := by decide +kernel
theorem dX4_stampPart_11 : decode cX4_stampPart 11 = .ok (.iload_n 2, 1) := by decide +kernel
theorem dX4_stampPart_12 : decode cX4_stampPart 12 = .ok (.invokevirtual 65, 3) := by decide +kernel
theorem dX4_stampPart_15 : decode cX4_stampPart 15 = .ok (.aload_n 1, 1) := by decide +kernel
theorem dX4_stampPart_16 : decode cX4_stampPart 16 = .ok (.getfield 68, 3) := by decide +kernel
theorem dX4_stampPart_19 : decode cX4_stampPart 19 = .ok (.invokestatic 51, 3) := by decide +kernel
theorem dX4_stampPart_22 : decode cX4_stampPart 22 = .ok (.lstore_n 3, 1) := by decide +kernel
theorem dX4_stampPart_23 : decode cX4_stampPart 23 = .ok (.aload_n 1, 1) := by decide +kernel
theorem dX4_stampPart_24 : decode cX4_stampPart 24 = .ok (.getfield 71, 3) := by decide +kernel
theorem dX4_stampPart_27 : decode cX4_stampPart 27 = .ok (.iload_n 2, 1) := by decide +kernel
theorem dX4_stampPart_28 : decode cX4_stampPart 28 = .ok (.iadd, 1) := by decide +kernel
theorem dX4_stampPart_29 : decode cX4_stampPart 29 = .ok (.istore 5, 2) := by decide +kernel
theorem dX4_stampPart_31 : decode cX4_stampPart 31 = .ok (.aload_n 0, 1) := by decide +kernel
theorem dX4_stampPart_32 : decode cX4_stampPart 32 = .ok (.iload 5, 2) := by decide +kernel
theorem dX4_stampPart_34 : decode cX4_stampPart 34 = .ok (.aload_n 1, 1) := by decide +kernel
theorem dX4_stampPart_35 : decode cX4_stampPart 35 = .ok (.getfield 74, 3) := by decide +kernel
theorem dX4_stampPart_38 : decode cX4_stampPart 38 = .ok (.ifCond .eq 14, 3) := by decide +kernel
theorem dX4_stampPart_41 : decode cX4_stampPart 41 = .ok (.aload_n 0, 1) := by decide +kernel
theorem dX4_stampPart_42 : decode cX4_stampPart 42 = .ok (.iload 5, 2) := by decide +kernel
theorem dX4_stampPart_44 : decode cX4_stampPart 44 = .ok (.invokevirtual 30, 3) := by decide +kernel
theorem dX4_stampPart_47 : decode cX4_stampPart 47 = .ok (.lload_n 3, 1) := by decide +kernel
theorem dX4_stampPart_48 : decode cX4_stampPart 48 = .ok (.lor, 1) := by decide +kernel
theorem dX4_stampPart_49 : decode cX4_stampPart 49 = .ok (.goto 15, 3) := by decide +kernel
theorem dX4_stampPart_52 : decode cX4_stampPart 52 = .ok (.aload_n 0, 1) := by decide +kernel
theorem dX4_stampPart_53 : decode cX4_stampPart 53 = .ok (.iload 5, 2) := by decide +kernel
theorem dX4_stampPart_55 : decode cX4_stampPart 55 = .ok (.invokevirtual 30, 3) := by decide +kernel
theorem dX4_stampPart_58 : decode cX4_stampPart 58 = .ok (.lload_n 3, 1) := by decide +kernel
theorem dX4_stampPart_59 : decode cX4_stampPart 59 = .ok (.ldc2_w 28, 3) := by decide +kernel
theorem dX4_stampPart_62 : decode cX4_stampPart 62 = .ok (.lxor, 1) := by decide +kernel
theorem dX4_stampPart_63 : decode cX4_stampPart 63 = .ok (.land, 1) := by decide +kernel
theorem dX4_stampPart_64 : decode cX4_stampPart 64 = .ok (.invokevirtual 33, 3) := by decide +kernel
theorem dX4_stampPart_67 : decode cX4_stampPart 67 = .ok (.iinc 2 1, 3) := by decide +kernel
theorem dX4_stampPart_70 : decode cX4_stampPart 70 = .ok (.goto (-68), 3) := by decide +kernel
theorem dX4_stampPart_73 : decode cX4_stampPart 73 = .ok (.return_, 1) := by decide +kernel
theorem dX0_init_0 : decode cX0_init 0 = .ok (.aload_n 0, 1) := by decide +kernel
theorem dX0_init_1 : decode cX0_init 1 = .ok (.invokespecial 3, 3) := by decide +kernel
theorem dX0_init_4 : decode cX0_init 4 = .ok (.aload_n 0, 1) := by decide +kernel
theorem dX0_init_5 : decode cX0_init 5 = .ok (.iload_n 2, 1) := by decide +kernel
theorem dX0_init_6 : decode cX0_init 6 = .ok (.putfield 9, 3) := by decide +kernel
theorem dX0_init_9 : decode cX0_init 9 = .ok (.aload_n 0, 1) := by decide +kernel
theorem dX0_init_10 : decode cX0_init 10 = .ok (.iload_n 1, 1) := by decide +kernel
theorem dX0_init_11 : decode cX0_init 11 = .ok (.iload_n 2, 1) := by decide +kernel
theorem dX0_init_12 : decode cX0_init 12 = .ok (.imul, 1) := by decide +kernel
theorem dX0_init_13 : decode cX0_init 13 = .ok (.putfield 15, 3) := by decide +kernel
theorem dX0_init_16 : decode cX0_init 16 = .ok (.aload_n 0, 1) := by decide +kernel
theorem dX0_init_17 : decode cX0_init 17 = .ok (.iload_n 2, 1) := by decide +kernel
theorem dX0_init_18 : decode cX0_init 18 = .ok (.newarray .long, 2) := by decide +kernel
theorem dX0_init_20 : decode cX0_init 20 = .ok (.putfield 18, 3) := by decide +kernel
theorem dX0_init_23 : decode cX0_init 23 = .ok (.aload_n 0, 1) := by decide +kernel
theorem dX0_init_24 : decode cX0_init 24 = .ok (.iload_n 2, 1) := by decide +kernel
theorem dX0_init_25 : decode cX0_init 25 = .ok (.newarray .long, 2) := by decide +kernel
theorem dX0_init_27 : decode cX0_init 27 = .ok (.putfield 22, 3) := by decide +kernel
theorem dX0_init_30 : decode cX0_init 30 = .ok (.return_, 1) := by decide +kernel
theorem dX11_init_0 : decode cX11_init 0 = .ok (.aload_n 0, 1) := by decide +kernel
theorem dX11_init_1 : decode cX11_init 1 = .ok (.invokespecial 3, 3) := by decide +kernel
theorem dX11_init_4 : decode cX11_init 4 = .ok (.aload_n 0, 1) := by decide +kernel
theorem dX11_init_5 : decode cX11_init 5 = .ok (.bipush 80, 2) := by decide +kernel
theorem dX11_init_7 : decode cX11_init 7 = .ok (.newarray .int, 2) := by decide +kernel
theorem dX11_init_9 : decode cX11_init 9 = .ok (.putfield 9, 3) := by decide +kernel
theorem dX11_init_12 : decode cX11_init 12 = .ok (.return_, 1) := by decide +kernel
theorem dX2_init_0 : decode cX2_init 0 = .ok (.aload_n 0, 1) := by decide +kernel
theorem dX2_init_1 : decode cX2_init 1 = .ok (.invokespecial 3, 3) := by decide +kernel
theorem dX2_init_4 : decode cX2_init 4 = .ok (.aload_n 0, 1) := by decide +kernel
theorem dX2_init_5 : decode cX2_init 5 = .ok (.getstatic 9, 3) := by decide +kernel
theorem dX2_init_8 : decode cX2_init 8 = .ok (.arraylength, 1) := by decide +kernel
theorem dX2_init_9 : decode cX2_init 9 = .ok (.newarray .int, 2) := by decide +kernel
theorem dX2_init_11 : decode cX2_init 11 = .ok (.putfield 13, 3) := by decide +kernel
theorem dX2_init_14 : decode cX2_init 14 = .ok (.aload_n 0, 1) := by decide +kernel
theorem dX2_init_15 : decode cX2_init 15 = .ok (.getstatic 9, 3) := by decide +kernel
theorem dX2_init_18 : decode cX2_init 18 = .ok (.arraylength, 1) := by decide +kernel
theorem dX2_init_19 : decode cX2_init 19 = .ok (.newarray .int, 2) := by decide +kernel
theorem dX2_init_21 : decode cX2_init 21 = .ok (.putfield 19, 3) := by decide +kernel
theorem dX2_init_24 : decode cX2_init 24 = .ok (.aload_n 0, 1) := by decide +kernel
theorem dX2_init_25 : decode cX2_init 25 = .ok (.getstatic 9, 3) := by decide +kernel
theorem dX2_init_28 : decode cX2_init 28 = .ok (.arraylength, 1) := by decide +kernel
theorem dX2_init_29 : decode cX2_init 29 = .ok (.newarray .int, 2) := by decide +kernel
theorem dX2_init_31 : decode cX2_init 31 = .ok (.putfield 22, 3) := by decide +kernel
theorem dX2_init_34 : decode cX2_init 34 = .ok (.aload_n 0, 1) := by decide +kernel
theorem dX2_init_35 : decode cX2_init 35 = .ok (.getstatic 9, 3) := by decide +kernel
theorem dX2_init_38 : decode cX2_init 38 = .ok (.arraylength, 1) := by decide +kernel
theorem dX2_init_39 : decode cX2_init 39 = .ok (.newarray .int, 2) := by decide +kernel
theorem dX2_init_41 : decode cX2_init 41 = .ok (.putfield 25, 3) := by decide +kernel
theorem dX2_init_44 : decode cX2_init 44 = .ok (.iconst 0, 1) := by decide +kernel
theorem dX2_init_45 : decode cX2_init 45 = .ok (.istore_n 1, 1) := by decide +kernel
theorem dX2_init_46 : decode cX2_init 46 = .ok (.iload_n 1, 1) := by decide +kernel
theorem dX2_init_47 : decode cX2_init 47 = .ok (.getstatic 9, 3) := by decide +kernel
theorem dX2_init_50 : decode cX2_init 50 = .ok (.arraylength, 1) := by decide +kernel
theorem dX2_init_51 : decode cX2_init 51 = .ok (.if_icmp .ge 23, 3) := by decide +kernel
theorem dX2_init_54 : decode cX2_init 54 = .ok (.aload_n 0, 1) := by decide +kernel
theorem dX2_init_55 : decode cX2_init 55 = .ok (.getfield 13, 3) := by decide +kernel
theorem dX2_init_58 : decode cX2_init 58 = .ok (.iload_n 1, 1) := by decide +kernel
theorem dX2_init_59 : decode cX2_init 59 = .ok (.getstatic 9, 3) := by decide +kernel
theorem dX2_init_62 : decode cX2_init 62 = .ok (.iload_n 1, 1) := by decide +kernel
theorem dX2_init_63 : decode cX2_init 63 = .ok (.aaload, 1) := by decide +kernel
theorem dX2_init_64 : decode cX2_init 64 = .ok (.getfield 28, 3) := by decide +kernel
theorem dX2_init_67 : decode cX2_init 67 = .ok (.iastore, 1) := by decide +kernel
theorem dX2_init_68 : decode cX2_init 68 = .ok (.iinc 1 1, 3) := by decide +kernel
theorem dX2_init_71 : decode cX2_init 71 = .ok (.goto (-25), 3) := by decide +kernel
theorem dX2_init_74 : decode cX2_init 74 = .ok (.return_, 1) := by decide +kernel
theorem dX6_init_0 : decode cX6_init 0 = .ok (.aload_n 0, 1) := by decide +kernel
theorem dX6_init_1 : decode cX6_init 1 = .ok (.invokespecial 1, 3) := by decide +kernel
theorem dX6_init_4 : decode cX6_init 4 = .ok (.return_, 1) := by decide +kernel
theorem dX11_clear_0 : decode cX11_clear 0 = .ok (.aload_n 0, 1) := by decide +kernel
theorem dX11_clear_1 : decode cX11_clear 1 = .ok (.getfield 15, 3) := by decide +kernel
theorem dX11_clear_4 : decode cX11_clear 4 = .ok (.istore_n 1, 1) := by decide +kernel
theorem dX11_clear_5 : decode cX11_clear 5 = .ok (.aload_n 0, 1) := by decide +kernel
theorem dX11_clear_6 : decode cX11_clear 6 = .ok (.iconst 0, 1) := by decide +kernel
theorem dX11_clear_7 : decode cX11_clear 7 = .ok (.putfield 15, 3) := by decide +kernel
theorem dX11_clear_10 : decode cX11_clear 10 = .ok (.iload_n 1, 1) := by decide +kernel
theorem dX11_clear_11 : decode cX11_clear 11 = .ok (.ireturn, 1) := by decide +kernel
theorem dX2_read_0 : decode cX2_read 0 = .ok (.aload_n 0, 1) := by decide +kernel
theorem dX2_read_1 : decode cX2_read 1 = .ok (.getfield 13, 3) := by decide +kernel
theorem dX2_read_4 : decode cX2_read 4 = .ok (.iconst 0, 1) := by decide +kernel
theorem dX2_read_5 : decode cX2_read 5 = .ok (.aload_n 0, 1) := by decide +kernel
theorem dX2_read_6 : decode cX2_read 6 = .ok (.getfield 22, 3) := by decide +kernel
theorem dX2_read_9 : decode cX2_read 9 = .ok (.iconst 0, 1) := by decide +kernel
theorem dX2_read_10 : decode cX2_read 10 = .ok (.getstatic 9, 3) := by decide +kernel
theorem dX2_read_13 : decode cX2_read 13 = .ok (.arraylength, 1) := by decide +kernel
theorem dX2_read_14 : decode cX2_read 14 = .ok (.invokestatic 37, 3) := by decide +kernel
theorem dX2_read_17 : decode cX2_read 17 = .ok (.aload_n 0, 1) := by decide +kernel
theorem dX2_read_18 : decode cX2_read 18 = .ok (.getfield 19, 3) := by decide +kernel
theorem dX2_read_21 : decode cX2_read 21 = .ok (.iconst 0, 1) := by decide +kernel
theorem dX2_read_22 : decode cX2_read 22 = .ok (.aload_n 0, 1) := by decide +kernel
theorem dX2_read_23 : decode cX2_read 23 = .ok (.getfield 25, 3) := by decide +kernel
theorem dX2_read_26 : decode cX2_read 26 = .ok (.iconst 0, 1) := by decide +kernel
theorem dX2_read_27 : decode cX2_read 27 = .ok (.getstatic 9, 3) := by decide +kernel
theorem dX2_read_30 : decode cX2_read 30 = .ok (.arraylength, 1) := by decide +kernel
theorem dX2_read_31 : decode cX2_read 31 = .ok (.invokestatic 37, 3) := by decide +kernel
theorem dX2_read_34 : decode cX2_read 34 = .ok (.aload_n 0, 1) := by decide +kernel
theorem dX2_read_35 : decode cX2_read 35 = .ok (.aload_n 0, 1) := by decide +kernel
theorem dX2_read_36 : decode cX2_read 36 = .ok (.getfield 43, 3) := by decide +kernel
theorem dX2_read_39 : decode cX2_read 39 = .ok (.putfield 46, 3) := by decide +kernel
theorem dX2_read_42 : decode cX2_read 42 = .ok (.aload_n 1, 1) := by decide +kernel
theorem dX2_read_43 : decode cX2_read 43 = .ok (.invokevirtual 49, 3) := by decide +kernel
theorem dX2_read_46 : decode cX2_read 46 = .ok (.istore_n 2, 1) := by decide +kernel
theorem dX2_read_47 : decode cX2_read 47 = .ok (.iload_n 2, 1) := by decide +kernel
theorem dX2_read_48 : decode cX2_read 48 = .ok (.ifCond .ne 5, 3) := by decide +kernel
theorem dX2_read_51 : decode cX2_read 51 = .ok (.iconst 0, 1) := by decide +kernel
theorem dX2_read_52 : decode cX2_read 52 = .ok (.ireturn, 1) := by decide +kernel
theorem dX2_read_53 : decode cX2_read 53 = .ok (.iconst 0, 1) := by decide +kernel
theorem dX2_read_54 : decode cX2_read 54 = .ok (.istore_n 3, 1) := by decide +kernel
theorem dX2_read_55 : decode cX2_read 55 = .ok (.iconst 1, 1) := by decide +kernel
theorem dX2_read_56 : decode cX2_read 56 = .ok (.istore 4, 2) := by decide +kernel
theorem dX2_read_58 : decode cX2_read 58 = .ok (.iload 4, 2) := by decide +kernel
theorem dX2_read_60 : decode cX2_read 60 = .ok (.bipush 80, 2) := by decide +kernel
theorem dX2_read_62 : decode cX2_read 62 = .ok (.if_icmp .gt 126, 3) := by decide +kernel
theorem dX2_read_65 : decode cX2_read 65 = .ok (.aload_n 1, 1) := by decide +kernel
theorem dX2_read_66 : decode cX2_read 66 = .ok (.iload_n 3, 1) := by decide +kernel
theorem dX2_read_67 : decode cX2_read 67 = .ok (.invokevirtual 55, 3) := by decide +kernel
theorem dX2_read_70 : decode cX2_read 70 = .ok (.istore 5, 2) := by decide +kernel
theorem dX2_read_72 : decode cX2_read 72 = .ok (.aload_n 1, 1) := by decide +kernel
theorem dX2_read_73 : decode cX2_read 73 = .ok (.iload_n 3, 1) := by decide +kernel
theorem dX2_read_74 : decode cX2_read 74 = .ok (.iload 5, 2) := by decide +kernel
theorem dX2_read_76 : decode cX2_read 76 = .ok (.invokestatic 59, 3) := by decide +kernel
theorem dX2_read_79 : decode cX2_read 79 = .ok (.astore 6, 2) := by decide +kernel
theorem dX2_read_81 : decode cX2_read 81 = .ok (.aload 6, 2) := by decide +kernel
theorem dX2_read_83 : decode cX2_read 83 = .ok (.ifnonnull 7, 3) := by decide +kernel
theorem dX2_read_86 : decode cX2_read 86 = .ok (.iconst (-1), 1) := by decide +kernel
theorem dX2_read_87 : decode cX2_read 87 = .ok (.iload_n 3, 1) := by decide +kernel
theorem dX2_read_88 : decode cX2_read 88 = .ok (.isub, 1) := by decide +kernel
theorem dX2_read_89 : decode cX2_read 89 = .ok (.ireturn, 1) := by decide +kernel
theorem dX2_read_90 : decode cX2_read 90 = .ok (.aload_n 1, 1) := by decide +kernel
theorem dX2_read_91 : decode cX2_read 91 = .ok (.iload 5, 2) := by decide +kernel
theorem dX2_read_93 : decode cX2_read 93 = .ok (.invokevirtual 63, 3) := by decide +kernel
theorem dX2_read_96 : decode cX2_read 96 = .ok (.bipush 61, 2) := by decide +kernel
theorem dX2_read_98 : decode cX2_read 98 = .ok (.if_icmp .eq 8, 3) := by decide +kernel
theorem dX2_read_101 : decode cX2_read 101 = .ok (.iconst (-1), 1) := by decide +kernel
theorem dX2_read_102 : decode cX2_read 102 = .ok (.iload 5, 2) := by decide +kernel
theorem dX2_read_104 : decode cX2_read 104 = .ok (.isub, 1) := by decide +kernel
theorem dX2_read_105 : decode cX2_read 105 = .ok (.ireturn, 1) := by decide +kernel
theorem dX2_read_106 : decode cX2_read 106 = .ok (.aload_n 1, 1) := by decide +kernel
theorem dX2_read_107 : decode cX2_read 107 = .ok (.iload 5, 2) := by decide +kernel
theorem dX2_read_109 : decode cX2_read 109 = .ok (.iconst 1, 1) := by decide +kernel
theorem dX2_read_110 : decode cX2_read 110 = .ok (.iadd, 1) := by decide +kernel
theorem dX2_read_111 : decode cX2_read 111 = .ok (.invokevirtual 66, 3) := by decide +kernel
theorem dX2_read_114 : decode cX2_read 114 = .ok (.istore 7, 2) := by decide +kernel
theorem dX2_read_116 : decode cX2_read 116 = .ok (.aload 6, 2) := by decide +kernel
theorem dX2_read_118 : decode cX2_read 118 = .ok (.aload_n 1, 1) := by decide +kernel
theorem dX2_read_119 : decode cX2_read 119 = .ok (.iload 5, 2) := by decide +kernel
theorem dX2_read_121 : decode cX2_read 121 = .ok (.iconst 1, 1) := by decide +kernel
theorem dX2_read_122 : decode cX2_read 122 = .ok (.iadd, 1) := by decide +kernel
theorem dX2_read_123 : decode cX2_read 123 = .ok (.iload 7, 2) := by decide +kernel
theorem dX2_read_125 : decode cX2_read 125 = .ok (.invokevirtual 69, 3) := by decide +kernel
theorem dX2_read_128 : decode cX2_read 128 = .ok (.istore 8, 2) := by decide +kernel
theorem dX2_read_130 : decode cX2_read 130 = .ok (.iload 8, 2) := by decide +kernel
theorem dX2_read_132 : decode cX2_read 132 = .ok (.ifCond .ge 9, 3) := by decide +kernel
theorem dX2_read_135 : decode cX2_read 135 = .ok (.bipush (-2), 2) := by decide +kernel
theorem dX2_read_137 : decode cX2_read 137 = .ok (.iload 5, 2) := by decide +kernel
theorem dX2_read_139 : decode cX2_read 139 = .ok (.isub, 1) := by decide +kernel
theorem dX2_read_140 : decode cX2_read 140 = .ok (.ireturn, 1) := by decide +kernel
theorem dX2_read_141 : decode cX2_read 141 = .ok (.aload_n 0, 1) := by decide +kernel
theorem dX2_read_142 : decode cX2_read 142 = .ok (.aload 6, 2) := by decide +kernel
theorem dX2_read_144 : decode cX2_read 144 = .ok (.getfield 34, 3) := by decide +kernel
theorem dX2_read_147 : decode cX2_read 147 = .ok (.iload 8, 2) := by decide +kernel
theorem dX2_read_149 : decode cX2_read 149 = .ok (.invokevirtual 73, 3) := by decide +kernel
theorem dX2_read_152 : decode cX2_read 152 = .ok (.iload 7, 2) := by decide +kernel
theorem dX2_read_154 : decode cX2_read 154 = .ok (.iload_n 2, 1) := by decide +kernel
theorem dX2_read_155 : decode cX2_read 155 = .ok (.if_icmp .lt 6, 3) := by decide +kernel
theorem dX2_read_158 : decode cX2_read 158 = .ok (.iload 4, 2) := by decide +kernel
theorem dX2_read_160 : decode cX2_read 160 = .ok (.ireturn, 1) := by decide +kernel
theorem dX2_read_161 : decode cX2_read 161 = .ok (.aload_n 1, 1) := by decide +kernel
theorem dX2_read_162 : decode cX2_read 162 = .ok (.iload 7, 2) := by decide +kernel
theorem dX2_read_164 : decode cX2_read 164 = .ok (.invokevirtual 63, 3) := by decide +kernel
theorem dX2_read_167 : decode cX2_read 167 = .ok (.bipush 59, 2) := by decide +kernel
theorem dX2_read_169 : decode cX2_read 169 = .ok (.if_icmp .eq 8, 3) := by decide +kernel
theorem dX2_read_172 : decode cX2_read 172 = .ok (.iconst (-1), 1) := by decide +kernel
theorem dX2_read_173 : decode cX2_read 173 = .ok (.iload 7, 2) := by decide +kernel
theorem dX2_read_175 : decode cX2_read 175 = .ok (.isub, 1) := by decide +kernel
theorem dX2_read_176 : decode cX2_read 176 = .ok (.ireturn, 1) := by decide +kernel
theorem dX2_read_177 : decode cX2_read 177 = .ok (.iload 7, 2) := by decide +kernel
theorem dX2_read_179 : decode cX2_read 179 = .ok (.iconst 1, 1) := by decide +kernel
theorem dX2_read_180 : decode cX2_read 180 = .ok (.iadd, 1) := by decide +kernel
theorem dX2_read_181 : decode cX2_read 181 = .ok (.istore_n 3, 1) := by decide +kernel
theorem dX2_read_182 : decode cX2_read 182 = .ok (.iinc 4 1, 3) := by decide +kernel
theorem dX2_read_185 : decode cX2_read 185 = .ok (.goto (-127), 3) := by decide +kernel
theorem dX2_read_188 : decode cX2_read 188 = .ok (.iconst (-1), 1) := by decide +kernel
theorem dX2_read_189 : decode cX2_read 189 = .ok (.iload_n 3, 1) := by decide +kernel
theorem dX2_read_190 : decode cX2_read 190 = .ok (.isub, 1) := by decide +kernel
theorem dX2_read_191 : decode cX2_read 191 = .ok (.ireturn, 1) := by decide +kernel
theorem dX11_length_0 : decode cX11_length 0 = .ok (.aload_n 0, 1) := by decide +kernel
theorem dX11_length_1 : decode cX11_length 1 = .ok (.getfield 15, 3) := by decide +kernel
theorem dX11_length_4 : decode cX11_length 4 = .ok (.ireturn, 1) := by decide +kernel
theorem dX11_endOfLetters_0 : decode cX11_endOfLetters 0 = .ok (.iload_n 1, 1) := by decide +kernel
theorem dX11_endOfLetters_1 : decode cX11_endOfLetters 1 = .ok (.istore_n 2, 1) := by decide +kernel
theorem dX11_endOfLetters_2 : decode cX11_endOfLetters 2 = .ok (.iload_n 2, 1) := by decide +kernel
theorem dX11_endOfLetters_3 : decode cX11_endOfLetters 3 = .ok (.aload_n 0, 1) := by decide +kernel
theorem dX11_endOfLetters_4 : decode cX11_endOfLetters 4 = .ok (.getfield 15, 3) := by decide +kernel
theorem dX11_endOfLetters_7 : decode cX11_endOfLetters 7 = .ok (.if_icmp .ge 20, 3) := by decide +kernel
theorem dX11_endOfLetters_10 : decode cX11_endOfLetters 10 = .ok (.aload_n 0, 1) := by decide +kernel
theorem dX11_endOfLetters_11 : decode cX11_endOfLetters 11 = .ok (.iload_n 2, 1) := by decide +kernel
theorem dX11_endOfLetters_12 : decode cX11_endOfLetters 12 = .ok (.invokevirtual 23, 3) := by decide +kernel
theorem dX11_endOfLetters_15 : decode cX11_endOfLetters 15 = .ok (.invokestatic 31, 3) := by decide +kernel
theorem dX11_endOfLetters_18 : decode cX11_endOfLetters 18 = .ok (.ifCond .eq 9, 3) := by decide +kernel
theorem dX11_endOfLetters_21 : decode cX11_endOfLetters 21 = .ok (.iinc 2 1, 3) := by decide +kernel
theorem dX11_endOfLetters_24 : decode cX11_endOfLetters 24 = .ok (.goto (-22), 3) := by decide +kernel
theorem dX11_endOfLetters_27 : decode cX11_endOfLetters 27 = .ok (.iload_n 2, 1) := by decide +kernel
theorem dX11_endOfLetters_28 : decode cX11_endOfLetters 28 = .ok (.ireturn, 1) := by decide +kernel
theorem dX11_codeAt_0 : decode cX11_codeAt 0 = .ok (.iload_n 1, 1) := by decide +kernel
theorem dX11_codeAt_1 : decode cX11_codeAt 1 = .ok (.ifCond .lt 20, 3) := by decide +kernel
theorem dX11_codeAt_4 : decode cX11_codeAt 4 = .ok (.iload_n 1, 1) := by decide +kernel
theorem dX11_codeAt_5 : decode cX11_codeAt 5 = .ok (.aload_n 0, 1) := by decide +kernel
theorem dX11_codeAt_6 : decode cX11_codeAt 6 = .ok (.getfield 15, 3) := by decide +kernel
theorem dX11_codeAt_9 : decode cX11_codeAt 9 = .ok (.if_icmp .ge 12, 3) := by decide +kernel
theorem dX11_codeAt_12 : decode cX11_codeAt 12 = .ok (.aload_n 0, 1) := by decide +kernel
theorem dX11_codeAt_13 : decode cX11_codeAt 13 = .ok (.getfield 9, 3) := by decide +kernel
theorem dX11_codeAt_16 : decode cX11_codeAt 16 = .ok (.iload_n 1, 1) := by decide +kernel
theorem dX11_codeAt_17 : decode cX11_codeAt 17 = .ok (.iaload, 1) := by decide +kernel
theorem dX11_codeAt_18 : decode cX11_codeAt 18 = .ok (.goto 4, 3) := by decide +kernel
theorem dX11_codeAt_21 : decode cX11_codeAt 21 = .ok (.iconst (-1), 1) := by decide +kernel
theorem dX11_codeAt_22 : decode cX11_codeAt 22 = .ok (.ireturn, 1) := by decide +kernel
theorem dX11_isLetter_0 : decode cX11_isLetter 0 = .ok (.iload_n 0, 1) := by decide +kernel
theorem dX11_isLetter_1 : decode cX11_isLetter 1 = .ok (.bipush 97, 2) := by decide +kernel
theorem dX11_isLetter_3 : decode cX11_isLetter 3 = .ok (.if_icmp .lt 13, 3) := by decide +kernel
theorem dX11_isLetter_6 : decode cX11_isLetter 6 = .ok (.iload_n 0, 1) := by decide +kernel
theorem dX11_isLetter_7 : decode cX11_isLetter 7 = .ok (.bipush 122, 2) := by decide +kernel
theorem dX11_isLetter_9 : decode cX11_isLetter 9 = .ok (.if_icmp .gt 7, 3) := by decide +kernel
theorem dX11_isLetter_12 : decode cX11_isLetter 12 = .ok (.iconst 1, 1) := by decide +kernel
theorem dX11_isLetter_13 : decode cX11_isLetter 13 = .ok (.goto 4, 3) := by decide +kernel
theorem dX11_isLetter_16 : decode cX11_isLetter 16 = .ok (.iconst 0, 1) := by decide +kernel
theorem dX11_isLetter_17 : decode cX11_isLetter 17 = .ok (.ireturn, 1) := by decide +kernel
theorem dX2_settingNamed_0 : decode cX2_settingNamed 0 = .ok (.getstatic 9, 3) := by decide +kernel
theorem dX2_settingNamed_3 : decode cX2_settingNamed 3 = .ok (.astore_n 3, 1) := by decide +kernel
theorem dX2_settingNamed_4 : decode cX2_settingNamed 4 = .ok (.aload_n 3, 1) := by decide +kernel
theorem dX2_settingNamed_5 : decode cX2_settingNamed 5 = .ok (.arraylength, 1) := by decide +kernel
theorem dX2_settingNamed_6 : decode cX2_settingNamed 6 = .ok (.istore 4, 2) := by decide +kernel
theorem dX2_settingNamed_8 : decode cX2_settingNamed 8 = .ok (.iconst 0, 1) := by decide +kernel
theorem dX2_settingNamed_9 : decode cX2_settingNamed 9 = .ok (.istore 5, 2) := by decide +kernel
theorem dX2_settingNamed_11 : decode cX2_settingNamed 11 = .ok (.iload 5, 2) := by decide +kernel
theorem dX2_settingNamed_13 : decode cX2_settingNamed 13 = .ok (.iload 4, 2) := by decide +kernel
theorem dX2_settingNamed_15 : decode cX2_settingNamed 15 = .ok (.if_icmp .ge 32, 3) := by decide +kernel
theorem dX2_settingNamed_18 : decode cX2_settingNamed 18 = .ok (.aload_n 3, 1) := by decide +kernel
theorem dX2_settingNamed_19 : decode cX2_settingNamed 19 = .ok (.iload 5, 2) := by decide +kernel
theorem dX2_settingNamed_21 : decode cX2_settingNamed 21 = .ok (.aaload, 1) := by decide +kernel
theorem dX2_settingNamed_22 : decode cX2_settingNamed 22 = .ok (.astore 6, 2) := by decide +kernel
theorem dX2_settingNamed_24 : decode cX2_settingNamed 24 = .ok (.aload_n 0, 1) := by decide +kernel
theorem dX2_settingNamed_25 : decode cX2_settingNamed 25 = .ok (.iload_n 1, 1) := by decide +kernel
theorem dX2_settingNamed_26 : decode cX2_settingNamed 26 = .ok (.iload_n 2, 1) := by decide +kernel
theorem dX2_settingNamed_27 : decode cX2_settingNamed 27 = .ok (.aload 6, 2) := by decide +kernel
theorem dX2_settingNamed_29 : decode cX2_settingNamed 29 = .ok (.getfield 77, 3) := by decide +kernel
theorem dX2_settingNamed_32 : decode cX2_settingNamed 32 = .ok (.invokevirtual 81, 3) := by decide +kernel
theorem dX2_settingNamed_35 : decode cX2_settingNamed 35 = .ok (.ifCond .eq 6, 3) := by decide +kernel
theorem dX2_settingNamed_38 : decode cX2_settingNamed 38 = .ok (.aload 6, 2) := by decide +kernel
theorem dX2_settingNamed_40 : decode cX2_settingNamed 40 = .ok (.areturn, 1) := by decide +kernel
theorem dX2_settingNamed_41 : decode cX2_settingNamed 41 = .ok (.iinc 5 1, 3) := by decide +kernel
theorem dX2_settingNamed_44 : decode cX2_settingNamed 44 = .ok (.goto (-33), 3) := by decide +kernel
theorem dX2_settingNamed_47 : decode cX2_settingNamed 47 = .ok (.aconst_null, 1) := by decide +kernel
theorem dX2_settingNamed_48 : decode cX2_settingNamed 48 = .ok (.areturn, 1) := by decide +kernel
theorem dX11_matches_0 : decode cX11_matches 0 = .ok (.iload_n 2, 1) := by decide +kernel
theorem dX11_matches_1 : decode cX11_matches 1 = .ok (.iload_n 1, 1) := by decide +kernel
theorem dX11_matches_2 : decode cX11_matches 2 = .ok (.isub, 1) := by decide +kernel
theorem dX11_matches_3 : decode cX11_matches 3 = .ok (.aload_n 3, 1) := by decide +kernel
theorem dX11_matches_4 : decode cX11_matches 4 = .ok (.invokevirtual 34, 3) := by decide +kernel
theorem dX11_matches_7 : decode cX11_matches 7 = .ok (.if_icmp .eq 5, 3) := by decide +kernel
theorem dX11_matches_10 : decode cX11_matches 10 = .ok (.iconst 0, 1) := by decide +kernel
theorem dX11_matches_11 : decode cX11_matches 11 = .ok (.ireturn, 1) := by decide +kernel
theorem dX11_matches_12 : decode cX11_matches 12 = .ok (.iconst 0, 1) := by decide +kernel
theorem dX11_matches_13 : decode cX11_matches 13 = .ok (.istore 4, 2) := by decide +kernel
theorem dX11_matches_15 : decode cX11_matches 15 = .ok (.iload 4, 2) := by decide +kernel
theorem dX11_matches_17 : decode cX11_matches 17 = .ok (.aload_n 3, 1) := by decide +kernel
theorem dX11_matches_18 : decode cX11_matches 18 = .ok (.invokevirtual 34, 3) := by decide +kernel
theorem dX11_matches_21 : decode cX11_matches 21 = .ok (.if_icmp .ge 28, 3) := by decide +kernel
theorem dX11_matches_24 : decode cX11_matches 24 = .ok (.aload_n 0, 1) := by decide +kernel
theorem dX11_matches_25 : decode cX11_matches 25 = .ok (.iload_n 1, 1) := by decide +kernel
theorem dX11_matches_26 : decode cX11_matches 26 = .ok (.iload 4, 2) := by decide +kernel
theorem dX11_matches_28 : decode cX11_matches 28 = .ok (.iadd, 1) := by decide +kernel
theorem dX11_matches_29 : decode cX11_matches 29 = .ok (.invokevirtual 23, 3) := by decide +kernel
theorem dX11_matches_32 : decode cX11_matches 32 = .ok (.aload_n 3, 1) := by decide +kernel
theorem dX11_matches_33 : decode cX11_matches 33 = .ok (.iload 4, 2) := by decide +kernel
theorem dX11_matches_35 : decode cX11_matches 35 = .ok (.invokevirtual 39, 3) := by decide +kernel
theorem dX11_matches_38 : decode cX11_matches 38 = .ok (.if_icmp .eq 5, 3) := by decide +kernel
theorem dX11_matches_41 : decode cX11_matches 41 = .ok (.iconst 0, 1) := by decide +kernel
theorem dX11_matches_42 : decode cX11_matches 42 = .ok (.ireturn, 1) := by decide +kernel
theorem dX11_matches_43 : decode cX11_matches 43 = .ok (.iinc 4 1, 3) := by decide +kernel
theorem dX11_matches_46 : decode cX11_matches 46 = .ok (.goto (-31), 3) := by decide +kernel
theorem dX11_matches_49 : decode cX11_matches 49 = .ok (.iconst 1, 1) := by decide +kernel
theorem dX11_matches_50 : decode cX11_matches 50 = .ok (.ireturn, 1) := by decide +kernel
theorem dX11_endOfLettersAndDigits_0 : decode cX11_endOfLettersAndDigits 0 = .ok (.iload_n 1, 1) := by decide +kernel
theorem dX11_endOfLettersAndDigits_1 : decode cX11_endOfLettersAndDigits 1 = .ok (.istore_n 2, 1) := by decide +kernel
theorem dX11_endOfLettersAndDigits_2 : decode cX11_endOfLettersAndDigits 2 = .ok (.iload_n 2, 1) := by decide +kernel
theorem dX11_endOfLettersAndDigits_3 : decode cX11_endOfLettersAndDigits 3 = .ok (.aload_n 0, 1) := by decide +kernel
theorem dX11_endOfLettersAndDigits_4 : decode cX11_endOfLettersAndDigits 4 = .ok (.getfield 15, 3) := by decide +kernel
theorem dX11_endOfLettersAndDigits_7 : decode cX11_endOfLettersAndDigits 7 = .ok (.if_icmp .ge 31, 3) := by decide +kernel
theorem dX11_endOfLettersAndDigits_10 : decode cX11_endOfLettersAndDigits 10 = .ok (.aload_n 0, 1) := by decide +kernel
theorem dX11_endOfLettersAndDigits_11 : decode cX11_endOfLettersAndDigits 11 = .ok (.iload_n 2, 1) := by decide +kernel
theorem dX11_endOfLettersAndDigits_12 : decode cX11_endOfLettersAndDigits 12 = .ok (.invokevirtual 23, 3) := by decide +kernel
theorem dX11_endOfLettersAndDigits_15 : decode cX11_endOfLettersAndDigits 15 = .ok (.invokestatic 31, 3) := by decide +kernel
theorem dX11_endOfLettersAndDigits_18 : decode cX11_endOfLettersAndDigits 18 = .ok (.ifCond .ne 14, 3) := by decide +kernel
theorem dX11_endOfLettersAndDigits_21 : decode cX11_endOfLettersAndDigits 21 = .ok (.aload_n 0, 1) := by decide +kernel
theorem dX11_endOfLettersAndDigits_22 : decode cX11_endOfLettersAndDigits 22 = .ok (.iload_n 2, 1) := by decide +kernel
theorem dX11_endOfLettersAndDigits_23 : decode cX11_endOfLettersAndDigits 23 = .ok (.invokevirtual 23, 3) := by decide +kernel
theorem dX11_endOfLettersAndDigits_26 : decode cX11_endOfLettersAndDigits 26 = .ok (.invokestatic 27, 3) := by decide +kernel
theorem dX11_endOfLettersAndDigits_29 : decode cX11_endOfLettersAndDigits 29 = .ok (.ifCond .eq 9, 3) := by decide +kernel
theorem dX11_endOfLettersAndDigits_32 : decode cX11_endOfLettersAndDigits 32 = .ok (.iinc 2 1, 3) := by decide +kernel
theorem dX11_endOfLettersAndDigits_35 : decode cX11_endOfLettersAndDigits 35 = .ok (.goto (-33), 3) := by decide +kernel
theorem dX11_endOfLettersAndDigits_38 : decode cX11_endOfLettersAndDigits 38 = .ok (.iload_n 2, 1) := by decide +kernel
theorem dX11_endOfLettersAndDigits_39 : decode cX11_endOfLettersAndDigits 39 = .ok (.ireturn, 1) := by decide +kernel
theorem dX11_isDigit_0 : decode cX11_isDigit 0 = .ok (.iload_n 0, 1) := by decide +kernel
theorem dX11_isDigit_1 : decode cX11_isDigit 1 = .ok (.bipush 48, 2) := by decide +kernel
theorem dX11_isDigit_3 : decode cX11_isDigit 3 = .ok (.if_icmp .lt 13, 3) := by decide +kernel
theorem dX11_isDigit_6 : decode cX11_isDigit 6 = .ok (.iload_n 0, 1) := by decide +kernel
theorem dX11_isDigit_7 : decode cX11_isDigit 7 = .ok (.bipush 57, 2) := by decide +kernel
theorem dX11_isDigit_9 : decode cX11_isDigit 9 = .ok (.if_icmp .gt 7, 3) := by decide +kernel
theorem dX11_isDigit_12 : decode cX11_isDigit 12 = .ok (.iconst 1, 1) := by decide +kernel
theorem dX11_isDigit_13 : decode cX11_isDigit 13 = .ok (.goto 4, 3) := by decide +kernel
theorem dX11_isDigit_16 : decode cX11_isDigit 16 = .ok (.iconst 0, 1) := by decide +kernel
theorem dX11_isDigit_17 : decode cX11_isDigit 17 = .ok (.ireturn, 1) := by decide +kernel
theorem dX9_valueIn_0 : decode cX9_valueIn 0 = .ok (.aload_n 0, 1) := by decide +kernel
theorem dX9_valueIn_1 : decode cX9_valueIn 1 = .ok (.invokevirtual 86, 3) := by decide +kernel
theorem dX9_valueIn_4 : decode cX9_valueIn 4 = .ok (.ifCond .eq 37, 3) := by decide +kernel
theorem dX9_valueIn_7 : decode cX9_valueIn 7 = .ok (.aload_n 1, 1) := by decide +kernel
theorem dX9_valueIn_8 : decode cX9_valueIn 8 = .ok (.iload_n 2, 1) := by decide +kernel
theorem dX9_valueIn_9 : decode cX9_valueIn 9 = .ok (.iload_n 3, 1) := by decide +kernel
theorem dX9_valueIn_10 : decode cX9_valueIn 10 = .ok (.aload_n 0, 1) := by decide +kernel
theorem dX9_valueIn_11 : decode cX9_valueIn 11 = .ok (.getfield 74, 3) := by decide +kernel
theorem dX9_valueIn_14 : decode cX9_valueIn 14 = .ok (.invokevirtual 89, 3) := by decide +kernel
theorem dX9_valueIn_17 : decode cX9_valueIn 17 = .ok (.ifCond .eq 5, 3) := by decide +kernel
theorem dX9_valueIn_20 : decode cX9_valueIn 20 = .ok (.iconst 0, 1) := by decide +kernel
theorem dX9_valueIn_21 : decode cX9_valueIn 21 = .ok (.ireturn, 1) := by decide +kernel
theorem dX9_valueIn_22 : decode cX9_valueIn 22 = .ok (.aload_n 1, 1) := by decide +kernel
theorem dX9_valueIn_23 : decode cX9_valueIn 23 = .ok (.iload_n 2, 1) := by decide +kernel
theorem dX9_valueIn_24 : decode cX9_valueIn 24 = .ok (.iload_n 3, 1) := by decide +kernel
theorem dX9_valueIn_25 : decode cX9_valueIn 25 = .ok (.aload_n 0, 1) := by decide +kernel
theorem dX9_valueIn_26 : decode cX9_valueIn 26 = .ok (.getfield 77, 3) := by decide +kernel
theorem dX9_valueIn_29 : decode cX9_valueIn 29 = .ok (.invokevirtual 89, 3) := by decide +kernel
theorem dX9_valueIn_32 : decode cX9_valueIn 32 = .ok (.ifCond .eq 7, 3) := by decide +kernel
theorem dX9_valueIn_35 : decode cX9_valueIn 35 = .ok (.iconst 1, 1) := by decide +kernel
theorem dX9_valueIn_36 : decode cX9_valueIn 36 = .ok (.goto 4, 3) := by decide +kernel
theorem dX9_valueIn_39 : decode cX9_valueIn 39 = .ok (.iconst (-1), 1) := by decide +kernel
theorem dX9_valueIn_40 : decode cX9_valueIn 40 = .ok (.ireturn, 1) := by decide +kernel
theorem dX9_valueIn_41 : decode cX9_valueIn 41 = .ok (.iload_n 3, 1) := by decide +kernel
theorem dX9_valueIn_42 : decode cX9_valueIn 42 = .ok (.iload_n 2, 1) := by decide +kernel
theorem dX9_valueIn_43 : decode cX9_valueIn 43 = .ok (.if_icmp .le 19, 3) := by decide +kernel
theorem dX9_valueIn_46 : decode cX9_valueIn 46 = .ok (.iload_n 3, 1) := by decide +kernel
theorem dX9_valueIn_47 : decode cX9_valueIn 47 = .ok (.iload_n 2, 1) := by decide +kernel
theorem dX9_valueIn_48 : decode cX9_valueIn 48 = .ok (.isub, 1) := by decide +kernel
theorem dX9_valueIn_49 : decode cX9_valueIn 49 = .ok (.iconst 3, 1) := by decide +kernel
theorem dX9_valueIn_50 : decode cX9_valueIn 50 = .ok (.if_icmp .gt 12, 3) := by decide +kernel
theorem dX9_valueIn_53 : decode cX9_valueIn 53 = .ok (.aload_n 1, 1) := by decide +kernel
theorem dX9_valueIn_54 : decode cX9_valueIn 54 = .ok (.iload_n 2, 1) := by decide +kernel
theorem dX9_valueIn_55 : decode cX9_valueIn 55 = .ok (.invokevirtual 95, 3) := by decide +kernel
theorem dX9_valueIn_58 : decode cX9_valueIn 58 = .ok (.iload_n 3, 1) := by decide +kernel
theorem dX9_valueIn_59 : decode cX9_valueIn 59 = .ok (.if_icmp .ge 5, 3) := by decide +kernel
theorem dX9_valueIn_62 : decode cX9_valueIn 62 = .ok (.iconst (-1), 1) := by decide +kernel
theorem dX9_valueIn_63 : decode cX9_valueIn 63 = .ok (.ireturn, 1) := by decide +kernel
theorem dX9_valueIn_64 : decode cX9_valueIn 64 = .ok (.aload_n 1, 1) := by decide +kernel
theorem dX9_valueIn_65 : decode cX9_valueIn 65 = .ok (.iload_n 2, 1) := by decide +kernel
theorem dX9_valueIn_66 : decode cX9_valueIn 66 = .ok (.iload_n 3, 1) := by decide +kernel
theorem dX9_valueIn_67 : decode cX9_valueIn 67 = .ok (.invokevirtual 99, 3) := by decide +kernel
theorem dX9_valueIn_70 : decode cX9_valueIn 70 = .ok (.istore 4, 2) := by decide +kernel
theorem dX9_valueIn_72 : decode cX9_valueIn 72 = .ok (.iload 4, 2) := by decide +kernel
theorem dX9_valueIn_74 : decode cX9_valueIn 74 = .ok (.aload_n 0, 1) := by decide +kernel
theorem dX9_valueIn_75 : decode cX9_valueIn 75 = .ok (.getfield 63, 3) := by decide +kernel
theorem dX9_valueIn_78 : decode cX9_valueIn 78 = .ok (.if_icmp .lt 17, 3) := by decide +kernel
theorem dX9_valueIn_81 : decode cX9_valueIn 81 = .ok (.iload 4, 2) := by decide +kernel
theorem dX9_valueIn_83 : decode cX9_valueIn 83 = .ok (.aload_n 0, 1) := by decide +kernel
theorem dX9_valueIn_84 : decode cX9_valueIn 84 = .ok (.getfield 66, 3) := by decide +kernel
theorem dX9_valueIn_87 : decode cX9_valueIn 87 = .ok (.if_icmp .gt 8, 3) := by decide +kernel
theorem dX9_valueIn_90 : decode cX9_valueIn 90 = .ok (.iload 4, 2) := by decide +kernel
theorem dX9_valueIn_92 : decode cX9_valueIn 92 = .ok (.goto 4, 3) := by decide +kernel
theorem dX9_valueIn_95 : decode cX9_valueIn 95 = .ok (.iconst (-1), 1) := by decide +kernel
theorem dX9_valueIn_96 : decode cX9_valueIn 96 = .ok (.ireturn, 1) := by decide +kernel
theorem dX9_hasWords_0 : decode cX9_hasWords 0 = .ok (.aload_n 0, 1) := by decide +kernel
theorem dX9_hasWords_1 : decode cX9_hasWords 1 = .ok (.getfield 74, 3) := by decide +kernel
theorem dX9_hasWords_4 : decode cX9_hasWords 4 = .ok (.invokevirtual 80, 3) := by decide +kernel
theorem dX9_hasWords_7 : decode cX9_hasWords 7 = .ok (.ifCond .ne 7, 3) := by decide +kernel
theorem dX9_hasWords_10 : decode cX9_hasWords 10 = .ok (.iconst 1, 1) := by decide +kernel
theorem dX9_hasWords_11 : decode cX9_hasWords 11 = .ok (.goto 4, 3) := by decide +kernel
theorem dX9_hasWords_14 : decode cX9_hasWords 14 = .ok (.iconst 0, 1) := by decide +kernel
theorem dX9_hasWords_15 : decode cX9_hasWords 15 = .ok (.ireturn, 1) := by decide +kernel
theorem dX11_endOfDigits_0 : decode cX11_endOfDigits 0 = .ok (.iload_n 1, 1) := by decide +kernel
theorem dX11_endOfDigits_1 : decode cX11_endOfDigits 1 = .ok (.istore_n 2, 1) := by decide +kernel
theorem dX11_endOfDigits_2 : decode cX11_endOfDigits 2 = .ok (.iload_n 2, 1) := by decide +kernel
theorem dX11_endOfDigits_3 : decode cX11_endOfDigits 3 = .ok (.aload_n 0, 1) := by decide +kernel
theorem dX11_endOfDigits_4 : decode cX11_endOfDigits 4 = .ok (.getfield 15, 3) := by decide +kernel
theorem dX11_endOfDigits_7 : decode cX11_endOfDigits 7 = .ok (.if_icmp .ge 20, 3) := by decide +kernel
theorem dX11_endOfDigits_10 : decode cX11_endOfDigits 10 = .ok (.aload_n 0, 1) := by decide +kernel
theorem dX11_endOfDigits_11 : decode cX11_endOfDigits 11 = .ok (.iload_n 2, 1) := by decide +kernel
theorem dX11_endOfDigits_12 : decode cX11_endOfDigits 12 = .ok (.invokevirtual 23, 3) := by decide +kernel
theorem dX11_endOfDigits_15 : decode cX11_endOfDigits 15 = .ok (.invokestatic 27, 3) := by decide +kernel
theorem dX11_endOfDigits_18 : decode cX11_endOfDigits 18 = .ok (.ifCond .eq 9, 3) := by decide +kernel
theorem dX11_endOfDigits_21 : decode cX11_endOfDigits 21 = .ok (.iinc 2 1, 3) := by decide +kernel
theorem dX11_endOfDigits_24 : decode cX11_endOfDigits 24 = .ok (.goto (-22), 3) := by decide +kernel
theorem dX11_endOfDigits_27 : decode cX11_endOfDigits 27 = .ok (.iload_n 2, 1) := by decide +kernel
theorem dX11_endOfDigits_28 : decode cX11_endOfDigits 28 = .ok (.ireturn, 1) := by decide +kernel
theorem dX11_numberOf_0 : decode cX11_numberOf 0 = .ok (.iconst 0, 1) := by decide +kernel
theorem dX11_numberOf_1 : decode cX11_numberOf 1 = .ok (.istore_n 3, 1) := by decide +kernel
theorem dX11_numberOf_2 : decode cX11_numberOf 2 = .ok (.iload_n 1, 1) := by decide +kernel
theorem dX11_numberOf_3 : decode cX11_numberOf 3 = .ok (.istore 4, 2) := by decide +kernel
theorem dX11_numberOf_5 : decode cX11_numberOf 5 = .ok (.iload 4, 2) := by decide +kernel
theorem dX11_numberOf_7 : decode cX11_numberOf 7 = .ok (.iload_n 2, 1) := by decide +kernel
theorem dX11_numberOf_8 : decode cX11_numberOf 8 = .ok (.if_icmp .ge 24, 3) := by decide +kernel
theorem dX11_numberOf_11 : decode cX11_numberOf 11 = .ok (.iload_n 3, 1) := by decide +kernel
theorem dX11_numberOf_12 : decode cX11_numberOf 12 = .ok (.bipush 10, 2) := by decide +kernel
theorem dX11_numberOf_14 : decode cX11_numberOf 14 = .ok (.imul, 1) := by decide +kernel
theorem dX11_numberOf_15 : decode cX11_numberOf 15 = .ok (.aload_n 0, 1) := by decide +kernel
theorem dX11_numberOf_16 : decode cX11_numberOf 16 = .ok (.iload 4, 2) := by decide +kernel
theorem dX11_numberOf_18 : decode cX11_numberOf 18 = .ok (.invokevirtual 23, 3) := by decide +kernel
theorem dX11_numberOf_21 : decode cX11_numberOf 21 = .ok (.iadd, 1) := by decide +kernel
theorem dX11_numberOf_22 : decode cX11_numberOf 22 = .ok (.bipush 48, 2) := by decide +kernel
theorem dX11_numberOf_24 : decode cX11_numberOf 24 = .ok (.isub, 1) := by decide +kernel
theorem dX11_numberOf_25 : decode cX11_numberOf 25 = .ok (.istore_n 3, 1) := by decide +kernel
theorem dX11_numberOf_26 : decode cX11_numberOf 26 = .ok (.iinc 4 1, 3) := by decide +kernel
theorem dX11_numberOf_29 : decode cX11_numberOf 29 = .ok (.goto (-24), 3) := by decide +kernel
theorem dX11_numberOf_32 : decode cX11_numberOf 32 = .ok (.iload_n 3, 1) := by decide +kernel
theorem dX11_numberOf_33 : decode cX11_numberOf 33 = .ok (.ireturn, 1) := by decide +kernel
theorem dX2_note_0 : decode cX2_note 0 = .ok (.iload_n 1, 1) := by decide +kernel
theorem dX2_note_1 : decode cX2_note 1 = .ok (.ifCond .lt 12, 3) := by decide +kernel
theorem dX2_note_4 : decode cX2_note 4 = .ok (.iload_n 1, 1) := by decide +kernel
theorem dX2_note_5 : decode cX2_note 5 = .ok (.aload_n 0, 1) := by decide +kernel
theorem dX2_note_6 : decode cX2_note 6 = .ok (.getfield 22, 3) := by decide +kernel
theorem dX2_note_9 : decode cX2_note 9 = .ok (.arraylength, 1) := by decide +kernel
theorem dX2_note_10 : decode cX2_note 10 = .ok (.if_icmp .lt 4, 3) := by decide +kernel
theorem dX2_note_13 : decode cX2_note 13 = .ok (.return_, 1) := by decide +kernel
theorem dX2_note_14 : decode cX2_note 14 = .ok (.aload_n 0, 1) := by decide +kernel
theorem dX2_note_15 : decode cX2_note 15 = .ok (.getfield 22, 3) := by decide +kernel
theorem dX2_note_18 : decode cX2_note 18 = .ok (.iload_n 1, 1) := by decide +kernel
theorem dX2_note_19 : decode cX2_note 19 = .ok (.iload_n 2, 1) := by decide +kernel
theorem dX2_note_20 : decode cX2_note 20 = .ok (.iastore, 1) := by decide +kernel
theorem dX2_note_21 : decode cX2_note 21 = .ok (.iconst 0, 1) := by decide +kernel
theorem dX2_note_22 : decode cX2_note 22 = .ok (.istore_n 3, 1) := by decide +kernel
theorem dX2_note_23 : decode cX2_note 23 = .ok (.iload_n 3, 1) := by decide +kernel
theorem dX2_note_24 : decode cX2_note 24 = .ok (.aload_n 0, 1) := by decide +kernel
theorem dX2_note_25 : decode cX2_note 25 = .ok (.getfield 46, 3) := by decide +kernel
theorem dX2_note_28 : decode cX2_note 28 = .ok (.if_icmp .ge 20, 3) := by decide +kernel
theorem dX2_note_31 : decode cX2_note 31 = .ok (.aload_n 0, 1) := by decide +kernel
theorem dX2_note_32 : decode cX2_note 32 = .ok (.getfield 25, 3) := by decide +kernel
theorem dX2_note_35 : decode cX2_note 35 = .ok (.iload_n 3, 1) := by decide +kernel
theorem dX2_note_36 : decode cX2_note 36 = .ok (.iaload, 1) := by decide +kernel
theorem dX2_note_37 : decode cX2_note 37 = .ok (.iload_n 1, 1) := by decide +kernel
theorem dX2_note_38 : decode cX2_note 38 = .ok (.if_icmp .ne 4, 3) := by decide +kernel
theorem dX2_note_41 : decode cX2_note 41 = .ok (.return_, 1) := by decide +kernel
theorem dX2_note_42 : decode cX2_note 42 = .ok (.iinc 3 1, 3) := by decide +kernel
theorem dX2_note_45 : decode cX2_note 45 = .ok (.goto (-22), 3) := by decide +kernel
theorem dX2_note_48 : decode cX2_note 48 = .ok (.aload_n 0, 1) := by decide +kernel
theorem dX2_note_49 : decode cX2_note 49 = .ok (.getfield 46, 3) := by decide +kernel
theorem dX2_note_52 : decode cX2_note 52 = .ok (.aload_n 0, 1) := by decide +kernel
theorem dX2_note_53 : decode cX2_note 53 = .ok (.getfield 25, 3) := by decide +kernel
theorem dX2_note_56 : decode cX2_note 56 = .ok (.arraylength, 1) := by decide +kernel
theorem dX2_note_57 : decode cX2_note 57 = .ok (.if_icmp .ge 23, 3) := by decide +kernel
theorem dX2_note_60 : decode cX2_note 60 = .ok (.aload_n 0, 1) := by decide +kernel
theorem dX2_note_61 : decode cX2_note 61 = .ok (.getfield 25, 3) := by decide +kernel
theorem dX2_note_64 : decode cX2_note 64 = .ok (.aload_n 0, 1) := by decide +kernel
theorem dX2_note_65 : decode cX2_note 65 = .ok (.getfield 46, 3) := by decide +kernel
theorem dX2_note_68 : decode cX2_note 68 = .ok (.iload_n 1, 1) := by decide +kernel
theorem dX2_note_69 : decode cX2_note 69 = .ok (.iastore, 1) := by decide +kernel
theorem dX2_note_70 : decode cX2_note 70 = .ok (.aload_n 0, 1) := by decide +kernel
theorem dX2_note_71 : decode cX2_note 71 = .ok (.dup, 1) := by decide +kernel
theorem dX2_note_72 : decode cX2_note 72 = .ok (.getfield 46, 3) := by decide +kernel
theorem dX2_note_75 : decode cX2_note 75 = .ok (.iconst 1, 1) := by decide +kernel
theorem dX2_note_76 : decode cX2_note 76 = .ok (.iadd, 1) := by decide +kernel
theorem dX2_note_77 : decode cX2_note 77 = .ok (.putfield 46, 3) := by decide +kernel
theorem dX2_note_80 : decode cX2_note 80 = .ok (.return_, 1) := by decide +kernel
theorem dX2_applyRead_0 : decode cX2_applyRead 0 = .ok (.aload_n 0, 1) := by decide +kernel
theorem dX2_applyRead_1 : decode cX2_applyRead 1 = .ok (.getfield 22, 3) := by decide +kernel
theorem dX2_applyRead_4 : decode cX2_applyRead 4 = .ok (.iconst 0, 1) := by decide +kernel
theorem dX2_applyRead_5 : decode cX2_applyRead 5 = .ok (.aload_n 0, 1) := by decide +kernel
theorem dX2_applyRead_6 : decode cX2_applyRead 6 = .ok (.getfield 13, 3) := by decide +kernel
theorem dX2_applyRead_9 : decode cX2_applyRead 9 = .ok (.iconst 0, 1) := by decide +kernel
theorem dX2_applyRead_10 : decode cX2_applyRead 10 = .ok (.getstatic 9, 3) := by decide +kernel
theorem dX2_applyRead_13 : decode cX2_applyRead 13 = .ok (.arraylength, 1) := by decide +kernel
theorem dX2_applyRead_14 : decode cX2_applyRead 14 = .ok (.invokestatic 37, 3) := by decide +kernel
theorem dX2_applyRead_17 : decode cX2_applyRead 17 = .ok (.aload_n 0, 1) := by decide +kernel
theorem dX2_applyRead_18 : decode cX2_applyRead 18 = .ok (.getfield 25, 3) := by decide +kernel
theorem dX2_applyRead_21 : decode cX2_applyRead 21 = .ok (.iconst 0, 1) := by decide +kernel
theorem dX2_applyRead_22 : decode cX2_applyRead 22 = .ok (.aload_n 0, 1) := by decide +kernel
theorem dX2_applyRead_23 : decode cX2_applyRead 23 = .ok (.getfield 19, 3) := by decide +kernel
theorem dX2_applyRead_26 : decode cX2_applyRead 26 = .ok (.iconst 0, 1) := by decide +kernel
theorem dX2_applyRead_27 : decode cX2_applyRead 27 = .ok (.getstatic 9, 3) := by decide +kernel
theorem dX2_applyRead_30 : decode cX2_applyRead 30 = .ok (.arraylength, 1) := by decide +kernel
theorem dX2_applyRead_31 : decode cX2_applyRead 31 = .ok (.invokestatic 37, 3) := by decide +kernel
theorem dX2_applyRead_34 : decode cX2_applyRead 34 = .ok (.aload_n 0, 1) := by decide +kernel
theorem dX2_applyRead_35 : decode cX2_applyRead 35 = .ok (.aload_n 0, 1) := by decide +kernel
theorem dX2_applyRead_36 : decode cX2_applyRead 36 = .ok (.getfield 46, 3) := by decide +kernel
theorem dX2_applyRead_39 : decode cX2_applyRead 39 = .ok (.putfield 43, 3) := by decide +kernel
theorem dX2_applyRead_42 : decode cX2_applyRead 42 = .ok (.return_, 1) := by decide +kernel
theorem dX2_valueOf_0 : decode cX2_valueOf 0 = .ok (.aload_n 1, 1) := by decide +kernel
theorem dX2_valueOf_1 : decode cX2_valueOf 1 = .ok (.getfield 34, 3) := by decide +kernel
theorem dX2_valueOf_4 : decode cX2_valueOf 4 = .ok (.istore_n 2, 1) := by decide +kernel
theorem dX2_valueOf_5 : decode cX2_valueOf 5 = .ok (.iload_n 2, 1) := by decide +kernel
theorem dX2_valueOf_6 : decode cX2_valueOf 6 = .ok (.ifCond .lt 21, 3) := by decide +kernel
theorem dX2_valueOf_9 : decode cX2_valueOf 9 = .ok (.iload_n 2, 1) := by decide +kernel
theorem dX2_valueOf_10 : decode cX2_valueOf 10 = .ok (.aload_n 0, 1) := by decide +kernel
theorem dX2_valueOf_11 : decode cX2_valueOf 11 = .ok (.getfield 13, 3) := by decide +kernel
theorem dX2_valueOf_14 : decode cX2_valueOf 14 = .ok (.arraylength, 1) := by decide +kernel
theorem dX2_valueOf_15 : decode cX2_valueOf 15 = .ok (.if_icmp .ge 12, 3) := by decide +kernel
theorem dX2_valueOf_18 : decode cX2_valueOf 18 = .ok (.aload_n 0, 1) := by decide +kernel
theorem dX2_valueOf_19 : decode cX2_valueOf 19 = .ok (.getfield 13, 3) := by decide +kernel
theorem dX2_valueOf_22 : decode cX2_valueOf 22 = .ok (.iload_n 2, 1) := by decide +kernel
theorem dX2_valueOf_23 : decode cX2_valueOf 23 = .ok (.iaload, 1) := by decide +kernel
theorem dX2_valueOf_24 : decode cX2_valueOf 24 = .ok (.goto 4, 3) := by decide +kernel
theorem dX2_valueOf_27 : decode cX2_valueOf 27 = .ok (.iconst 0, 1) := by decide +kernel
theorem dX2_valueOf_28 : decode cX2_valueOf 28 = .ok (.ireturn, 1) := by decide +kernel
theorem dX0_strip_0 : decode cX0_strip 0 = .ok (.aload_n 0, 1) := by decide +kernel
theorem dX0_strip_1 : decode cX0_strip 1 = .ok (.aload_n 1, 1) := by decide +kernel
theorem dX0_strip_2 : decode cX0_strip 2 = .ok (.invokevirtual 25, 3) := by decide +kernel
theorem dX0_strip_5 : decode cX0_strip 5 = .ok (.iconst 0, 1) := by decide +kernel
theorem dX0_strip_6 : decode cX0_strip 6 = .ok (.istore_n 3, 1) := by decide +kernel
theorem dX0_strip_7 : decode cX0_strip 7 = .ok (.iconst 0, 1) := by decide +kernel
theorem dX0_strip_8 : decode cX0_strip 8 = .ok (.istore 4, 2) := by decide +kernel
theorem dX0_strip_10 : decode cX0_strip 10 = .ok (.iload 4, 2) := by decide +kernel
theorem dX0_strip_12 : decode cX0_strip 12 = .ok (.aload_n 0, 1) := by decide +kernel
theorem dX0_strip_13 : decode cX0_strip 13 = .ok (.getfield 15, 3) := by decide +kernel
theorem dX0_strip_16 : decode cX0_strip 16 = .ok (.if_icmp .ge 32, 3) := by decide +kernel
theorem dX0_strip_19 : decode cX0_strip 19 = .ok (.aload_n 0, 1) := by decide +kernel
theorem dX0_strip_20 : decode cX0_strip 20 = .ok (.invokevirtual 29, 3) := by decide +kernel
theorem dX0_strip_23 : decode cX0_strip 23 = .ok (.ifCond .eq 25, 3) := by decide +kernel
theorem dX0_strip_26 : decode cX0_strip 26 = .ok (.iinc 4 1, 3) := by decide +kernel
theorem dX0_strip_29 : decode cX0_strip 29 = .ok (.aload_n 0, 1) := by decide +kernel
theorem dX0_strip_30 : decode cX0_strip 30 = .ok (.invokevirtual 33, 3) := by decide +kernel
theorem dX0_strip_33 : decode cX0_strip 33 = .ok (.iload_n 2, 1) := by decide +kernel
theorem dX0_strip_34 : decode cX0_strip 34 = .ok (.if_icmp .ge (-24), 3) := by decide +kernel
theorem dX0_strip_37 : decode cX0_strip 37 = .ok (.aload_n 0, 1) := by decide +kernel
theorem dX0_strip_38 : decode cX0_strip 38 = .ok (.aload_n 1, 1) := by decide +kernel
theorem dX0_strip_39 : decode cX0_strip 39 = .ok (.invokevirtual 37, 3) := by decide +kernel
theorem dX0_strip_42 : decode cX0_strip 42 = .ok (.iinc 3 1, 3) := by decide +kernel
theorem dX0_strip_45 : decode cX0_strip 45 = .ok (.goto (-35), 3) := by decide +kernel
theorem dX0_strip_48 : decode cX0_strip 48 = .ok (.iload_n 3, 1) := by decide +kernel
theorem dX0_strip_49 : decode cX0_strip 49 = .ok (.ireturn, 1) := by decide +kernel
theorem dX0_begin_0 : decode cX0_begin 0 = .ok (.aload_n 0, 1) := by decide +kernel
theorem dX0_begin_1 : decode cX0_begin 1 = .ok (.iconst 0, 1) := by decide +kernel
theorem dX0_begin_2 : decode cX0_begin 2 = .ok (.putfield 40, 3) := by decide +kernel
theorem dX0_begin_5 : decode cX0_begin 5 = .ok (.aload_n 0, 1) := by decide +kernel
theorem dX0_begin_6 : decode cX0_begin 6 = .ok (.iconst (-1), 1) := by decide +kernel
theorem dX0_begin_7 : decode cX0_begin 7 = .ok (.putfield 43, 3) := by decide +kernel
theorem dX0_begin_10 : decode cX0_begin 10 = .ok (.iconst 0, 1) := by decide +kernel
theorem dX0_begin_11 : decode cX0_begin 11 = .ok (.istore_n 2, 1) := by decide +kernel
theorem dX0_begin_12 : decode cX0_begin 12 = .ok (.iload_n 2, 1) := by decide +kernel
theorem dX0_begin_13 : decode cX0_begin 13 = .ok (.aload_n 0, 1) := by decide +kernel
theorem dX0_begin_14 : decode cX0_begin 14 = .ok (.getfield 9, 3) := by decide +kernel
theorem dX0_begin_17 : decode cX0_begin 17 = .ok (.if_icmp .ge 27, 3) := by decide +kernel
theorem dX0_begin_20 : decode cX0_begin 20 = .ok (.aload_n 0, 1) := by decide +kernel
theorem dX0_begin_21 : decode cX0_begin 21 = .ok (.getfield 18, 3) := by decide +kernel
theorem dX0_begin_24 : decode cX0_begin 24 = .ok (.iload_n 2, 1) := by decide +kernel
theorem dX0_begin_25 : decode cX0_begin 25 = .ok (.aload_n 1, 1) := by decide +kernel
theorem dX0_begin_26 : decode cX0_begin 26 = .ok (.iload_n 2, 1) := by decide +kernel
theorem dX0_begin_27 : decode cX0_begin 27 = .ok (.invokevirtual 46, 3) := by decide +kernel
theorem dX0_begin_30 : decode cX0_begin 30 = .ok (.lastore, 1) := by decide +kernel
theorem dX0_begin_31 : decode cX0_begin 31 = .ok (.aload_n 0, 1) := by decide +kernel
theorem dX0_begin_32 : decode cX0_begin 32 = .ok (.getfield 22, 3) := by decide +kernel
theorem dX0_begin_35 : decode cX0_begin 35 = .ok (.iload_n 2, 1) := by decide +kernel
theorem dX0_begin_36 : decode cX0_begin 36 = .ok (.lconst 0, 1) := by decide +kernel
theorem dX0_begin_37 : decode cX0_begin 37 = .ok (.lastore, 1) := by decide +kernel
theorem dX0_begin_38 : decode cX0_begin 38 = .ok (.iinc 2 1, 3) := by decide +kernel
theorem dX0_begin_41 : decode cX0_begin 41 = .ok (.goto (-29), 3) := by decide +kernel
theorem dX0_begin_44 : decode cX0_begin 44 = .ok (.return_, 1) := by decide +kernel
theorem dX0_findNext_0 : decode cX0_findNext 0 = .ok (.aload_n 0, 1) := by decide +kernel
theorem dX0_findNext_1 : decode cX0_findNext 1 = .ok (.getfield 40, 3) := by decide +kernel
theorem dX0_findNext_4 : decode cX0_findNext 4 = .ok (.istore_n 1, 1) := by decide +kernel
theorem dX0_findNext_5 : decode cX0_findNext 5 = .ok (.iload_n 1, 1) := by decide +kernel
theorem dX0_findNext_6 : decode cX0_findNext 6 = .ok (.aload_n 0, 1) := by decide +kernel
theorem dX0_findNext_7 : decode cX0_findNext 7 = .ok (.getfield 43, 3) := by decide +kernel
theorem dX0_findNext_10 : decode cX0_findNext 10 = .ok (.if_icmp .gt 16, 3) := by decide +kernel
theorem dX0_findNext_13 : decode cX0_findNext 13 = .ok (.aload_n 0, 1) := by decide +kernel
theorem dX0_findNext_14 : decode cX0_findNext 14 = .ok (.getfield 22, 3) := by decide +kernel
theorem dX0_findNext_17 : decode cX0_findNext 17 = .ok (.iload_n 1, 1) := by decide +kernel
theorem dX0_findNext_18 : decode cX0_findNext 18 = .ok (.lconst 0, 1) := by decide +kernel
theorem dX0_findNext_19 : decode cX0_findNext 19 = .ok (.lastore, 1) := by decide +kernel
theorem dX0_findNext_20 : decode cX0_findNext 20 = .ok (.iinc 1 1, 3) := by decide +kernel
theorem dX0_findNext_23 : decode cX0_findNext 23 = .ok (.goto (-18), 3) := by decide +kernel
theorem dX0_findNext_26 : decode cX0_findNext 26 = .ok (.iconst 0, 1) := by decide +kernel
theorem dX0_findNext_27 : decode cX0_findNext 27 = .ok (.istore_n 1, 1) := by decide +kernel
theorem dX0_findNext_28 : decode cX0_findNext 28 = .ok (.iload_n 1, 1) := by decide +kernel
theorem dX0_findNext_29 : decode cX0_findNext 29 = .ok (.aload_n 0, 1) := by decide +kernel
theorem dX0_findNext_30 : decode cX0_findNext 30 = .ok (.getfield 9, 3) := by decide +kernel
theorem dX0_findNext_33 : decode cX0_findNext 33 = .ok (.if_icmp .ge 60, 3) := by decide +kernel
theorem dX0_findNext_36 : decode cX0_findNext 36 = .ok (.aload_n 0, 1) := by decide +kernel
theorem dX0_findNext_37 : decode cX0_findNext 37 = .ok (.getfield 18, 3) := by decide +kernel
theorem dX0_findNext_40 : decode cX0_findNext 40 = .ok (.iload_n 1, 1) := by decide +kernel
theorem dX0_findNext_41 : decode cX0_findNext 41 = .ok (.laload, 1) := by decide +kernel
theorem dX0_findNext_42 : decode cX0_findNext 42 = .ok (.lconst 0, 1) := by decide +kernel
theorem dX0_findNext_43 : decode cX0_findNext 43 = .ok (.lcmp, 1) := by decide +kernel
theorem dX0_findNext_44 : decode cX0_findNext 44 = .ok (.ifCond .eq 43, 3) := by decide +kernel
theorem dX0_findNext_47 : decode cX0_findNext 47 = .ok (.aload_n 0, 1) := by decide +kernel
theorem dX0_findNext_48 : decode cX0_findNext 48 = .ok (.iload_n 1, 1) := by decide +kernel
theorem dX0_findNext_49 : decode cX0_findNext 49 = .ok (.putfield 40, 3) := by decide +kernel
theorem dX0_findNext_52 : decode cX0_findNext 52 = .ok (.aload_n 0, 1) := by decide +kernel
theorem dX0_findNext_53 : decode cX0_findNext 53 = .ok (.iload_n 1, 1) := by decide +kernel
theorem dX0_findNext_54 : decode cX0_findNext 54 = .ok (.putfield 43, 3) := by decide +kernel
theorem dX0_findNext_57 : decode cX0_findNext 57 = .ok (.aload_n 0, 1) := by decide +kernel
theorem dX0_findNext_58 : decode cX0_findNext 58 = .ok (.getfield 22, 3) := by decide +kernel
theorem dX0_findNext_61 : decode cX0_findNext 61 = .ok (.iload_n 1, 1) := by decide +kernel
theorem dX0_findNext_62 : decode cX0_findNext 62 = .ok (.aload_n 0, 1) := by decide +kernel
theorem dX0_findNext_63 : decode cX0_findNext 63 = .ok (.getfield 18, 3) := by decide +kernel
theorem dX0_findNext_66 : decode cX0_findNext 66 = .ok (.iload_n 1, 1) := by decide +kernel
theorem dX0_findNext_67 : decode cX0_findNext 67 = .ok (.laload, 1) := by decide +kernel
theorem dX0_findNext_68 : decode cX0_findNext 68 = .ok (.aload_n 0, 1) := by decide +kernel
theorem dX0_findNext_69 : decode cX0_findNext 69 = .ok (.getfield 18, 3) := by decide +kernel
theorem dX0_findNext_72 : decode cX0_findNext 72 = .ok (.iload_n 1, 1) := by decide +kernel
theorem dX0_findNext_73 : decode cX0_findNext 73 = .ok (.laload, 1) := by decide +kernel
theorem dX0_findNext_74 : decode cX0_findNext 74 = .ok (.lneg, 1) := by decide +kernel
theorem dX0_findNext_75 : decode cX0_findNext 75 = .ok (.land, 1) := by decide +kernel
theorem dX0_findNext_76 : decode cX0_findNext 76 = .ok (.lastore, 1) := by decide +kernel
theorem dX0_findNext_77 : decode cX0_findNext 77 = .ok (.aload_n 0, 1) := by decide +kernel
theorem dX0_findNext_78 : decode cX0_findNext 78 = .ok (.invokevirtual 52, 3) := by decide +kernel
theorem dX0_findNext_81 : decode cX0_findNext 81 = .ok (.aload_n 0, 1) := by decide +kernel
theorem dX0_findNext_82 : decode cX0_findNext 82 = .ok (.invokevirtual 55, 3) := by decide +kernel
theorem dX0_findNext_85 : decode cX0_findNext 85 = .ok (.iconst 1, 1) := by decide +kernel
theorem dX0_findNext_86 : decode cX0_findNext 86 = .ok (.ireturn, 1) := by decide +kernel
theorem dX0_findNext_87 : decode cX0_findNext 87 = .ok (.iinc 1 1, 3) := by decide +kernel
theorem dX0_findNext_90 : decode cX0_findNext 90 = .ok (.goto (-62), 3) := by decide +kernel
theorem dX0_findNext_93 : decode cX0_findNext 93 = .ok (.aload_n 0, 1) := by decide +kernel
theorem dX0_findNext_94 : decode cX0_findNext 94 = .ok (.iconst (-1), 1) := by decide +kernel
theorem dX0_findNext_95 : decode cX0_findNext 95 = .ok (.putfield 43, 3) := by decide +kernel
theorem dX0_findNext_98 : decode cX0_findNext 98 = .ok (.iconst 0, 1) := by decide +kernel
theorem dX0_findNext_99 : decode cX0_findNext 99 = .ok (.ireturn, 1) := by decide +kernel
theorem dX0_grow_0 : decode cX0_grow 0 = .ok (.iconst 1, 1) := by decide +kernel
theorem dX0_grow_1 : decode cX0_grow 1 = .ok (.istore_n 1, 1) := by decide +kernel
theorem dX0_grow_2 : decode cX0_grow 2 = .ok (.iconst 0, 1) := by decide +kernel
theorem dX0_grow_3 : decode cX0_grow 3 = .ok (.istore_n 2, 1) := by decide +kernel
theorem dX0_grow_4 : decode cX0_grow 4 = .ok (.iload_n 1, 1) := by decide +kernel
theorem dX0_grow_5 : decode cX0_grow 5 = .ok (.ifCond .eq 103, 3) := by decide +kernel
theorem dX0_grow_8 : decode cX0_grow 8 = .ok (.iload_n 2, 1) := by decide +kernel
theorem dX0_grow_9 : decode cX0_grow 9 = .ok (.aload_n 0, 1) := by decide +kernel
theorem dX0_grow_10 : decode cX0_grow 10 = .ok (.getfield 15, 3) := by decide +kernel
theorem dX0_grow_13 : decode cX0_grow 13 = .ok (.if_icmp .gt 95, 3) := by decide +kernel
theorem dX0_grow_16 : decode cX0_grow 16 = .ok (.iconst 0, 1) := by decide +kernel
theorem dX0_grow_17 : decode cX0_grow 17 = .ok (.istore_n 1, 1) := by decide +kernel
theorem dX0_grow_18 : decode cX0_grow 18 = .ok (.aload_n 0, 1) := by decide +kernel
theorem dX0_grow_19 : decode cX0_grow 19 = .ok (.getfield 40, 3) := by decide +kernel
theorem dX0_grow_22 : decode cX0_grow 22 = .ok (.istore_n 3, 1) := by decide +kernel
theorem dX0_grow_23 : decode cX0_grow 23 = .ok (.iload_n 3, 1) := by decide +kernel
theorem dX0_grow_24 : decode cX0_grow 24 = .ok (.aload_n 0, 1) := by decide +kernel
theorem dX0_grow_25 : decode cX0_grow 25 = .ok (.getfield 9, 3) := by decide +kernel
theorem dX0_grow_28 : decode cX0_grow 28 = .ok (.if_icmp .ge 37, 3) := by decide +kernel
theorem dX0_grow_31 : decode cX0_grow 31 = .ok (.iload_n 3, 1) := by decide +kernel
theorem dX0_grow_32 : decode cX0_grow 32 = .ok (.aload_n 0, 1) := by decide +kernel
theorem dX0_grow_33 : decode cX0_grow 33 = .ok (.getfield 43, 3) := by decide +kernel
theorem dX0_grow_36 : decode cX0_grow 36 = .ok (.iconst 1, 1) := by decide +kernel
theorem dX0_grow_37 : decode cX0_grow 37 = .ok (.iadd, 1) := by decide +kernel
theorem dX0_grow_38 : decode cX0_grow 38 = .ok (.if_icmp .gt 27, 3) := by decide +kernel
theorem dX0_grow_41 : decode cX0_grow 41 = .ok (.aload_n 0, 1) := by decide +kernel
theorem dX0_grow_42 : decode cX0_grow 42 = .ok (.iload_n 3, 1) := by decide +kernel
theorem dX0_grow_43 : decode cX0_grow 43 = .ok (.invokevirtual 58, 3) := by decide +kernel
theorem dX0_grow_46 : decode cX0_grow 46 = .ok (.ifCond .ne 7, 3) := by decide +kernel
theorem dX0_grow_49 : decode cX0_grow 49 = .ok (.iload_n 1, 1) := by decide +kernel
theorem dX0_grow_50 : decode cX0_grow 50 = .ok (.ifCond .eq 7, 3) := by decide +kernel
theorem dX0_grow_53 : decode cX0_grow 53 = .ok (.iconst 1, 1) := by decide +kernel
theorem dX0_grow_54 : decode cX0_grow 54 = .ok (.goto 4, 3) := by decide +kernel
theorem dX0_grow_57 : decode cX0_grow 57 = .ok (.iconst 0, 1) := by decide +kernel
theorem dX0_grow_58 : decode cX0_grow 58 = .ok (.istore_n 1, 1) := by decide +kernel
theorem dX0_grow_59 : decode cX0_grow 59 = .ok (.iinc 3 1, 3) := by decide +kernel
theorem dX0_grow_62 : decode cX0_grow 62 = .ok (.goto (-39), 3) := by decide +kernel
theorem dX0_grow_65 : decode cX0_grow 65 = .ok (.aload_n 0, 1) := by decide +kernel
theorem dX0_grow_66 : decode cX0_grow 66 = .ok (.getfield 43, 3) := by decide +kernel
theorem dX0_grow_69 : decode cX0_grow 69 = .ok (.istore_n 3, 1) := by decide +kernel
theorem dX0_grow_70 : decode cX0_grow 70 = .ok (.iload_n 3, 1) := by decide +kernel
theorem dX0_grow_71 : decode cX0_grow 71 = .ok (.aload_n 0, 1) := by decide +kernel
theorem dX0_grow_72 : decode cX0_grow 72 = .ok (.getfield 40, 3) := by decide +kernel
theorem dX0_grow_75 : decode cX0_grow 75 = .ok (.if_icmp .lt 27, 3) := by decide +kernel
theorem dX0_grow_78 : decode cX0_grow 78 = .ok (.aload_n 0, 1) := by decide +kernel
theorem dX0_grow_79 : decode cX0_grow 79 = .ok (.iload_n 3, 1) := by decide +kernel
theorem dX0_grow_80 : decode cX0_grow 80 = .ok (.invokevirtual 58, 3) := by decide +kernel
theorem dX0_grow_83 : decode cX0_grow 83 = .ok (.ifCond .ne 7, 3) := by decide +kernel
theorem dX0_grow_86 : decode cX0_grow 86 = .ok (.iload_n 1, 1) := by decide +kernel
theorem dX0_grow_87 : decode cX0_grow 87 = .ok (.ifCond .eq 7, 3) := by decide +kernel
theorem dX0_grow_90 : decode cX0_grow 90 = .ok (.iconst 1, 1) := by decide +kernel
theorem dX0_grow_91 : decode cX0_grow 91 = .ok (.goto 4, 3) := by decide +kernel
theorem dX0_grow_94 : decode cX0_grow 94 = .ok (.iconst 0, 1) := by decide +kernel
theorem dX0_grow_95 : decode cX0_grow 95 = .ok (.istore_n 1, 1) := by decide +kernel
theorem dX0_grow_96 : decode cX0_grow 96 = .ok (.iinc 3 (-1), 3) := by decide +kernel
theorem dX0_grow_99 : decode cX0_grow 99 = .ok (.goto (-29), 3) := by decide +kernel
theorem dX0_grow_102 : decode cX0_grow 102 = .ok (.iinc 2 1, 3) := by decide +kernel
theorem dX0_grow_105 : decode cX0_grow 105 = .ok (.goto (-101), 3) := by decide +kernel
theorem dX0_grow_108 : decode cX0_grow 108 = .ok (.return_, 1) := by decide +kernel
theorem dX0_spread_0 : decode cX0_spread 0 = .ok (.iload_n 1, 1) := by decide +kernel
theorem dX0_spread_1 : decode cX0_spread 1 = .ok (.ifCond .lt 11, 3) := by decide +kernel
theorem dX0_spread_4 : decode cX0_spread 4 = .ok (.iload_n 1, 1) := by decide +kernel
theorem dX0_spread_5 : decode cX0_spread 5 = .ok (.aload_n 0, 1) := by decide +kernel
theorem dX0_spread_6 : decode cX0_spread 6 = .ok (.getfield 9, 3) := by decide +kernel
theorem dX0_spread_9 : decode cX0_spread 9 = .ok (.if_icmp .lt 5, 3) := by decide +kernel
theorem dX0_spread_12 : decode cX0_spread 12 = .ok (.iconst 0, 1) := by decide +kernel
theorem dX0_spread_13 : decode cX0_spread 13 = .ok (.ireturn, 1) := by decide +kernel
theorem dX0_spread_14 : decode cX0_spread 14 = .ok (.aload_n 0, 1) := by decide +kernel
theorem dX0_spread_15 : decode cX0_spread 15 = .ok (.iload_n 1, 1) := by decide +kernel
theorem dX0_spread_16 : decode cX0_spread 16 = .ok (.iconst 1, 1) := by decide +kernel
theorem dX0_spread_17 : decode cX0_spread 17 = .ok (.isub, 1) := by decide +kernel
theorem dX0_spread_18 : decode cX0_spread 18 = .ok (.invokevirtual 62, 3) := by decide +kernel
theorem dX0_spread_21 : decode cX0_spread 21 = .ok (.aload_n 0, 1) := by decide +kernel
theorem dX0_spread_22 : decode cX0_spread 22 = .ok (.getfield 22, 3) := by decide +kernel
theorem dX0_spread_25 : decode cX0_spread 25 = .ok (.iload_n 1, 1) := by decide +kernel
theorem dX0_spread_26 : decode cX0_spread 26 = .ok (.laload, 1) := by decide +kernel
theorem dX0_spread_27 : decode cX0_spread 27 = .ok (.lor, 1) := by decide +kernel
theorem dX0_spread_28 : decode cX0_spread 28 = .ok (.aload_n 0, 1) := by decide +kernel
theorem dX0_spread_29 : decode cX0_spread 29 = .ok (.iload_n 1, 1) := by decide +kernel
theorem dX0_spread_30 : decode cX0_spread 30 = .ok (.iconst 1, 1) := by decide +kernel
theorem dX0_spread_31 : decode cX0_spread 31 = .ok (.iadd, 1) := by decide +kernel
theorem dX0_spread_32 : decode cX0_spread 32 = .ok (.invokevirtual 62, 3) := by decide +kernel
theorem dX0_spread_35 : decode cX0_spread 35 = .ok (.lor, 1) := by decide +kernel
theorem dX0_spread_36 : decode cX0_spread 36 = .ok (.lstore_n 2, 1) := by decide +kernel
theorem dX0_spread_37 : decode cX0_spread 37 = .ok (.lload_n 2, 1) := by decide +kernel
theorem dX0_spread_38 : decode cX0_spread 38 = .ok (.aload_n 0, 1) := by decide +kernel
theorem dX0_spread_39 : decode cX0_spread 39 = .ok (.getfield 18, 3) := by decide +kernel
theorem dX0_spread_42 : decode cX0_spread 42 = .ok (.iload_n 1, 1) := by decide +kernel
theorem dX0_spread_43 : decode cX0_spread 43 = .ok (.laload, 1) := by decide +kernel
theorem dX0_spread_44 : decode cX0_spread 44 = .ok (.invokestatic 65, 3) := by decide +kernel
theorem dX0_spread_47 : decode cX0_spread 47 = .ok (.lstore 4, 2) := by decide +kernel
theorem dX0_spread_49 : decode cX0_spread 49 = .ok (.lload 4, 2) := by decide +kernel
theorem dX0_spread_51 : decode cX0_spread 51 = .ok (.aload_n 0, 1) := by decide +kernel
theorem dX0_spread_52 : decode cX0_spread 52 = .ok (.getfield 22, 3) := by decide +kernel
theorem dX0_spread_55 : decode cX0_spread 55 = .ok (.iload_n 1, 1) := by decide +kernel
theorem dX0_spread_56 : decode cX0_spread 56 = .ok (.laload, 1) := by decide +kernel
theorem dX0_spread_57 : decode cX0_spread 57 = .ok (.lcmp, 1) := by decide +kernel
theorem dX0_spread_58 : decode cX0_spread 58 = .ok (.ifCond .ne 5, 3) := by decide +kernel
theorem dX0_spread_61 : decode cX0_spread 61 = .ok (.iconst 0, 1) := by decide +kernel
theorem dX0_spread_62 : decode cX0_spread 62 = .ok (.ireturn, 1) := by decide +kernel
theorem dX0_spread_63 : decode cX0_spread 63 = .ok (.aload_n 0, 1) := by decide +kernel
theorem dX0_spread_64 : decode cX0_spread 64 = .ok (.getfield 22, 3) := by decide +kernel
theorem dX0_spread_67 : decode cX0_spread 67 = .ok (.iload_n 1, 1) := by decide +kernel
theorem dX0_spread_68 : decode cX0_spread 68 = .ok (.lload 4, 2) := by decide +kernel
theorem dX0_spread_70 : decode cX0_spread 70 = .ok (.lastore, 1) := by decide +kernel
theorem dX0_spread_71 : decode cX0_spread 71 = .ok (.aload_n 0, 1) := by decide +kernel
theorem dX0_spread_72 : decode cX0_spread 72 = .ok (.aload_n 0, 1) := by decide +kernel
theorem dX0_spread_73 : decode cX0_spread 73 = .ok (.getfield 43, 3) := by decide +kernel
theorem dX0_spread_76 : decode cX0_spread 76 = .ok (.iload_n 1, 1) := by decide +kernel
theorem dX0_spread_77 : decode cX0_spread 77 = .ok (.invokestatic 69, 3) := by decide +kernel
theorem dX0_spread_80 : decode cX0_spread 80 = .ok (.putfield 43, 3) := by decide +kernel
theorem dX0_spread_83 : decode cX0_spread 83 = .ok (.iconst 1, 1) := by decide +kernel
theorem dX0_spread_84 : decode cX0_spread 84 = .ok (.ireturn, 1) := by decide +kernel
theorem dX0_blobAt_0 : decode cX0_blobAt 0 = .ok (.iload_n 1, 1) := by decide +kernel
theorem dX0_blobAt_1 : decode cX0_blobAt 1 = .ok (.ifCond .lt 20, 3) := by decide +kernel
theorem dX0_blobAt_4 : decode cX0_blobAt 4 = .ok (.iload_n 1, 1) := by decide +kernel
theorem dX0_blobAt_5 : decode cX0_blobAt 5 = .ok (.aload_n 0, 1) := by decide +kernel
theorem dX0_blobAt_6 : decode cX0_blobAt 6 = .ok (.getfield 9, 3) := by decide +kernel
theorem dX0_blobAt_9 : decode cX0_blobAt 9 = .ok (.if_icmp .ge 12, 3) := by decide +kernel
theorem dX0_blobAt_12 : decode cX0_blobAt 12 = .ok (.aload_n 0, 1) := by decide +kernel
theorem dX0_blobAt_13 : decode cX0_blobAt 13 = .ok (.getfield 22, 3) := by decide +kernel
theorem dX0_blobAt_16 : decode cX0_blobAt 16 = .ok (.iload_n 1, 1) := by decide +kernel
theorem dX0_blobAt_17 : decode cX0_blobAt 17 = .ok (.laload, 1) := by decide +kernel
theorem dX0_blobAt_18 : decode cX0_blobAt 18 = .ok (.goto 4, 3) := by decide +kernel
theorem dX0_blobAt_21 : decode cX0_blobAt 21 = .ok (.lconst 0, 1) := by decide +kernel
theorem dX0_blobAt_22 : decode cX0_blobAt 22 = .ok (.lreturn, 1) := by decide +kernel
theorem dX0_widened_0 : decode cX0_widened 0 = .ok (.lload_n 0, 1) := by decide +kernel
theorem dX0_widened_1 : decode cX0_widened 1 = .ok (.lstore 4, 2) := by decide +kernel
theorem dX0_widened_3 : decode cX0_widened 3 = .ok (.iconst 0, 1) := by decide +kernel
theorem dX0_widened_4 : decode cX0_widened 4 = .ok (.istore 6, 2) := by decide +kernel
theorem dX0_widened_6 : decode cX0_widened 6 = .ok (.iload 6, 2) := by decide +kernel
theorem dX0_widened_8 : decode cX0_widened 8 = .ok (.bipush 64, 2) := by decide +kernel
theorem dX0_widened_10 : decode cX0_widened 10 = .ok (.if_icmp .gt 40, 3) := by decide +kernel
theorem dX0_widened_13 : decode cX0_widened 13 = .ok (.lload 4, 2) := by decide +kernel
theorem dX0_widened_15 : decode cX0_widened 15 = .ok (.lload 4, 2) := by decide +kernel
theorem dX0_widened_17 : decode cX0_widened 17 = .ok (.iconst 1, 1) := by decide +kernel
theorem dX0_widened_18 : decode cX0_widened 18 = .ok (.lshl, 1) := by decide +kernel
theorem dX0_widened_19 : decode cX0_widened 19 = .ok (.lor, 1) := by decide +kernel
theorem dX0_widened_20 : decode cX0_widened 20 = .ok (.lload 4, 2) := by decide +kernel
theorem dX0_widened_22 : decode cX0_widened 22 = .ok (.iconst 1, 1) := by decide +kernel
theorem dX0_widened_23 : decode cX0_widened 23 = .ok (.lushr, 1) := by decide +kernel
theorem dX0_widened_24 : decode cX0_widened 24 = .ok (.lor, 1) := by decide +kernel
theorem dX0_widened_25 : decode cX0_widened 25 = .ok (.lload_n 2, 1) := by decide +kernel
theorem dX0_widened_26 : decode cX0_widened 26 = .ok (.land, 1) := by decide +kernel
theorem dX0_widened_27 : decode cX0_widened 27 = .ok (.lstore 7, 2) := by decide +kernel
theorem dX0_widened_29 : decode cX0_widened 29 = .ok (.lload 7, 2) := by decide +kernel
theorem dX0_widened_31 : decode cX0_widened 31 = .ok (.lload 4, 2) := by decide +kernel
theorem dX0_widened_33 : decode cX0_widened 33 = .ok (.lcmp, 1) := by decide +kernel
theorem dX0_widened_34 : decode cX0_widened 34 = .ok (.ifCond .ne 6, 3) := by decide +kernel
theorem dX0_widened_37 : decode cX0_widened 37 = .ok (.goto 13, 3) := by decide +kernel
theorem dX0_widened_40 : decode cX0_widened 40 = .ok (.lload 7, 2) := by decide +kernel
theorem dX0_widened_42 : decode cX0_widened 42 = .ok (.lstore 4, 2) := by decide +kernel
theorem dX0_widened_44 : decode cX0_widened 44 = .ok (.iinc 6 1, 3) := by decide +kernel
theorem dX0_widened_47 : decode cX0_widened 47 = .ok (.goto (-41), 3) := by decide +kernel
theorem dX0_widened_50 : decode cX0_widened 50 = .ok (.lload 4, 2) := by decide +kernel
theorem dX0_widened_52 : decode cX0_widened 52 = .ok (.lreturn, 1) := by decide +kernel
theorem dX0_close_0 : decode cX0_close 0 = .ok (.aload_n 0, 1) := by decide +kernel
theorem dX0_close_1 : decode cX0_close 1 = .ok (.getfield 40, 3) := by decide +kernel
theorem dX0_close_4 : decode cX0_close 4 = .ok (.istore_n 1, 1) := by decide +kernel
theorem dX0_close_5 : decode cX0_close 5 = .ok (.iload_n 1, 1) := by decide +kernel
theorem dX0_close_6 : decode cX0_close 6 = .ok (.aload_n 0, 1) := by decide +kernel
theorem dX0_close_7 : decode cX0_close 7 = .ok (.getfield 43, 3) := by decide +kernel
theorem dX0_close_10 : decode cX0_close 10 = .ok (.if_icmp .gt 28, 3) := by decide +kernel
theorem dX0_close_13 : decode cX0_close 13 = .ok (.aload_n 0, 1) := by decide +kernel
theorem dX0_close_14 : decode cX0_close 14 = .ok (.getfield 18, 3) := by decide +kernel
theorem dX0_close_17 : decode cX0_close 17 = .ok (.iload_n 1, 1) := by decide +kernel
theorem dX0_close_18 : decode cX0_close 18 = .ok (.dup2, 1) := by decide +kernel
theorem dX0_close_19 : decode cX0_close 19 = .ok (.laload, 1) := by decide +kernel
theorem dX0_close_20 : decode cX0_close 20 = .ok (.aload_n 0, 1) := by decide +kernel
theorem dX0_close_21 : decode cX0_close 21 = .ok (.getfield 22, 3) := by decide +kernel
theorem dX0_close_24 : decode cX0_close 24 = .ok (.iload_n 1, 1) := by decide +kernel
theorem dX0_close_25 : decode cX0_close 25 = .ok (.laload, 1) := by decide +kernel
theorem dX0_close_26 : decode cX0_close 26 = .ok (.ldc2_w 75, 3) := by decide +kernel
theorem dX0_close_29 : decode cX0_close 29 = .ok (.lxor, 1) := by decide +kernel
theorem dX0_close_30 : decode cX0_close 30 = .ok (.land, 1) := by decide +kernel
theorem dX0_close_31 : decode cX0_close 31 = .ok (.lastore, 1) := by decide +kernel
theorem dX0_close_32 : decode cX0_close 32 = .ok (.iinc 1 1, 3) := by decide +kernel
theorem dX0_close_35 : decode cX0_close 35 = .ok (.goto (-30), 3) := by decide +kernel
theorem dX0_close_38 : decode cX0_close 38 = .ok (.return_, 1) := by decide +kernel
theorem dX0_pixels_0 : decode cX0_pixels 0 = .ok (.iconst 0, 1) := by decide +kernel
theorem dX0_pixels_1 : decode cX0_pixels 1 = .ok (.istore_n 1, 1) := by decide +kernel
theorem dX0_pixels_2 : decode cX0_pixels 2 = .ok (.aload_n 0, 1) := by decide +kernel
theorem dX0_pixels_3 : decode cX0_pixels 3 = .ok (.getfield 40, 3) := by decide +kernel
theorem dX0_pixels_6 : decode cX0_pixels 6 = .ok (.istore_n 2, 1) := by decide +kernel
theorem dX0_pixels_7 : decode cX0_pixels 7 = .ok (.iload_n 2, 1) := by decide +kernel
theorem dX0_pixels_8 : decode cX0_pixels 8 = .ok (.aload_n 0, 1) := by decide +kernel
theorem dX0_pixels_9 : decode cX0_pixels 9 = .ok (.getfield 43, 3) := by decide +kernel
theorem dX0_pixels_12 : decode cX0_pixels 12 = .ok (.if_icmp .gt 21, 3) := by decide +kernel
theorem dX0_pixels_15 : decode cX0_pixels 15 = .ok (.iload_n 1, 1) := by decide +kernel
theorem dX0_pixels_16 : decode cX0_pixels 16 = .ok (.aload_n 0, 1) := by decide +kernel
theorem dX0_pixels_17 : decode cX0_pixels 17 = .ok (.getfield 22, 3) := by decide +kernel
theorem dX0_pixels_20 : decode cX0_pixels 20 = .ok (.iload_n 2, 1) := by decide +kernel
theorem dX0_pixels_21 : decode cX0_pixels 21 = .ok (.laload, 1) := by decide +kernel
theorem dX0_pixels_22 : decode cX0_pixels 22 = .ok (.invokestatic 77, 3) := by decide +kernel
theorem dX0_pixels_25 : decode cX0_pixels 25 = .ok (.iadd, 1) := by decide +kernel
theorem dX0_pixels_26 : decode cX0_pixels 26 = .ok (.istore_n 1, 1) := by decide +kernel
theorem dX0_pixels_27 : decode cX0_pixels 27 = .ok (.iinc 2 1, 3) := by decide +kernel
theorem dX0_pixels_30 : decode cX0_pixels 30 = .ok (.goto (-23), 3) := by decide +kernel
theorem dX0_pixels_33 : decode cX0_pixels 33 = .ok (.iload_n 1, 1) := by decide +kernel
theorem dX0_pixels_34 : decode cX0_pixels 34 = .ok (.ireturn, 1) := by decide +kernel
theorem dX0_erase_0 : decode cX0_erase 0 = .ok (.aload_n 0, 1) := by decide +kernel
theorem dX0_erase_1 : decode cX0_erase 1 = .ok (.getfield 40, 3) := by decide +kernel
theorem dX0_erase_4 : decode cX0_erase 4 = .ok (.istore_n 2, 1) := by decide +kernel
theorem dX0_erase_5 : decode cX0_erase 5 = .ok (.iload_n 2, 1) := by decide +kernel
theorem dX0_erase_6 : decode cX0_erase 6 = .ok (.aload_n 0, 1) := by decide +kernel
theorem dX0_erase_7 : decode cX0_erase 7 = .ok (.getfield 43, 3) := by decide +kernel
theorem dX0_erase_10 : decode cX0_erase 10 = .ok (.if_icmp .gt 30, 3) := by decide +kernel
theorem dX0_erase_13 : decode cX0_erase 13 = .ok (.aload_n 1, 1) := by decide +kernel
theorem dX0_erase_14 : decode cX0_erase 14 = .ok (.iload_n 2, 1) := by decide +kernel
theorem dX0_erase_15 : decode cX0_erase 15 = .ok (.aload_n 1, 1) := by decide +kernel
theorem dX0_erase_16 : decode cX0_erase 16 = .ok (.iload_n 2, 1) := by decide +kernel
theorem dX0_erase_17 : decode cX0_erase 17 = .ok (.invokevirtual 46, 3) := by decide +kernel
theorem dX0_erase_20 : decode cX0_erase 20 = .ok (.aload_n 0, 1) := by decide +kernel
theorem dX0_erase_21 : decode cX0_erase 21 = .ok (.getfield 22, 3) := by decide +kernel
theorem dX0_erase_24 : decode cX0_erase 24 = .ok (.iload_n 2, 1) := by decide +kernel
theorem dX0_erase_25 : decode cX0_erase 25 = .ok (.laload, 1) := by decide +kernel
theorem dX0_erase_26 : decode cX0_erase 26 = .ok (.ldc2_w 75, 3) := by decide +kernel
theorem dX0_erase_29 : decode cX0_erase 29 = .ok (.lxor, 1) := by decide +kernel
theorem dX0_erase_30 : decode cX0_erase 30 = .ok (.land, 1) := by decide +kernel
theorem dX0_erase_31 : decode cX0_erase 31 = .ok (.invokevirtual 83, 3) := by decide +kernel
theorem dX0_erase_34 : decode cX0_erase 34 = .ok (.iinc 2 1, 3) := by decide +kernel
theorem dX0_erase_37 : decode cX0_erase 37 = .ok (.goto (-32), 3) := by decide +kernel
theorem dX0_erase_40 : decode cX0_erase 40 = .ok (.return_, 1) := by decide +kernel
theorem dX11_patternError_0 : decode cX11_patternError 0 = .ok (.iconst 0, 1) := by decide +kernel
theorem dX11_patternError_1 : decode cX11_patternError 1 = .ok (.istore_n 1, 1) := by decide +kernel
theorem dX11_patternError_2 : decode cX11_patternError 2 = .ok (.iconst 0, 1) := by decide +kernel
theorem dX11_patternError_3 : decode cX11_patternError 3 = .ok (.istore_n 2, 1) := by decide +kernel
theorem dX11_patternError_4 : decode cX11_patternError 4 = .ok (.iload_n 2, 1) := by decide +kernel
theorem dX11_patternError_5 : decode cX11_patternError 5 = .ok (.aload_n 0, 1) := by decide +kernel
theorem dX11_patternError_6 : decode cX11_patternError 6 = .ok (.getfield 15, 3) := by decide +kernel
theorem dX11_patternError_9 : decode cX11_patternError 9 = .ok (.if_icmp .ge 106, 3) := by decide +kernel
theorem dX11_patternError_12 : decode cX11_patternError 12 = .ok (.iload_n 1, 1) := by decide +kernel
theorem dX11_patternError_13 : decode cX11_patternError 13 = .ok (.aload_n 0, 1) := by decide +kernel
theorem dX11_patternError_14 : decode cX11_patternError 14 = .ok (.getfield 15, 3) := by decide +kernel
theorem dX11_patternError_17 : decode cX11_patternError 17 = .ok (.if_icmp .ge 98, 3) := by decide +kernel
theorem dX11_patternError_20 : decode cX11_patternError 20 = .ok (.aload_n 0, 1) := by decide +kernel
theorem dX11_patternError_21 : decode cX11_patternError 21 = .ok (.iload_n 1, 1) := by decide +kernel
theorem dX11_patternError_22 : decode cX11_patternError 22 = .ok (.invokevirtual 43, 3) := by decide +kernel
theorem dX11_patternError_25 : decode cX11_patternError 25 = .ok (.istore_n 3, 1) := by decide +kernel
theorem dX11_patternError_26 : decode cX11_patternError 26 = .ok (.iload_n 3, 1) := by decide +kernel
theorem dX11_patternError_27 : decode cX11_patternError 27 = .ok (.iload_n 1, 1) := by decide +kernel
theorem dX11_patternError_28 : decode cX11_patternError 28 = .ok (.isub, 1) := by decide +kernel
theorem dX11_patternError_29 : decode cX11_patternError 29 = .ok (.istore 4, 2) := by decide +kernel
theorem dX11_patternError_31 : decode cX11_patternError 31 = .ok (.iload 4, 2) := by decide +kernel
theorem dX11_patternError_33 : decode cX11_patternError 33 = .ok (.iconst 2, 1) := by decide +kernel
theorem dX11_patternError_34 : decode cX11_patternError 34 = .ok (.if_icmp .le 7, 3) := by decide +kernel
theorem dX11_patternError_37 : decode cX11_patternError 37 = .ok (.iload_n 1, 1) := by decide +kernel
theorem dX11_patternError_38 : decode cX11_patternError 38 = .ok (.iconst 2, 1) := by decide +kernel
theorem dX11_patternError_39 : decode cX11_patternError 39 = .ok (.iadd, 1) := by decide +kernel
theorem dX11_patternError_40 : decode cX11_patternError 40 = .ok (.ireturn, 1) := by decide +kernel
theorem dX11_patternError_41 : decode cX11_patternError 41 = .ok (.iload 4, 2) := by decide +kernel
theorem dX11_patternError_43 : decode cX11_patternError 43 = .ok (.ifCond .le 17, 3) := by decide +kernel
theorem dX11_patternError_46 : decode cX11_patternError 46 = .ok (.aload_n 0, 1) := by decide +kernel
theorem dX11_patternError_47 : decode cX11_patternError 47 = .ok (.iload_n 1, 1) := by decide +kernel
theorem dX11_patternError_48 : decode cX11_patternError 48 = .ok (.iload_n 3, 1) := by decide +kernel
theorem dX11_patternError_49 : decode cX11_patternError 49 = .ok (.invokevirtual 46, 3) := by decide +kernel
theorem dX11_patternError_52 : decode cX11_patternError 52 = .ok (.invokestatic 50, 3) := by decide +kernel
theorem dX11_patternError_55 : decode cX11_patternError 55 = .ok (.ifCond .ne 5, 3) := by decide +kernel
theorem dX11_patternError_58 : decode cX11_patternError 58 = .ok (.iload_n 1, 1) := by decide +kernel
theorem dX11_patternError_59 : decode cX11_patternError 59 = .ok (.ireturn, 1) := by decide +kernel
theorem dX11_patternError_60 : decode cX11_patternError 60 = .ok (.aload_n 0, 1) := by decide +kernel
theorem dX11_patternError_61 : decode cX11_patternError 61 = .ok (.iload_n 3, 1) := by decide +kernel
theorem dX11_patternError_62 : decode cX11_patternError 62 = .ok (.invokevirtual 23, 3) := by decide +kernel
theorem dX11_patternError_65 : decode cX11_patternError 65 = .ok (.istore 5, 2) := by decide +kernel
theorem dX11_patternError_67 : decode cX11_patternError 67 = .ok (.iload 5, 2) := by decide +kernel
theorem dX11_patternError_69 : decode cX11_patternError 69 = .ok (.bipush 33, 2) := by decide +kernel
theorem dX11_patternError_71 : decode cX11_patternError 71 = .ok (.if_icmp .ne 11, 3) := by decide +kernel
theorem dX11_patternError_74 : decode cX11_patternError 74 = .ok (.aload_n 0, 1) := by decide +kernel
theorem dX11_patternError_75 : decode cX11_patternError 75 = .ok (.iload_n 3, 1) := by decide +kernel
theorem dX11_patternError_76 : decode cX11_patternError 76 = .ok (.iload 4, 2) := by decide +kernel
theorem dX11_patternError_78 : decode cX11_patternError 78 = .ok (.invokevirtual 53, 3) := by decide +kernel
theorem dX11_patternError_81 : decode cX11_patternError 81 = .ok (.ireturn, 1) := by decide +kernel
theorem dX11_patternError_82 : decode cX11_patternError 82 = .ok (.iload 5, 2) := by decide +kernel
theorem dX11_patternError_84 : decode cX11_patternError 84 = .ok (.bipush 111, 2) := by decide +kernel
theorem dX11_patternError_86 : decode cX11_patternError 86 = .ok (.if_icmp .eq 19, 3) := by decide +kernel
theorem dX11_patternError_89 : decode cX11_patternError 89 = .ok (.iload 5, 2) := by decide +kernel
theorem dX11_patternError_91 : decode cX11_patternError 91 = .ok (.bipush 98, 2) := by decide +kernel
theorem dX11_patternError_93 : decode cX11_patternError 93 = .ok (.if_icmp .eq 12, 3) := by decide +kernel
theorem dX11_patternError_96 : decode cX11_patternError 96 = .ok (.iload 5, 2) := by decide +kernel
theorem dX11_patternError_98 : decode cX11_patternError 98 = .ok (.bipush 36, 2) := by decide +kernel
theorem dX11_patternError_100 : decode cX11_patternError 100 = .ok (.if_icmp .eq 5, 3) := by decide +kernel
theorem dX11_patternError_103 : decode cX11_patternError 103 = .ok (.iload_n 3, 1) := by decide +kernel
theorem dX11_patternError_104 : decode cX11_patternError 104 = .ok (.ireturn, 1) := by decide +kernel
theorem dX11_patternError_105 : decode cX11_patternError 105 = .ok (.iload_n 3, 1) := by decide +kernel
theorem dX11_patternError_106 : decode cX11_patternError 106 = .ok (.iconst 1, 1) := by decide +kernel
theorem dX11_patternError_107 : decode cX11_patternError 107 = .ok (.iadd, 1) := by decide +kernel
theorem dX11_patternError_108 : decode cX11_patternError 108 = .ok (.istore_n 1, 1) := by decide +kernel
theorem dX11_patternError_109 : decode cX11_patternError 109 = .ok (.iinc 2 1, 3) := by decide +kernel
theorem dX11_patternError_112 : decode cX11_patternError 112 = .ok (.goto (-108), 3) := by decide +kernel
theorem dX11_patternError_115 : decode cX11_patternError 115 = .ok (.aload_n 0, 1) := by decide +kernel
theorem dX11_patternError_116 : decode cX11_patternError 116 = .ok (.getfield 15, 3) := by decide +kernel
theorem dX11_patternError_119 : decode cX11_patternError 119 = .ok (.ireturn, 1) := by decide +kernel
theorem dX11_isCount_0 : decode cX11_isCount 0 = .ok (.iload_n 0, 1) := by decide +kernel
theorem dX11_isCount_1 : decode cX11_isCount 1 = .ok (.iconst 1, 1) := by decide +kernel
theorem dX11_isCount_2 : decode cX11_isCount 2 = .ok (.if_icmp .lt 13, 3) := by decide +kernel
theorem dX11_isCount_5 : decode cX11_isCount 5 = .ok (.iload_n 0, 1) := by decide +kernel
theorem dX11_isCount_6 : decode cX11_isCount 6 = .ok (.bipush 64, 2) := by decide +kernel
theorem dX11_isCount_8 : decode cX11_isCount 8 = .ok (.if_icmp .gt 7, 3) := by decide +kernel
theorem dX11_isCount_11 : decode cX11_isCount 11 = .ok (.iconst 1, 1) := by decide +kernel
theorem dX11_isCount_12 : decode cX11_isCount 12 = .ok (.goto 4, 3) := by decide +kernel
theorem dX11_isCount_15 : decode cX11_isCount 15 = .ok (.iconst 0, 1) := by decide +kernel
theorem dX11_isCount_16 : decode cX11_isCount 16 = .ok (.ireturn, 1) := by decide +kernel
theorem dX11_errorAtMark_0 : decode cX11_errorAtMark 0 = .ok (.iload_n 2, 1) := by decide +kernel
theorem dX11_errorAtMark_1 : decode cX11_errorAtMark 1 = .ok (.ifCond .le 5, 3) := by decide +kernel
theorem dX11_errorAtMark_4 : decode cX11_errorAtMark 4 = .ok (.iload_n 1, 1) := by decide +kernel
theorem dX11_errorAtMark_5 : decode cX11_errorAtMark 5 = .ok (.ireturn, 1) := by decide +kernel
theorem dX11_errorAtMark_6 : decode cX11_errorAtMark 6 = .ok (.iload_n 1, 1) := by decide +kernel
theorem dX11_errorAtMark_7 : decode cX11_errorAtMark 7 = .ok (.iconst 1, 1) := by decide +kernel
theorem dX11_errorAtMark_8 : decode cX11_errorAtMark 8 = .ok (.iadd, 1) := by decide +kernel
theorem dX11_errorAtMark_9 : decode cX11_errorAtMark 9 = .ok (.aload_n 0, 1) := by decide +kernel
theorem dX11_errorAtMark_10 : decode cX11_errorAtMark 10 = .ok (.getfield 15, 3) := by decide +kernel
theorem dX11_errorAtMark_13 : decode cX11_errorAtMark 13 = .ok (.if_icmp .ge 9, 3) := by decide +kernel
theorem dX11_errorAtMark_16 : decode cX11_errorAtMark 16 = .ok (.iload_n 1, 1) := by decide +kernel
theorem dX11_errorAtMark_17 : decode cX11_errorAtMark 17 = .ok (.iconst 1, 1) := by decide +kernel
theorem dX11_errorAtMark_18 : decode cX11_errorAtMark 18 = .ok (.iadd, 1) := by decide +kernel
theorem dX11_errorAtMark_19 : decode cX11_errorAtMark 19 = .ok (.goto 4, 3) := by decide +kernel
theorem dX11_errorAtMark_22 : decode cX11_errorAtMark 22 = .ok (.iconst (-1), 1) := by decide +kernel
theorem dX11_errorAtMark_23 : decode cX11_errorAtMark 23 = .ok (.ireturn, 1) := by decide +kernel
theorem dX11_drawPattern_0 : decode cX11_drawPattern 0 = .ok (.iload_n 2, 1) := by decide +kernel
theorem dX11_drawPattern_1 : decode cX11_drawPattern 1 = .ok (.i2l, 1) := by decide +kernel
theorem dX11_drawPattern_2 : decode cX11_drawPattern 2 = .ok (.lstore 4, 2) := by decide +kernel
theorem dX11_drawPattern_4 : decode cX11_drawPattern 4 = .ok (.iload_n 3, 1) := by decide +kernel
theorem dX11_drawPattern_5 : decode cX11_drawPattern 5 = .ok (.i2l, 1) := by decide +kernel
theorem dX11_drawPattern_6 : decode cX11_drawPattern 6 = .ok (.lstore 6, 2) := by decide +kernel
theorem dX11_drawPattern_8 : decode cX11_drawPattern 8 = .ok (.iconst 0, 1) := by decide +kernel
theorem dX11_drawPattern_9 : decode cX11_drawPattern 9 = .ok (.istore 8, 2) := by decide +kernel
theorem dX11_drawPattern_11 : decode cX11_drawPattern 11 = .ok (.iconst 0, 1) := by decide +kernel
theorem dX11_drawPattern_12 : decode cX11_drawPattern 12 = .ok (.istore 9, 2) := by decide +kernel
theorem dX11_drawPattern_14 : decode cX11_drawPattern 14 = .ok (.iload 9, 2) := by decide +kernel
theorem dX11_drawPattern_16 : decode cX11_drawPattern 16 = .ok (.aload_n 0, 1) := by decide +kernel
theorem dX11_drawPattern_17 : decode cX11_drawPattern 17 = .ok (.getfield 15, 3) := by decide +kernel
theorem dX11_drawPattern_20 : decode cX11_drawPattern 20 = .ok (.if_icmp .ge 128, 3) := by decide +kernel
theorem dX11_drawPattern_23 : decode cX11_drawPattern 23 = .ok (.iload 8, 2) := by decide +kernel
theorem dX11_drawPattern_25 : decode cX11_drawPattern 25 = .ok (.aload_n 0, 1) := by decide +kernel
theorem dX11_drawPattern_26 : decode cX11_drawPattern 26 = .ok (.getfield 15, 3) := by decide +kernel
theorem dX11_drawPattern_29 : decode cX11_drawPattern 29 = .ok (.if_icmp .ge 119, 3) := by decide +kernel
theorem dX11_drawPattern_32 : decode cX11_drawPattern 32 = .ok (.aload_n 0, 1) := by decide +kernel
theorem dX11_drawPattern_33 : decode cX11_drawPattern 33 = .ok (.iload 8, 2) := by decide +kernel
theorem dX11_drawPattern_35 : decode cX11_drawPattern 35 = .ok (.invokevirtual 43, 3) := by decide +kernel
theorem dX11_drawPattern_38 : decode cX11_drawPattern 38 = .ok (.istore 10, 2) := by decide +kernel
theorem dX11_drawPattern_40 : decode cX11_drawPattern 40 = .ok (.iload 10, 2) := by decide +kernel
theorem dX11_drawPattern_42 : decode cX11_drawPattern 42 = .ok (.iload 8, 2) := by decide +kernel
theorem dX11_drawPattern_44 : decode cX11_drawPattern 44 = .ok (.if_icmp .le 14, 3) := by decide +kernel
theorem dX11_drawPattern_47 : decode cX11_drawPattern 47 = .ok (.aload_n 0, 1) := by decide +kernel
theorem dX11_drawPattern_48 : decode cX11_drawPattern 48 = .ok (.iload 8, 2) := by decide +kernel
theorem dX11_drawPattern_50 : decode cX11_drawPattern 50 = .ok (.iload 10, 2) := by decide +kernel
theorem dX11_drawPattern_52 : decode cX11_drawPattern 52 = .ok (.invokevirtual 46, 3) := by decide +kernel
theorem dX11_drawPattern_55 : decode cX11_drawPattern 55 = .ok (.goto 4, 3) := by decide +kernel
theorem dX11_drawPattern_58 : decode cX11_drawPattern 58 = .ok (.iconst 1, 1) := by decide +kernel
theorem dX11_drawPattern_59 : decode cX11_drawPattern 59 = .ok (.istore 11, 2) := by decide +kernel
theorem dX11_drawPattern_61 : decode cX11_drawPattern 61 = .ok (.aload_n 0, 1) := by decide +kernel
theorem dX11_drawPattern_62 : decode cX11_drawPattern 62 = .ok (.iload 10, 2) := by decide +kernel
theorem dX11_drawPattern_64 : decode cX11_drawPattern 64 = .ok (.invokevirtual 23, 3) := by decide +kernel
theorem dX11_drawPattern_67 : decode cX11_drawPattern 67 = .ok (.istore 12, 2) := by decide +kernel
theorem dX11_drawPattern_69 : decode cX11_drawPattern 69 = .ok (.iload 12, 2) := by decide +kernel
theorem dX11_drawPattern_71 : decode cX11_drawPattern 71 = .ok (.bipush 36, 2) := by decide +kernel
theorem dX11_drawPattern_73 : decode cX11_drawPattern 73 = .ok (.if_icmp .ne 18, 3) := by decide +kernel
theorem dX11_drawPattern_76 : decode cX11_drawPattern 76 = .ok (.iload_n 2, 1) := by decide +kernel
theorem dX11_drawPattern_77 : decode cX11_drawPattern 77 = .ok (.i2l, 1) := by decide +kernel
theorem dX11_drawPattern_78 : decode cX11_drawPattern 78 = .ok (.lstore 4, 2) := by decide +kernel
theorem dX11_drawPattern_80 : decode cX11_drawPattern 80 = .ok (.lload 6, 2) := by decide +kernel
theorem dX11_drawPattern_82 : decode cX11_drawPattern 82 = .ok (.iload 11, 2) := by decide +kernel
theorem dX11_drawPattern_84 : decode cX11_drawPattern 84 = .ok (.i2l, 1) := by decide +kernel
theorem dX11_drawPattern_85 : decode cX11_drawPattern 85 = .ok (.ladd, 1) := by decide +kernel
theorem dX11_drawPattern_86 : decode cX11_drawPattern 86 = .ok (.lstore 6, 2) := by decide +kernel
theorem dX11_drawPattern_88 : decode cX11_drawPattern 88 = .ok (.goto 48, 3) := by decide +kernel
theorem dX11_drawPattern_91 : decode cX11_drawPattern 91 = .ok (.iload 12, 2) := by decide +kernel
theorem dX11_drawPattern_93 : decode cX11_drawPattern 93 = .ok (.bipush 111, 2) := by decide +kernel
theorem dX11_drawPattern_95 : decode cX11_drawPattern 95 = .ok (.if_icmp .eq 10, 3) := by decide +kernel
theorem dX11_drawPattern_98 : decode cX11_drawPattern 98 = .ok (.iload 12, 2) := by decide +kernel
theorem dX11_drawPattern_100 : decode cX11_drawPattern 100 = .ok (.bipush 98, 2) := by decide +kernel
theorem dX11_drawPattern_102 : decode cX11_drawPattern 102 = .ok (.if_icmp .ne 34, 3) := by decide +kernel
theorem dX11_drawPattern_105 : decode cX11_drawPattern 105 = .ok (.aload_n 1, 1) := by decide +kernel
theorem dX11_drawPattern_106 : decode cX11_drawPattern 106 = .ok (.lload 4, 2) := by decide +kernel
theorem dX11_drawPattern_108 : decode cX11_drawPattern 108 = .ok (.lload 6, 2) := by decide +kernel
theorem dX11_drawPattern_110 : decode cX11_drawPattern 110 = .ok (.iload 11, 2) := by decide +kernel
theorem dX11_drawPattern_112 : decode cX11_drawPattern 112 = .ok (.iconst 1, 1) := by decide +kernel
theorem dX11_drawPattern_113 : decode cX11_drawPattern 113 = .ok (.iload 12, 2) := by decide +kernel
theorem dX11_drawPattern_115 : decode cX11_drawPattern 115 = .ok (.bipush 111, 2) := by decide +kernel
theorem dX11_drawPattern_117 : decode cX11_drawPattern 117 = .ok (.if_icmp .ne 7, 3) := by decide +kernel
theorem dX11_drawPattern_120 : decode cX11_drawPattern 120 = .ok (.iconst 1, 1) := by decide +kernel
theorem dX11_drawPattern_121 : decode cX11_drawPattern 121 = .ok (.goto 4, 3) := by decide +kernel
theorem dX11_drawPattern_124 : decode cX11_drawPattern 124 = .ok (.iconst 0, 1) := by decide +kernel
theorem dX11_drawPattern_125 : decode cX11_drawPattern 125 = .ok (.invokevirtual 56, 3) := by decide +kernel
theorem dX11_drawPattern_128 : decode cX11_drawPattern 128 = .ok (.lload 4, 2) := by decide +kernel
theorem dX11_drawPattern_130 : decode cX11_drawPattern 130 = .ok (.iload 11, 2) := by decide +kernel
theorem dX11_drawPattern_132 : decode cX11_drawPattern 132 = .ok (.i2l, 1) := by decide +kernel
theorem dX11_drawPattern_133 : decode cX11_drawPattern 133 = .ok (.ladd, 1) := by decide +kernel
theorem dX11_drawPattern_134 : decode cX11_drawPattern 134 = .ok (.lstore 4, 2) := by decide +kernel
theorem dX11_drawPattern_136 : decode cX11_drawPattern 136 = .ok (.iload 10, 2) := by decide +kernel
theorem dX11_drawPattern_138 : decode cX11_drawPattern 138 = .ok (.iconst 1, 1) := by decide +kernel
theorem dX11_drawPattern_139 : decode cX11_drawPattern 139 = .ok (.iadd, 1) := by decide +kernel
theorem dX11_drawPattern_140 : decode cX11_drawPattern 140 = .ok (.istore 8, 2) := by decide +kernel
theorem dX11_drawPattern_142 : decode cX11_drawPattern 142 = .ok (.iinc 9 1, 3) := by decide +kernel
theorem dX11_drawPattern_145 : decode cX11_drawPattern 145 = .ok (.goto (-131), 3) := by decide +kernel
theorem dX11_drawPattern_148 : decode cX11_drawPattern 148 = .ok (.return_, 1) := by decide +kernel
theorem dX0_countIn_0 : decode cX0_countIn 0 = .ok (.aload_n 0, 1) := by decide +kernel
theorem dX0_countIn_1 : decode cX0_countIn 1 = .ok (.aload_n 1, 1) := by decide +kernel
theorem dX0_countIn_2 : decode cX0_countIn 2 = .ok (.invokevirtual 25, 3) := by decide +kernel
theorem dX0_countIn_5 : decode cX0_countIn 5 = .ok (.iconst 0, 1) := by decide +kernel
theorem dX0_countIn_6 : decode cX0_countIn 6 = .ok (.istore_n 2, 1) := by decide +kernel
theorem dX0_countIn_7 : decode cX0_countIn 7 = .ok (.iload_n 2, 1) := by decide +kernel
theorem dX0_countIn_8 : decode cX0_countIn 8 = .ok (.aload_n 0, 1) := by decide +kernel
theorem dX0_countIn_9 : decode cX0_countIn 9 = .ok (.getfield 15, 3) := by decide +kernel
theorem dX0_countIn_12 : decode cX0_countIn 12 = .ok (.if_icmp .ge 16, 3) := by decide +kernel
theorem dX0_countIn_15 : decode cX0_countIn 15 = .ok (.aload_n 0, 1) := by decide +kernel
theorem dX0_countIn_16 : decode cX0_countIn 16 = .ok (.invokevirtual 29, 3) := by decide +kernel
theorem dX0_countIn_19 : decode cX0_countIn 19 = .ok (.ifCond .eq 9, 3) := by decide +kernel
theorem dX0_countIn_22 : decode cX0_countIn 22 = .ok (.iinc 2 1, 3) := by decide +kernel
theorem dX0_countIn_25 : decode cX0_countIn 25 = .ok (.goto (-18), 3) := by decide +kernel
theorem dX0_countIn_28 : decode cX0_countIn 28 = .ok (.iload_n 2, 1) := by decide +kernel
theorem dX0_countIn_29 : decode cX0_countIn 29 = .ok (.ireturn, 1) := by decide +kernel
theorem dX11_isFull_0 : decode cX11_isFull 0 = .ok (.aload_n 0, 1) := by decide +kernel
theorem dX11_isFull_1 : decode cX11_isFull 1 = .ok (.getfield 15, 3) := by decide +kernel
theorem dX11_isFull_4 : decode cX11_isFull 4 = .ok (.bipush 80, 2) := by decide +kernel
theorem dX11_isFull_6 : decode cX11_isFull 6 = .ok (.if_icmp .lt 7, 3) := by decide +kernel
theorem dX11_isFull_9 : decode cX11_isFull 9 = .ok (.iconst 1, 1) := by decide +kernel
theorem dX11_isFull_10 : decode cX11_isFull 10 = .ok (.goto 4, 3) := by decide +kernel
theorem dX11_isFull_13 : decode cX11_isFull 13 = .ok (.iconst 0, 1) := by decide +kernel
theorem dX11_isFull_14 : decode cX11_isFull 14 = .ok (.ireturn, 1) := by decide +kernel
theorem dX11_add_0 : decode cX11_add 0 = .ok (.aload_n 0, 1) := by decide +kernel
theorem dX11_add_1 : decode cX11_add 1 = .ok (.invokevirtual 19, 3) := by decide +kernel
theorem dX11_add_4 : decode cX11_add 4 = .ok (.ifCond .ne 23, 3) := by decide +kernel
theorem dX11_add_7 : decode cX11_add 7 = .ok (.aload_n 0, 1) := by decide +kernel
theorem dX11_add_8 : decode cX11_add 8 = .ok (.getfield 9, 3) := by decide +kernel
theorem dX11_add_11 : decode cX11_add 11 = .ok (.aload_n 0, 1) := by decide +kernel
theorem dX11_add_12 : decode cX11_add 12 = .ok (.getfield 15, 3) := by decide +kernel
theorem dX11_add_15 : decode cX11_add 15 = .ok (.iload_n 1, 1) := by decide +kernel
theorem dX11_add_16 : decode cX11_add 16 = .ok (.iastore, 1) := by decide +kernel
theorem dX11_add_17 : decode cX11_add 17 = .ok (.aload_n 0, 1) := by decide +kernel
theorem dX11_add_18 : decode cX11_add 18 = .ok (.dup, 1) := by decide +kernel
theorem dX11_add_19 : decode cX11_add 19 = .ok (.getfield 15, 3) := by decide +kernel
theorem dX11_add_22 : decode cX11_add 22 = .ok (.iconst 1, 1) := by decide +kernel
theorem dX11_add_23 : decode cX11_add 23 = .ok (.iadd, 1) := by decide +kernel
theorem dX11_add_24 : decode cX11_add 24 = .ok (.putfield 15, 3) := by decide +kernel
theorem dX11_add_27 : decode cX11_add 27 = .ok (.aload_n 0, 1) := by decide +kernel
theorem dX11_add_28 : decode cX11_add 28 = .ok (.getfield 15, 3) := by decide +kernel
theorem dX11_add_31 : decode cX11_add 31 = .ok (.ireturn, 1) := by decide +kernel
theorem dX6_seek_0 : decode cX6_seek 0 = .ok (.aload_n 0, 1) := by decide +kernel
theorem dX6_seek_1 : decode cX6_seek 1 = .ok (.iload_n 1, 1) := by decide +kernel
theorem dX6_seek_2 : decode cX6_seek 2 = .ok (.putfield 7, 3) := by decide +kernel
theorem dX6_seek_5 : decode cX6_seek 5 = .ok (.aload_n 0, 1) := by decide +kernel
theorem dX6_seek_6 : decode cX6_seek 6 = .ok (.iconst 0, 1) := by decide +kernel
theorem dX6_seek_7 : decode cX6_seek 7 = .ok (.putfield 13, 3) := by decide +kernel
theorem dX6_seek_10 : decode cX6_seek 10 = .ok (.aload_n 0, 1) := by decide +kernel
theorem dX6_seek_11 : decode cX6_seek 11 = .ok (.iconst (-1), 1) := by decide +kernel
theorem dX6_seek_12 : decode cX6_seek 12 = .ok (.putfield 16, 3) := by decide +kernel
theorem dX6_seek_15 : decode cX6_seek 15 = .ok (.return_, 1) := by decide +kernel
theorem dX2_describe_0 : decode cX2_describe 0 = .ok (.iconst 0, 1) := by decide +kernel
theorem dX2_describe_1 : decode cX2_describe 1 = .ok (.istore_n 2, 1) := by decide +kernel
theorem dX2_describe_2 : decode cX2_describe 2 = .ok (.iload_n 2, 1) := by decide +kernel
theorem dX2_describe_3 : decode cX2_describe 3 = .ok (.aload_n 0, 1) := by decide +kernel
theorem dX2_describe_4 : decode cX2_describe 4 = .ok (.getfield 43, 3) := by decide +kernel
theorem dX2_describe_7 : decode cX2_describe 7 = .ok (.if_icmp .ge 48, 3) := by decide +kernel
theorem dX2_describe_10 : decode cX2_describe 10 = .ok (.aload_n 0, 1) := by decide +kernel
theorem dX2_describe_11 : decode cX2_describe 11 = .ok (.getfield 19, 3) := by decide +kernel
theorem dX2_describe_14 : decode cX2_describe 14 = .ok (.iload_n 2, 1) := by decide +kernel
theorem dX2_describe_15 : decode cX2_describe 15 = .ok (.iaload, 1) := by decide +kernel
theorem dX2_describe_16 : decode cX2_describe 16 = .ok (.istore_n 3, 1) := by decide +kernel
theorem dX2_describe_17 : decode cX2_describe 17 = .ok (.iload_n 3, 1) := by decide +kernel
theorem dX2_describe_18 : decode cX2_describe 18 = .ok (.ifCond .lt 31, 3) := by decide +kernel
theorem dX2_describe_21 : decode cX2_describe 21 = .ok (.iload_n 3, 1) := by decide +kernel
theorem dX2_describe_22 : decode cX2_describe 22 = .ok (.getstatic 9, 3) := by decide +kernel
theorem dX2_describe_25 : decode cX2_describe 25 = .ok (.arraylength, 1) := by decide +kernel
theorem dX2_describe_26 : decode cX2_describe 26 = .ok (.if_icmp .ge 23, 3) := by decide +kernel
theorem dX2_describe_29 : decode cX2_describe 29 = .ok (.iload_n 2, 1) := by decide +kernel
theorem dX2_describe_30 : decode cX2_describe 30 = .ok (.ifCond .le 9, 3) := by decide +kernel
theorem dX2_describe_33 : decode cX2_describe 33 = .ok (.aload_n 1, 1) := by decide +kernel
theorem dX2_describe_34 : decode cX2_describe 34 = .ok (.bipush 59, 2) := by decide +kernel
theorem dX2_describe_36 : decode cX2_describe 36 = .ok (.invokevirtual 85, 3) := by decide +kernel
theorem dX2_describe_39 : decode cX2_describe 39 = .ok (.aload_n 0, 1) := by decide +kernel
theorem dX2_describe_40 : decode cX2_describe 40 = .ok (.getstatic 9, 3) := by decide +kernel
theorem dX2_describe_43 : decode cX2_describe 43 = .ok (.iload_n 3, 1) := by decide +kernel
theorem dX2_describe_44 : decode cX2_describe 44 = .ok (.aaload, 1) := by decide +kernel
theorem dX2_describe_45 : decode cX2_describe 45 = .ok (.aload_n 1, 1) := by decide +kernel
theorem dX2_describe_46 : decode cX2_describe 46 = .ok (.invokevirtual 91, 3) := by decide +kernel
theorem dX2_describe_49 : decode cX2_describe 49 = .ok (.iinc 2 1, 3) := by decide +kernel
theorem dX2_describe_52 : decode cX2_describe 52 = .ok (.goto (-50), 3) := by decide +kernel
theorem dX2_describe_55 : decode cX2_describe 55 = .ok (.return_, 1) := by decide +kernel
theorem dX6_put_0 : decode cX6_put 0 = .ok (.aload_n 0, 1) := by decide +kernel
theorem dX6_put_1 : decode cX6_put 1 = .ok (.getfield 13, 3) := by decide +kernel
theorem dX6_put_4 : decode cX6_put 4 = .ok (.aload_n 0, 1) := by decide +kernel
theorem dX6_put_5 : decode cX6_put 5 = .ok (.getfield 7, 3) := by decide +kernel
theorem dX6_put_8 : decode cX6_put 8 = .ok (.if_icmp .ne 8, 3) := by decide +kernel
theorem dX6_put_11 : decode cX6_put 11 = .ok (.aload_n 0, 1) := by decide +kernel
theorem dX6_put_12 : decode cX6_put 12 = .ok (.iload_n 1, 1) := by decide +kernel
theorem dX6_put_13 : decode cX6_put 13 = .ok (.putfield 16, 3) := by decide +kernel
theorem dX6_put_16 : decode cX6_put 16 = .ok (.aload_n 0, 1) := by decide +kernel
theorem dX6_put_17 : decode cX6_put 17 = .ok (.dup, 1) := by decide +kernel
theorem dX6_put_18 : decode cX6_put 18 = .ok (.getfield 13, 3) := by decide +kernel
theorem dX6_put_21 : decode cX6_put 21 = .ok (.iconst 1, 1) := by decide +kernel
theorem dX6_put_22 : decode cX6_put 22 = .ok (.iadd, 1) := by decide +kernel
theorem dX6_put_23 : decode cX6_put 23 = .ok (.putfield 13, 3) := by decide +kernel
theorem dX6_put_26 : decode cX6_put 26 = .ok (.return_, 1) := by decide +kernel
theorem dX2_describeOne_0 : decode cX2_describeOne 0 = .ok (.aload_n 0, 1) := by decide +kernel
theorem dX2_describeOne_1 : decode cX2_describeOne 1 = .ok (.aload_n 1, 1) := by decide +kernel
theorem dX2_describeOne_2 : decode cX2_describeOne 2 = .ok (.invokevirtual 95, 3) := by decide +kernel
theorem dX2_describeOne_5 : decode cX2_describeOne 5 = .ok (.istore_n 3, 1) := by decide +kernel
theorem dX2_describeOne_6 : decode cX2_describeOne 6 = .ok (.aload_n 2, 1) := by decide +kernel
theorem dX2_describeOne_7 : decode cX2_describeOne 7 = .ok (.aload_n 1, 1) := by decide +kernel
theorem dX2_describeOne_8 : decode cX2_describeOne 8 = .ok (.getfield 77, 3) := by decide +kernel
theorem dX2_describeOne_11 : decode cX2_describeOne 11 = .ok (.invokevirtual 99, 3) := by decide +kernel
theorem dX2_describeOne_14 : decode cX2_describeOne 14 = .ok (.aload_n 2, 1) := by decide +kernel
theorem dX2_describeOne_15 : decode cX2_describeOne 15 = .ok (.bipush 61, 2) := by decide +kernel
theorem dX2_describeOne_17 : decode cX2_describeOne 17 = .ok (.invokevirtual 85, 3) := by decide +kernel
theorem dX2_describeOne_20 : decode cX2_describeOne 20 = .ok (.aload_n 1, 1) := by decide +kernel
theorem dX2_describeOne_21 : decode cX2_describeOne 21 = .ok (.invokevirtual 103, 3) := by decide +kernel
theorem dX2_describeOne_24 : decode cX2_describeOne 24 = .ok (.ifCond .eq 25, 3) := by decide +kernel
theorem dX2_describeOne_27 : decode cX2_describeOne 27 = .ok (.aload_n 2, 1) := by decide +kernel
theorem dX2_describeOne_28 : decode cX2_describeOne 28 = .ok (.iload_n 3, 1) := by decide +kernel
theorem dX2_describeOne_29 : decode cX2_describeOne 29 = .ok (.ifCond .ne 10, 3) := by decide +kernel
theorem dX2_describeOne_32 : decode cX2_describeOne 32 = .ok (.aload_n 1, 1) := by decide +kernel
theorem dX2_describeOne_33 : decode cX2_describeOne 33 = .ok (.getfield 107, 3) := by decide +kernel
theorem dX2_describeOne_36 : decode cX2_describeOne 36 = .ok (.goto 7, 3) := by decide +kernel
theorem dX2_describeOne_39 : decode cX2_describeOne 39 = .ok (.aload_n 1, 1) := by decide +kernel
theorem dX2_describeOne_40 : decode cX2_describeOne 40 = .ok (.getfield 110, 3) := by decide +kernel
theorem dX2_describeOne_43 : decode cX2_describeOne 43 = .ok (.invokevirtual 99, 3) := by decide +kernel
theorem dX2_describeOne_46 : decode cX2_describeOne 46 = .ok (.goto 8, 3) := by decide +kernel
theorem dX2_describeOne_49 : decode cX2_describeOne 49 = .ok (.aload_n 2, 1) := by decide +kernel
theorem dX2_describeOne_50 : decode cX2_describeOne 50 = .ok (.iload_n 3, 1) := by decide +kernel
theorem dX2_describeOne_51 : decode cX2_describeOne 51 = .ok (.invokevirtual 113, 3) := by decide +kernel
theorem dX2_describeOne_54 : decode cX2_describeOne 54 = .ok (.return_, 1) := by decide +kernel
theorem dX6_write_0 : decode cX6_write 0 = .ok (.iconst 0, 1) := by decide +kernel
theorem dX6_write_1 : decode cX6_write 1 = .ok (.istore_n 2, 1) := by decide +kernel
theorem dX6_write_2 : decode cX6_write 2 = .ok (.iload_n 2, 1) := by decide +kernel
theorem dX6_write_3 : decode cX6_write 3 = .ok (.aload_n 1, 1) := by decide +kernel
theorem dX6_write_4 : decode cX6_write 4 = .ok (.invokevirtual 19, 3) := by decide +kernel
theorem dX6_write_7 : decode cX6_write 7 = .ok (.if_icmp .ge 18, 3) := by decide +kernel
theorem dX6_write_10 : decode cX6_write 10 = .ok (.aload_n 0, 1) := by decide +kernel
theorem dX6_write_11 : decode cX6_write 11 = .ok (.aload_n 1, 1) := by decide +kernel
theorem dX6_write_12 : decode cX6_write 12 = .ok (.iload_n 2, 1) := by decide +kernel
theorem dX6_write_13 : decode cX6_write 13 = .ok (.invokevirtual 25, 3) := by decide +kernel
theorem dX6_write_16 : decode cX6_write 16 = .ok (.invokevirtual 29, 3) := by decide +kernel
theorem dX6_write_19 : decode cX6_write 19 = .ok (.iinc 2 1, 3) := by decide +kernel
theorem dX6_write_22 : decode cX6_write 22 = .ok (.goto (-20), 3) := by decide +kernel
theorem dX6_write_25 : decode cX6_write 25 = .ok (.return_, 1) := by decide +kernel
theorem dX6_writeNumber_0 : decode cX6_writeNumber 0 = .ok (.iload_n 1, 1) := by decide +kernel
theorem dX6_writeNumber_1 : decode cX6_writeNumber 1 = .ok (.ifCond .ge 9, 3) := by decide +kernel
theorem dX6_writeNumber_4 : decode cX6_writeNumber 4 = .ok (.aload_n 0, 1) := by decide +kernel
theorem dX6_writeNumber_5 : decode cX6_writeNumber 5 = .ok (.bipush 45, 2) := by decide +kernel
theorem dX6_writeNumber_7 : decode cX6_writeNumber 7 = .ok (.invokevirtual 29, 3) := by decide +kernel
theorem dX6_writeNumber_10 : decode cX6_writeNumber 10 = .ok (.iload_n 1, 1) := by decide +kernel
theorem dX6_writeNumber_11 : decode cX6_writeNumber 11 = .ok (.invokestatic 33, 3) := by decide +kernel
theorem dX6_writeNumber_14 : decode cX6_writeNumber 14 = .ok (.istore_n 2, 1) := by decide +kernel
theorem dX6_writeNumber_15 : decode cX6_writeNumber 15 = .ok (.ldc 39, 2) := by decide +kernel
theorem dX6_writeNumber_17 : decode cX6_writeNumber 17 = .ok (.istore_n 3, 1) := by decide +kernel
theorem dX6_writeNumber_18 : decode cX6_writeNumber 18 = .ok (.iload_n 3, 1) := by decide +kernel
theorem dX6_writeNumber_19 : decode cX6_writeNumber 19 = .ok (.iconst 1, 1) := by decide +kernel
theorem dX6_writeNumber_20 : decode cX6_writeNumber 20 = .ok (.if_icmp .lt 34, 3) := by decide +kernel
theorem dX6_writeNumber_23 : decode cX6_writeNumber 23 = .ok (.iload_n 2, 1) := by decide +kernel
theorem dX6_writeNumber_24 : decode cX6_writeNumber 24 = .ok (.iload_n 3, 1) := by decide +kernel
theorem dX6_writeNumber_25 : decode cX6_writeNumber 25 = .ok (.if_icmp .ge 8, 3) := by decide +kernel
theorem dX6_writeNumber_28 : decode cX6_writeNumber 28 = .ok (.iload_n 3, 1) := by decide +kernel
theorem dX6_writeNumber_29 : decode cX6_writeNumber 29 = .ok (.iconst 1, 1) := by decide +kernel
theorem dX6_writeNumber_30 : decode cX6_writeNumber 30 = .ok (.if_icmp .ne 16, 3) := by decide +kernel
theorem dX6_writeNumber_33 : decode cX6_writeNumber 33 = .ok (.aload_n 0, 1) := by decide +kernel
theorem dX6_writeNumber_34 : decode cX6_writeNumber 34 = .ok (.bipush 48, 2) := by decide +kernel
theorem dX6_writeNumber_36 : decode cX6_writeNumber 36 = .ok (.iload_n 2, 1) := by decide +kernel
theorem dX6_writeNumber_37 : decode cX6_writeNumber 37 = .ok (.iload_n 3, 1) := by decide +kernel
theorem dX6_writeNumber_38 : decode cX6_writeNumber 38 = .ok (.idiv, 1) := by decide +kernel
theorem dX6_writeNumber_39 : decode cX6_writeNumber 39 = .ok (.bipush 10, 2) := by decide +kernel
theorem dX6_writeNumber_41 : decode cX6_writeNumber 41 = .ok (.irem, 1) := by decide +kernel
theorem dX6_writeNumber_42 : decode cX6_writeNumber 42 = .ok (.iadd, 1) := by decide +kernel
theorem dX6_writeNumber_43 : decode cX6_writeNumber 43 = .ok (.invokevirtual 29, 3) := by decide +kernel
theorem dX6_writeNumber_46 : decode cX6_writeNumber 46 = .ok (.iload_n 3, 1) := by decide +kernel
theorem dX6_writeNumber_47 : decode cX6_writeNumber 47 = .ok (.bipush 10, 2) := by decide +kernel
theorem dX6_writeNumber_49 : decode cX6_writeNumber 49 = .ok (.idiv, 1) := by decide +kernel
theorem dX6_writeNumber_50 : decode cX6_writeNumber 50 = .ok (.istore_n 3, 1) := by decide +kernel
theorem dX6_writeNumber_51 : decode cX6_writeNumber 51 = .ok (.goto (-33), 3) := by decide +kernel
theorem dX6_writeNumber_54 : decode cX6_writeNumber 54 = .ok (.return_, 1) := by decide +kernel
theorem dX6_found_0 : decode cX6_found 0 = .ok (.aload_n 0, 1) := by decide +kernel
theorem dX6_found_1 : decode cX6_found 1 = .ok (.getfield 16, 3) := by decide +kernel
theorem dX6_found_4 : decode cX6_found 4 = .ok (.ireturn, 1) := by decide +kernel
theorem dX6_writePair_0 : decode cX6_writePair 0 = .ok (.aload_n 0, 1) := by decide +kernel
theorem dX6_writePair_1 : decode cX6_writePair 1 = .ok (.iload_n 1, 1) := by decide +kernel
theorem dX6_writePair_2 : decode cX6_writePair 2 = .ok (.invokevirtual 40, 3) := by decide +kernel
theorem dX6_writePair_5 : decode cX6_writePair 5 = .ok (.aload_n 0, 1) := by decide +kernel
theorem dX6_writePair_6 : decode cX6_writePair 6 = .ok (.aload_n 2, 1) := by decide +kernel
theorem dX6_writePair_7 : decode cX6_writePair 7 = .ok (.invokevirtual 43, 3) := by decide +kernel
theorem dX6_writePair_10 : decode cX6_writePair 10 = .ok (.aload_n 0, 1) := by decide +kernel
theorem dX6_writePair_11 : decode cX6_writePair 11 = .ok (.iload_n 3, 1) := by decide +kernel
theorem dX6_writePair_12 : decode cX6_writePair 12 = .ok (.invokevirtual 40, 3) := by decide +kernel
theorem dX6_writePair_15 : decode cX6_writePair 15 = .ok (.return_, 1) := by decide +kernel
theorem dX10_init_0 : decode cX10_init 0 = .ok (.aload_n 0, 1) := by decide +kernel
theorem dX10_init_1 : decode cX10_init 1 = .ok (.invokespecial 3, 3) := by decide +kernel
theorem dX10_init_4 : decode cX10_init 4 = .ok (.aload_n 0, 1) := by decide +kernel
theorem dX10_init_5 : decode cX10_init 5 = .ok (.bipush 7, 2) := by decide +kernel
theorem dX10_init_7 : decode cX10_init 7 = .ok (.anewarray 9, 3) := by decide +kernel
theorem dX10_init_10 : decode cX10_init 10 = .ok (.putfield 11, 3) := by decide +kernel
theorem dX10_init_13 : decode cX10_init 13 = .ok (.iconst 0, 1) := by decide +kernel
theorem dX10_init_14 : decode cX10_init 14 = .ok (.istore_n 1, 1) := by decide +kernel
theorem dX10_init_15 : decode cX10_init 15 = .ok (.iload_n 1, 1) := by decide +kernel
theorem dX10_init_16 : decode cX10_init 16 = .ok (.bipush 7, 2) := by decide +kernel
theorem dX10_init_18 : decode cX10_init 18 = .ok (.if_icmp .ge 23, 3) := by decide +kernel
theorem dX10_init_21 : decode cX10_init 21 = .ok (.aload_n 0, 1) := by decide +kernel
theorem dX10_init_22 : decode cX10_init 22 = .ok (.getfield 11, 3) := by decide +kernel
theorem dX10_init_25 : decode cX10_init 25 = .ok (.iload_n 1, 1) := by decide +kernel
theorem dX10_init_26 : decode cX10_init 26 = .ok (.new 9, 3) := by decide +kernel
theorem dX10_init_29 : decode cX10_init 29 = .ok (.dup, 1) := by decide +kernel
theorem dX10_init_30 : decode cX10_init 30 = .ok (.iconst 0, 1) := by decide +kernel
theorem dX10_init_31 : decode cX10_init 31 = .ok (.invokespecial 17, 3) := by decide +kernel
theorem dX10_init_34 : decode cX10_init 34 = .ok (.aastore, 1) := by decide +kernel
theorem dX10_init_35 : decode cX10_init 35 = .ok (.iinc 1 1, 3) := by decide +kernel
theorem dX10_init_38 : decode cX10_init 38 = .ok (.goto (-23), 3) := by decide +kernel
theorem dX10_init_41 : decode cX10_init 41 = .ok (.return_, 1) := by decide +kernel
theorem dX5_init_0 : decode cX5_init 0 = .ok (.aload_n 0, 1) := by decide +kernel
theorem dX5_init_1 : decode cX5_init 1 = .ok (.invokespecial 3, 3) := by decide +kernel
theorem dX5_init_4 : decode cX5_init 4 = .ok (.aload_n 0, 1) := by decide +kernel
theorem dX5_init_5 : decode cX5_init 5 = .ok (.bipush 64, 2) := by decide +kernel
theorem dX5_init_7 : decode cX5_init 7 = .ok (.newarray .long, 2) := by decide +kernel
theorem dX5_init_9 : decode cX5_init 9 = .ok (.putfield 9, 3) := by decide +kernel
theorem dX5_init_12 : decode cX5_init 12 = .ok (.aload_n 0, 1) := by decide +kernel
theorem dX5_init_13 : decode cX5_init 13 = .ok (.iload_n 1, 1) := by decide +kernel
theorem dX5_init_14 : decode cX5_init 14 = .ok (.putfield 15, 3) := by decide +kernel
theorem dX5_init_17 : decode cX5_init 17 = .ok (.return_, 1) := by decide +kernel
theorem dX8_init_0 : decode cX8_init 0 = .ok (.aload_n 0, 1) := by decide +kernel
theorem dX8_init_1 : decode cX8_init 1 = .ok (.invokespecial 3, 3) := by decide +kernel
theorem dX8_init_4 : decode cX8_init 4 = .ok (.aload_n 0, 1) := by decide +kernel
theorem dX8_init_5 : decode cX8_init 5 = .ok (.sipush 256, 3) := by decide +kernel
theorem dX8_init_8 : decode cX8_init 8 = .ok (.newarray .int, 2) := by decide +kernel
theorem dX8_init_10 : decode cX8_init 10 = .ok (.putfield 9, 3) := by decide +kernel
theorem dX8_init_13 : decode cX8_init 13 = .ok (.aload_n 0, 1) := by decide +kernel
theorem dX8_init_14 : decode cX8_init 14 = .ok (.sipush 256, 3) := by decide +kernel
theorem dX8_init_17 : decode cX8_init 17 = .ok (.newarray .int, 2) := by decide +kernel
theorem dX8_init_19 : decode cX8_init 19 = .ok (.putfield 15, 3) := by decide +kernel
theorem dX8_init_22 : decode cX8_init 22 = .ok (.aload_n 0, 1) := by decide +kernel
theorem dX8_init_23 : decode cX8_init 23 = .ok (.iload_n 1, 1) := by decide +kernel
theorem dX8_init_24 : decode cX8_init 24 = .ok (.putfield 18, 3) := by decide +kernel
theorem dX8_init_27 : decode cX8_init 27 = .ok (.aload_n 0, 1) := by decide +kernel
theorem dX8_init_28 : decode cX8_init 28 = .ok (.iload_n 2, 1) := by decide +kernel
theorem dX8_init_29 : decode cX8_init 29 = .ok (.putfield 22, 3) := by decide +kernel
theorem dX8_init_32 : decode cX8_init 32 = .ok (.aload_n 0, 1) := by decide +kernel
theorem dX8_init_33 : decode cX8_init 33 = .ok (.new 25, 3) := by decide +kernel
theorem dX8_init_36 : decode cX8_init 36 = .ok (.dup, 1) := by decide +kernel
theorem dX8_init_37 : decode cX8_init 37 = .ok (.iload_n 1, 1) := by decide +kernel
theorem dX8_init_38 : decode cX8_init 38 = .ok (.iload_n 2, 1) := by decide +kernel
theorem dX8_init_39 : decode cX8_init 39 = .ok (.invokespecial 27, 3) := by decide +kernel
theorem dX8_init_42 : decode cX8_init 42 = .ok (.putfield 30, 3) := by decide +kernel
theorem dX8_init_45 : decode cX8_init 45 = .ok (.aload_n 0, 1) := by decide +kernel
theorem dX8_init_46 : decode cX8_init 46 = .ok (.new 25, 3) := by decide +kernel
theorem dX8_init_49 : decode cX8_init 49 = .ok (.dup, 1) := by decide +kernel
theorem dX8_init_50 : decode cX8_init 50 = .ok (.iload_n 1, 1) := by decide +kernel
theorem dX8_init_51 : decode cX8_init 51 = .ok (.iload_n 2, 1) := by decide +kernel
theorem dX8_init_52 : decode cX8_init 52 = .ok (.invokespecial 27, 3) := by decide +kernel
theorem dX8_init_55 : decode cX8_init 55 = .ok (.putfield 34, 3) := by decide +kernel
theorem dX8_init_58 : decode cX8_init 58 = .ok (.return_, 1) := by decide +kernel
theorem dX8_search_0 : decode cX8_search 0 = .ok (.aload_n 0, 1) := by decide +kernel
theorem dX8_search_1 : decode cX8_search 1 = .ok (.aload_n 1, 1) := by decide +kernel
theorem dX8_search_2 : decode cX8_search 2 = .ok (.aload_n 0, 1) := by decide +kernel
theorem dX8_search_3 : decode cX8_search 3 = .ok (.getfield 9, 3) := by decide +kernel
theorem dX8_search_6 : decode cX8_search 6 = .ok (.invokevirtual 37, 3) := by decide +kernel
theorem dX8_search_9 : decode cX8_search 9 = .ok (.aload_n 0, 1) := by decide +kernel
theorem dX8_search_10 : decode cX8_search 10 = .ok (.ldc 41, 2) := by decide +kernel
theorem dX8_search_12 : decode cX8_search 12 = .ok (.putfield 42, 3) := by decide +kernel
theorem dX8_search_15 : decode cX8_search 15 = .ok (.iconst 0, 1) := by decide +kernel
theorem dX8_search_16 : decode cX8_search 16 = .ok (.istore 6, 2) := by decide +kernel
theorem dX8_search_18 : decode cX8_search 18 = .ok (.iload 6, 2) := by decide +kernel
theorem dX8_search_20 : decode cX8_search 20 = .ok (.iload 5, 2) := by decide +kernel
theorem dX8_search_22 : decode cX8_search 22 = .ok (.ifCond .eq 7, 3) := by decide +kernel
theorem dX8_search_25 : decode cX8_search 25 = .ok (.iconst 1, 1) := by decide +kernel
theorem dX8_search_26 : decode cX8_search 26 = .ok (.goto 4, 3) := by decide +kernel
theorem dX8_search_29 : decode cX8_search 29 = .ok (.iconst 0, 1) := by decide +kernel
theorem dX8_search_30 : decode cX8_search 30 = .ok (.if_icmp .gt 162, 3) := by decide +kernel
theorem dX8_search_33 : decode cX8_search 33 = .ok (.iconst 0, 1) := by decide +kernel
theorem dX8_search_34 : decode cX8_search 34 = .ok (.istore 7, 2) := by decide +kernel
theorem dX8_search_36 : decode cX8_search 36 = .ok (.iload 7, 2) := by decide +kernel
theorem dX8_search_38 : decode cX8_search 38 = .ok (.iconst 2, 1) := by decide +kernel
theorem dX8_search_39 : decode cX8_search 39 = .ok (.iload 4, 2) := by decide +kernel
theorem dX8_search_41 : decode cX8_search 41 = .ok (.imul, 1) := by decide +kernel
theorem dX8_search_42 : decode cX8_search 42 = .ok (.if_icmp .gt 144, 3) := by decide +kernel
theorem dX8_search_45 : decode cX8_search 45 = .ok (.iload 7, 2) := by decide +kernel
theorem dX8_search_47 : decode cX8_search 47 = .ok (.iconst 1, 1) := by decide +kernel
theorem dX8_search_48 : decode cX8_search 48 = .ok (.iand, 1) := by decide +kernel
theorem dX8_search_49 : decode cX8_search 49 = .ok (.iconst 1, 1) := by decide +kernel
theorem dX8_search_50 : decode cX8_search 50 = .ok (.if_icmp .ne 13, 3) := by decide +kernel
theorem dX8_search_53 : decode cX8_search 53 = .ok (.iload 7, 2) := by decide +kernel
theorem dX8_search_55 : decode cX8_search 55 = .ok (.iconst 1, 1) := by decide +kernel
theorem dX8_search_56 : decode cX8_search 56 = .ok (.iadd, 1) := by decide +kernel
theorem dX8_search_57 : decode cX8_search 57 = .ok (.ineg, 1) := by decide +kernel
theorem dX8_search_58 : decode cX8_search 58 = .ok (.iconst 2, 1) := by decide +kernel
theorem dX8_search_59 : decode cX8_search 59 = .ok (.idiv, 1) := by decide +kernel
theorem dX8_search_60 : decode cX8_search 60 = .ok (.goto 7, 3) := by decide +kernel
theorem dX8_search_63 : decode cX8_search 63 = .ok (.iload 7, 2) := by decide +kernel
theorem dX8_search_65 : decode cX8_search 65 = .ok (.iconst 2, 1) := by decide +kernel
theorem dX8_search_66 : decode cX8_search 66 = .ok (.idiv, 1) := by decide +kernel
theorem dX8_search_67 : decode cX8_search 67 = .ok (.istore 8, 2) := by decide +kernel
theorem dX8_search_69 : decode cX8_search 69 = .ok (.aload_n 0, 1) := by decide +kernel
theorem dX8_search_70 : decode cX8_search 70 = .ok (.aload_n 2, 1) := by decide +kernel
theorem dX8_search_71 : decode cX8_search 71 = .ok (.iload 6, 2) := by decide +kernel
theorem dX8_search_73 : decode cX8_search 73 = .ok (.iconst 1, 1) := by decide +kernel
theorem dX8_search_74 : decode cX8_search 74 = .ok (.if_icmp .ne 7, 3) := by decide +kernel
theorem dX8_search_77 : decode cX8_search 77 = .ok (.iconst 1, 1) := by decide +kernel
theorem dX8_search_78 : decode cX8_search 78 = .ok (.goto 4, 3) := by decide +kernel
theorem dX8_search_81 : decode cX8_search 81 = .ok (.iconst 0, 1) := by decide +kernel
theorem dX8_search_82 : decode cX8_search 82 = .ok (.iload 8, 2) := by decide +kernel
theorem dX8_search_84 : decode cX8_search 84 = .ok (.invokevirtual 45, 3) := by decide +kernel
theorem dX8_search_87 : decode cX8_search 87 = .ok (.aload_n 0, 1) := by decide +kernel
theorem dX8_search_88 : decode cX8_search 88 = .ok (.aload_n 0, 1) := by decide +kernel
theorem dX8_search_89 : decode cX8_search 89 = .ok (.getfield 34, 3) := by decide +kernel
theorem dX8_search_92 : decode cX8_search 92 = .ok (.aload_n 0, 1) := by decide +kernel
theorem dX8_search_93 : decode cX8_search 93 = .ok (.getfield 15, 3) := by decide +kernel
theorem dX8_search_96 : decode cX8_search 96 = .ok (.invokevirtual 37, 3) := by decide +kernel
theorem dX8_search_99 : decode cX8_search 99 = .ok (.aload_n 0, 1) := by decide +kernel
theorem dX8_search_100 : decode cX8_search 100 = .ok (.iload_n 3, 1) := by decide +kernel
theorem dX8_search_101 : decode cX8_search 101 = .ok (.iconst 4, 1) := by decide +kernel
theorem dX8_search_102 : decode cX8_search 102 = .ok (.idiv, 1) := by decide +kernel
theorem dX8_search_103 : decode cX8_search 103 = .ok (.invokevirtual 49, 3) := by decide +kernel
theorem dX8_search_106 : decode cX8_search 106 = .ok (.aload_n 0, 1) := by decide +kernel
theorem dX8_search_107 : decode cX8_search 107 = .ok (.aload_n 1, 1) := by decide +kernel
theorem dX8_search_108 : decode cX8_search 108 = .ok (.iconst 4, 1) := by decide +kernel
theorem dX8_search_109 : decode cX8_search 109 = .ok (.aload_n 0, 1) := by decide +kernel
theorem dX8_search_110 : decode cX8_search 110 = .ok (.getfield 53, 3) := by decide +kernel
theorem dX8_search_113 : decode cX8_search 113 = .ok (.imul, 1) := by decide +kernel
theorem dX8_search_114 : decode cX8_search 114 = .ok (.iconst 4, 1) := by decide +kernel
theorem dX8_search_115 : decode cX8_search 115 = .ok (.aload_n 0, 1) := by decide +kernel
theorem dX8_search_116 : decode cX8_search 116 = .ok (.getfield 56, 3) := by decide +kernel
theorem dX8_search_119 : decode cX8_search 119 = .ok (.imul, 1) := by decide +kernel
theorem dX8_search_120 : decode cX8_search 120 = .ok (.iload_n 3, 1) := by decide +kernel
theorem dX8_search_121 : decode cX8_search 121 = .ok (.invokevirtual 59, 3) := by decide +kernel
theorem dX8_search_124 : decode cX8_search 124 = .ok (.aload_n 0, 1) := by decide +kernel
theorem dX8_search_125 : decode cX8_search 125 = .ok (.getfield 63, 3) := by decide +kernel
theorem dX8_search_128 : decode cX8_search 128 = .ok (.aload_n 0, 1) := by decide +kernel
theorem dX8_search_129 : decode cX8_search 129 = .ok (.getfield 42, 3) := by decide +kernel
theorem dX8_search_132 : decode cX8_search 132 = .ok (.if_icmp .ge 48, 3) := by decide +kernel
theorem dX8_search_135 : decode cX8_search 135 = .ok (.aload_n 0, 1) := by decide +kernel
theorem dX8_search_136 : decode cX8_search 136 = .ok (.aload_n 0, 1) := by decide +kernel
theorem dX8_search_137 : decode cX8_search 137 = .ok (.getfield 53, 3) := by decide +kernel
theorem dX8_search_140 : decode cX8_search 140 = .ok (.putfield 66, 3) := by decide +kernel
theorem dX8_search_143 : decode cX8_search 143 = .ok (.aload_n 0, 1) := by decide +kernel
theorem dX8_search_144 : decode cX8_search 144 = .ok (.aload_n 0, 1) := by decide +kernel
theorem dX8_search_145 : decode cX8_search 145 = .ok (.getfield 56, 3) := by decide +kernel
theorem dX8_search_148 : decode cX8_search 148 = .ok (.putfield 69, 3) := by decide +kernel
theorem dX8_search_151 : decode cX8_search 151 = .ok (.aload_n 0, 1) := by decide +kernel
theorem dX8_search_152 : decode cX8_search 152 = .ok (.iload 8, 2) := by decide +kernel
theorem dX8_search_154 : decode cX8_search 154 = .ok (.putfield 72, 3) := by decide +kernel
theorem dX8_search_157 : decode cX8_search 157 = .ok (.aload_n 0, 1) := by decide +kernel
theorem dX8_search_158 : decode cX8_search 158 = .ok (.iload 6, 2) := by decide +kernel
theorem dX8_search_160 : decode cX8_search 160 = .ok (.iconst 1, 1) := by decide +kernel
theorem dX8_search_161 : decode cX8_search 161 = .ok (.if_icmp .ne 7, 3) := by decide +kernel
theorem dX8_search_164 : decode cX8_search 164 = .ok (.iconst 1, 1) := by decide +kernel
theorem dX8_search_165 : decode cX8_search 165 = .ok (.goto 4, 3) := by decide +kernel
theorem dX8_search_168 : decode cX8_search 168 = .ok (.iconst 0, 1) := by decide +kernel
theorem dX8_search_169 : decode cX8_search 169 = .ok (.putfield 75, 3) := by decide +kernel
theorem dX8_search_172 : decode cX8_search 172 = .ok (.aload_n 0, 1) := by decide +kernel
theorem dX8_search_173 : decode cX8_search 173 = .ok (.aload_n 0, 1) := by decide +kernel
theorem dX8_search_174 : decode cX8_search 174 = .ok (.getfield 63, 3) := by decide +kernel
theorem dX8_search_177 : decode cX8_search 177 = .ok (.putfield 42, 3) := by decide +kernel
theorem dX8_search_180 : decode cX8_search 180 = .ok (.iinc 7 1, 3) := by decide +kernel
theorem dX8_search_183 : decode cX8_search 183 = .ok (.goto (-147), 3) := by decide +kernel
theorem dX8_search_186 : decode cX8_search 186 = .ok (.iinc 6 1, 3) := by decide +kernel
theorem dX8_search_189 : decode cX8_search 189 = .ok (.goto (-171), 3) := by decide +kernel
theorem dX8_search_192 : decode cX8_search 192 = .ok (.aload_n 0, 1) := by decide +kernel
theorem dX8_search_193 : decode cX8_search 193 = .ok (.aload_n 2, 1) := by decide +kernel
theorem dX8_search_194 : decode cX8_search 194 = .ok (.aload_n 0, 1) := by decide +kernel
theorem dX8_search_195 : decode cX8_search 195 = .ok (.getfield 75, 3) := by decide +kernel
theorem dX8_search_198 : decode cX8_search 198 = .ok (.aload_n 0, 1) := by decide +kernel
theorem dX8_search_199 : decode cX8_search 199 = .ok (.getfield 72, 3) := by decide +kernel
theorem dX8_search_202 : decode cX8_search 202 = .ok (.invokevirtual 45, 3) := by decide +kernel
theorem dX8_search_205 : decode cX8_search 205 = .ok (.return_, 1) := by decide +kernel
theorem dX8_countCells_0 : decode cX8_countCells 0 = .ok (.aload_n 0, 1) := by decide +kernel
theorem dX8_countCells_1 : decode cX8_countCells 1 = .ok (.invokevirtual 105, 3) := by decide +kernel
theorem dX8_countCells_4 : decode cX8_countCells 4 = .ok (.istore_n 3, 1) := by decide +kernel
theorem dX8_countCells_5 : decode cX8_countCells 5 = .ok (.iconst 0, 1) := by decide +kernel
theorem dX8_countCells_6 : decode cX8_countCells 6 = .ok (.istore 4, 2) := by decide +kernel
theorem dX8_countCells_8 : decode cX8_countCells 8 = .ok (.iload 4, 2) := by decide +kernel
theorem dX8_countCells_10 : decode cX8_countCells 10 = .ok (.aload_n 0, 1) := by decide +kernel
theorem dX8_countCells_11 : decode cX8_countCells 11 = .ok (.invokevirtual 109, 3) := by decide +kernel
theorem dX8_countCells_14 : decode cX8_countCells 14 = .ok (.if_icmp .ge 60, 3) := by decide +kernel
theorem dX8_countCells_17 : decode cX8_countCells 17 = .ok (.iconst 0, 1) := by decide +kernel
theorem dX8_countCells_18 : decode cX8_countCells 18 = .ok (.istore 5, 2) := by decide +kernel
theorem dX8_countCells_20 : decode cX8_countCells 20 = .ok (.iload 5, 2) := by decide +kernel
theorem dX8_countCells_22 : decode cX8_countCells 22 = .ok (.iload_n 3, 1) := by decide +kernel
theorem dX8_countCells_23 : decode cX8_countCells 23 = .ok (.if_icmp .ge 45, 3) := by decide +kernel
theorem dX8_countCells_26 : decode cX8_countCells 26 = .ok (.iload 4, 2) := by decide +kernel
theorem dX8_countCells_28 : decode cX8_countCells 28 = .ok (.iload_n 3, 1) := by decide +kernel
theorem dX8_countCells_29 : decode cX8_countCells 29 = .ok (.imul, 1) := by decide +kernel
theorem dX8_countCells_30 : decode cX8_countCells 30 = .ok (.iload 5, 2) := by decide +kernel
theorem dX8_countCells_32 : decode cX8_countCells 32 = .ok (.iadd, 1) := by decide +kernel
theorem dX8_countCells_33 : decode cX8_countCells 33 = .ok (.istore 6, 2) := by decide +kernel
theorem dX8_countCells_35 : decode cX8_countCells 35 = .ok (.iload 6, 2) := by decide +kernel
theorem dX8_countCells_37 : decode cX8_countCells 37 = .ok (.aload_n 2, 1) := by decide +kernel
theorem dX8_countCells_38 : decode cX8_countCells 38 = .ok (.arraylength, 1) := by decide +kernel
theorem dX8_countCells_39 : decode cX8_countCells 39 = .ok (.if_icmp .ge 23, 3) := by decide +kernel
theorem dX8_countCells_42 : decode cX8_countCells 42 = .ok (.aload_n 2, 1) := by decide +kernel
theorem dX8_countCells_43 : decode cX8_countCells 43 = .ok (.iload 6, 2) := by decide +kernel
theorem dX8_countCells_45 : decode cX8_countCells 45 = .ok (.aload_n 1, 1) := by decide +kernel
theorem dX8_countCells_46 : decode cX8_countCells 46 = .ok (.iconst 4, 1) := by decide +kernel
theorem dX8_countCells_47 : decode cX8_countCells 47 = .ok (.iload 5, 2) := by decide +kernel
theorem dX8_countCells_49 : decode cX8_countCells 49 = .ok (.imul, 1) := by decide +kernel
theorem dX8_countCells_50 : decode cX8_countCells 50 = .ok (.i2l, 1) := by decide +kernel
theorem dX8_countCells_51 : decode cX8_countCells 51 = .ok (.iconst 4, 1) := by decide +kernel
theorem dX8_countCells_52 : decode cX8_countCells 52 = .ok (.iload 4, 2) := by decide +kernel
theorem dX8_countCells_54 : decode cX8_countCells 54 = .ok (.imul, 1) := by decide +kernel
theorem dX8_countCells_55 : decode cX8_countCells 55 = .ok (.i2l, 1) := by decide +kernel
theorem dX8_countCells_56 : decode cX8_countCells 56 = .ok (.iconst 4, 1) := by decide +kernel
theorem dX8_countCells_57 : decode cX8_countCells 57 = .ok (.iconst 4, 1) := by decide +kernel
theorem dX8_countCells_58 : decode cX8_countCells 58 = .ok (.invokevirtual 112, 3) := by decide +kernel
theorem dX8_countCells_61 : decode cX8_countCells 61 = .ok (.iastore, 1) := by decide +kernel
theorem dX8_countCells_62 : decode cX8_countCells 62 = .ok (.iinc 5 1, 3) := by decide +kernel
theorem dX8_countCells_65 : decode cX8_countCells 65 = .ok (.goto (-45), 3) := by decide +kernel
theorem dX8_countCells_68 : decode cX8_countCells 68 = .ok (.iinc 4 1, 3) := by decide +kernel
theorem dX8_countCells_71 : decode cX8_countCells 71 = .ok (.goto (-63), 3) := by decide +kernel
theorem dX8_countCells_74 : decode cX8_countCells 74 = .ok (.return_, 1) := by decide +kernel
theorem dX8_cellColumns_0 : decode cX8_cellColumns 0 = .ok (.aload_n 0, 1) := by decide +kernel
theorem dX8_cellColumns_1 : decode cX8_cellColumns 1 = .ok (.getfield 18, 3) := by decide +kernel
theorem dX8_cellColumns_4 : decode cX8_cellColumns 4 = .ok (.iconst 4, 1) := by decide +kernel
theorem dX8_cellColumns_5 : decode cX8_cellColumns 5 = .ok (.iadd, 1) := by decide +kernel
theorem dX8_cellColumns_6 : decode cX8_cellColumns 6 = .ok (.iconst 1, 1) := by decide +kernel
theorem dX8_cellColumns_7 : decode cX8_cellColumns 7 = .ok (.isub, 1) := by decide +kernel
theorem dX8_cellColumns_8 : decode cX8_cellColumns 8 = .ok (.iconst 4, 1) := by decide +kernel
theorem dX8_cellColumns_9 : decode cX8_cellColumns 9 = .ok (.idiv, 1) := by decide +kernel
theorem dX8_cellColumns_10 : decode cX8_cellColumns 10 = .ok (.ireturn, 1) := by decide +kernel
theorem dX8_cellRows_0 : decode cX8_cellRows 0 = .ok (.aload_n 0, 1) := by decide +kernel
theorem dX8_cellRows_1 : decode cX8_cellRows 1 = .ok (.getfield 22, 3) := by decide +kernel
theorem dX8_cellRows_4 : decode cX8_cellRows 4 = .ok (.iconst 4, 1) := by decide +kernel
theorem dX8_cellRows_5 : decode cX8_cellRows 5 = .ok (.iadd, 1) := by decide +kernel
theorem dX8_cellRows_6 : decode cX8_cellRows 6 = .ok (.iconst 1, 1) := by decide +kernel
theorem dX8_cellRows_7 : decode cX8_cellRows 7 = .ok (.isub, 1) := by decide +kernel
theorem dX8_cellRows_8 : decode cX8_cellRows 8 = .ok (.iconst 4, 1) := by decide +kernel
theorem dX8_cellRows_9 : decode cX8_cellRows 9 = .ok (.idiv, 1) := by decide +kernel
theorem dX8_cellRows_10 : decode cX8_cellRows 10 = .ok (.ireturn, 1) := by decide +kernel
theorem dX8_look_0 : decode cX8_look 0 = .ok (.iload_n 2, 1) := by decide +kernel
theorem dX8_look_1 : decode cX8_look 1 = .ok (.ifCond .eq 16, 3) := by decide +kernel
theorem dX8_look_4 : decode cX8_look 4 = .ok (.aload_n 0, 1) := by decide +kernel
theorem dX8_look_5 : decode cX8_look 5 = .ok (.getfield 30, 3) := by decide +kernel
theorem dX8_look_8 : decode cX8_look 8 = .ok (.aload_n 1, 1) := by decide +kernel
theorem dX8_look_9 : decode cX8_look 9 = .ok (.iconst 1, 1) := by decide +kernel
theorem dX8_look_10 : decode cX8_look 10 = .ok (.iconst 1, 1) := by decide +kernel
theorem dX8_look_11 : decode cX8_look 11 = .ok (.invokevirtual 79, 3) := by decide +kernel
theorem dX8_look_14 : decode cX8_look 14 = .ok (.goto 11, 3) := by decide +kernel
theorem dX8_look_17 : decode cX8_look 17 = .ok (.aload_n 0, 1) := by decide +kernel
theorem dX8_look_18 : decode cX8_look 18 = .ok (.getfield 30, 3) := by decide +kernel
theorem dX8_look_21 : decode cX8_look 21 = .ok (.aload_n 1, 1) := by decide +kernel
theorem dX8_look_22 : decode cX8_look 22 = .ok (.invokevirtual 83, 3) := by decide +kernel
theorem dX8_look_25 : decode cX8_look 25 = .ok (.iconst 0, 1) := by decide +kernel
theorem dX8_look_26 : decode cX8_look 26 = .ok (.istore 4, 2) := by decide +kernel
theorem dX8_look_28 : decode cX8_look 28 = .ok (.iload 4, 2) := by decide +kernel
theorem dX8_look_30 : decode cX8_look 30 = .ok (.aload_n 0, 1) := by decide +kernel
theorem dX8_look_31 : decode cX8_look 31 = .ok (.getfield 22, 3) := by decide +kernel
theorem dX8_look_34 : decode cX8_look 34 = .ok (.if_icmp .ge 40, 3) := by decide +kernel
theorem dX8_look_37 : decode cX8_look 37 = .ok (.aload_n 0, 1) := by decide +kernel
theorem dX8_look_38 : decode cX8_look 38 = .ok (.getfield 34, 3) := by decide +kernel
theorem dX8_look_41 : decode cX8_look 41 = .ok (.iload 4, 2) := by decide +kernel
theorem dX8_look_43 : decode cX8_look 43 = .ok (.aload_n 0, 1) := by decide +kernel
theorem dX8_look_44 : decode cX8_look 44 = .ok (.getfield 30, 3) := by decide +kernel
theorem dX8_look_47 : decode cX8_look 47 = .ok (.iload 4, 2) := by decide +kernel
theorem dX8_look_49 : decode cX8_look 49 = .ok (.invokevirtual 87, 3) := by decide +kernel
theorem dX8_look_52 : decode cX8_look 52 = .ok (.iload_n 3, 1) := by decide +kernel
theorem dX8_look_53 : decode cX8_look 53 = .ok (.iload 4, 2) := by decide +kernel
theorem dX8_look_55 : decode cX8_look 55 = .ok (.imul, 1) := by decide +kernel
theorem dX8_look_56 : decode cX8_look 56 = .ok (.bipush 16, 2) := by decide +kernel
theorem dX8_look_58 : decode cX8_look 58 = .ok (.invokestatic 91, 3) := by decide +kernel
theorem dX8_look_61 : decode cX8_look 61 = .ok (.ineg, 1) := by decide +kernel
theorem dX8_look_62 : decode cX8_look 62 = .ok (.invokestatic 97, 3) := by decide +kernel
theorem dX8_look_65 : decode cX8_look 65 = .ok (.invokevirtual 101, 3) := by decide +kernel
theorem dX8_look_68 : decode cX8_look 68 = .ok (.iinc 4 1, 3) := by decide +kernel
theorem dX8_look_71 : decode cX8_look 71 = .ok (.goto (-43), 3) := by decide +kernel
theorem dX8_look_74 : decode cX8_look 74 = .ok (.return_, 1) := by decide +kernel
theorem dX8_findCoarse_0 : decode cX8_findCoarse 0 = .ok (.aload_n 0, 1) := by decide +kernel
theorem dX8_findCoarse_1 : decode cX8_findCoarse 1 = .ok (.ldc 41, 2) := by decide +kernel
theorem dX8_findCoarse_3 : decode cX8_findCoarse 3 = .ok (.putfield 63, 3) := by decide +kernel
theorem dX8_findCoarse_6 : decode cX8_findCoarse 6 = .ok (.iload_n 1, 1) := by decide +kernel
theorem dX8_findCoarse_7 : decode cX8_findCoarse 7 = .ok (.ineg, 1) := by decide +kernel
theorem dX8_findCoarse_8 : decode cX8_findCoarse 8 = .ok (.istore_n 2, 1) := by decide +kernel
theorem dX8_findCoarse_9 : decode cX8_findCoarse 9 = .ok (.iload_n 2, 1) := by decide +kernel
theorem dX8_findCoarse_10 : decode cX8_findCoarse 10 = .ok (.iload_n 1, 1) := by decide +kernel
theorem dX8_findCoarse_11 : decode cX8_findCoarse 11 = .ok (.if_icmp .gt 35, 3) := by decide +kernel
theorem dX8_findCoarse_14 : decode cX8_findCoarse 14 = .ok (.iload_n 1, 1) := by decide +kernel
theorem dX8_findCoarse_15 : decode cX8_findCoarse 15 = .ok (.ineg, 1) := by decide +kernel
theorem dX8_findCoarse_16 : decode cX8_findCoarse 16 = .ok (.istore_n 3, 1) := by decide +kernel
theorem dX8_findCoarse_17 : decode cX8_findCoarse 17 = .ok (.iload_n 3, 1) := by decide +kernel
theorem dX8_findCoarse_18 : decode cX8_findCoarse 18 = .ok (.iload_n 1, 1) := by decide +kernel
theorem dX8_findCoarse_19 : decode cX8_findCoarse 19 = .ok (.if_icmp .gt 21, 3) := by decide +kernel
theorem dX8_findCoarse_22 : decode cX8_findCoarse 22 = .ok (.aload_n 0, 1) := by decide +kernel
theorem dX8_findCoarse_23 : decode cX8_findCoarse 23 = .ok (.iload_n 3, 1) := by decide +kernel
theorem dX8_findCoarse_24 : decode cX8_findCoarse 24 = .ok (.iload_n 2, 1) := by decide +kernel
theorem dX8_findCoarse_25 : decode cX8_findCoarse 25 = .ok (.aload_n 0, 1) := by decide +kernel
theorem dX8_findCoarse_26 : decode cX8_findCoarse 26 = .ok (.iload_n 3, 1) := by decide +kernel
theorem dX8_findCoarse_27 : decode cX8_findCoarse 27 = .ok (.iload_n 2, 1) := by decide +kernel
theorem dX8_findCoarse_28 : decode cX8_findCoarse 28 = .ok (.invokevirtual 116, 3) := by decide +kernel
theorem dX8_findCoarse_31 : decode cX8_findCoarse 31 = .ok (.invokevirtual 119, 3) := by decide +kernel
theorem dX8_findCoarse_34 : decode cX8_findCoarse 34 = .ok (.iinc 3 1, 3) := by decide +kernel
theorem dX8_findCoarse_37 : decode cX8_findCoarse 37 = .ok (.goto (-20), 3) := by decide +kernel
theorem dX8_findCoarse_40 : decode cX8_findCoarse 40 = .ok (.iinc 2 1, 3) := by decide +kernel
theorem dX8_findCoarse_43 : decode cX8_findCoarse 43 = .ok (.goto (-34), 3) := by decide +kernel
theorem dX8_findCoarse_46 : decode cX8_findCoarse 46 = .ok (.return_, 1) := by decide +kernel
theorem dX8_coarseCost_0 : decode cX8_coarseCost 0 = .ok (.aload_n 0, 1) := by decide +kernel
theorem dX8_coarseCost_1 : decode cX8_coarseCost 1 = .ok (.invokevirtual 105, 3) := by decide +kernel
theorem dX8_coarseCost_4 : decode cX8_coarseCost 4 = .ok (.istore_n 3, 1) := by decide +kernel
theorem dX8_coarseCost_5 : decode cX8_coarseCost 5 = .ok (.aload_n 0, 1) := by decide +kernel
theorem dX8_coarseCost_6 : decode cX8_coarseCost 6 = .ok (.invokevirtual 109, 3) := by decide +kernel
theorem dX8_coarseCost_9 : decode cX8_coarseCost 9 = .ok (.istore 4, 2) := by decide +kernel
theorem dX8_coarseCost_11 : decode cX8_coarseCost 11 = .ok (.iconst 0, 1) := by decide +kernel
theorem dX8_coarseCost_12 : decode cX8_coarseCost 12 = .ok (.istore 5, 2) := by decide +kernel
theorem dX8_coarseCost_14 : decode cX8_coarseCost 14 = .ok (.iconst 0, 1) := by decide +kernel
theorem dX8_coarseCost_15 : decode cX8_coarseCost 15 = .ok (.istore 6, 2) := by decide +kernel
theorem dX8_coarseCost_17 : decode cX8_coarseCost 17 = .ok (.iload 6, 2) := by decide +kernel
theorem dX8_coarseCost_19 : decode cX8_coarseCost 19 = .ok (.iload 4, 2) := by decide +kernel
theorem dX8_coarseCost_21 : decode cX8_coarseCost 21 = .ok (.if_icmp .ge 116, 3) := by decide +kernel
theorem dX8_coarseCost_24 : decode cX8_coarseCost 24 = .ok (.iload 6, 2) := by decide +kernel
theorem dX8_coarseCost_26 : decode cX8_coarseCost 26 = .ok (.iload_n 2, 1) := by decide +kernel
theorem dX8_coarseCost_27 : decode cX8_coarseCost 27 = .ok (.iadd, 1) := by decide +kernel
theorem dX8_coarseCost_28 : decode cX8_coarseCost 28 = .ok (.ifCond .lt 16, 3) := by decide +kernel
theorem dX8_coarseCost_31 : decode cX8_coarseCost 31 = .ok (.iload 6, 2) := by decide +kernel
theorem dX8_coarseCost_33 : decode cX8_coarseCost 33 = .ok (.iload_n 2, 1) := by decide +kernel
theorem dX8_coarseCost_34 : decode cX8_coarseCost 34 = .ok (.iadd, 1) := by decide +kernel
theorem dX8_coarseCost_35 : decode cX8_coarseCost 35 = .ok (.iload 4, 2) := by decide +kernel
theorem dX8_coarseCost_37 : decode cX8_coarseCost 37 = .ok (.if_icmp .ge 7, 3) := by decide +kernel
theorem dX8_coarseCost_40 : decode cX8_coarseCost 40 = .ok (.iconst 1, 1) := by decide +kernel
theorem dX8_coarseCost_41 : decode cX8_coarseCost 41 = .ok (.goto 4, 3) := by decide +kernel
theorem dX8_coarseCost_44 : decode cX8_coarseCost 44 = .ok (.iconst 0, 1) := by decide +kernel
theorem dX8_coarseCost_45 : decode cX8_coarseCost 45 = .ok (.istore 7, 2) := by decide +kernel
theorem dX8_coarseCost_47 : decode cX8_coarseCost 47 = .ok (.iconst 0, 1) := by decide +kernel
theorem dX8_coarseCost_48 : decode cX8_coarseCost 48 = .ok (.istore 8, 2) := by decide +kernel
theorem dX8_coarseCost_50 : decode cX8_coarseCost 50 = .ok (.iload 8, 2) := by decide +kernel
theorem dX8_coarseCost_52 : decode cX8_coarseCost 52 = .ok (.iload_n 3, 1) := by decide +kernel
theorem dX8_coarseCost_53 : decode cX8_coarseCost 53 = .ok (.if_icmp .ge 78, 3) := by decide +kernel
theorem dX8_coarseCost_56 : decode cX8_coarseCost 56 = .ok (.iload 7, 2) := by decide +kernel
theorem dX8_coarseCost_58 : decode cX8_coarseCost 58 = .ok (.ifCond .eq 39, 3) := by decide +kernel
theorem dX8_coarseCost_61 : decode cX8_coarseCost 61 = .ok (.iload 8, 2) := by decide +kernel
theorem dX8_coarseCost_63 : decode cX8_coarseCost 63 = .ok (.iload_n 1, 1) := by decide +kernel
theorem dX8_coarseCost_64 : decode cX8_coarseCost 64 = .ok (.iadd, 1) := by decide +kernel
theorem dX8_coarseCost_65 : decode cX8_coarseCost 65 = .ok (.ifCond .lt 32, 3) := by decide +kernel
theorem dX8_coarseCost_68 : decode cX8_coarseCost 68 = .ok (.iload 8, 2) := by decide +kernel
theorem dX8_coarseCost_70 : decode cX8_coarseCost 70 = .ok (.iload_n 1, 1) := by decide +kernel
theorem dX8_coarseCost_71 : decode cX8_coarseCost 71 = .ok (.iadd, 1) := by decide +kernel
theorem dX8_coarseCost_72 : decode cX8_coarseCost 72 = .ok (.iload_n 3, 1) := by decide +kernel
theorem dX8_coarseCost_73 : decode cX8_coarseCost 73 = .ok (.if_icmp .ge 24, 3) := by decide +kernel
theorem dX8_coarseCost_76 : decode cX8_coarseCost 76 = .ok (.aload_n 0, 1) := by decide +kernel
theorem dX8_coarseCost_77 : decode cX8_coarseCost 77 = .ok (.getfield 15, 3) := by decide +kernel
theorem dX8_coarseCost_80 : decode cX8_coarseCost 80 = .ok (.iload 6, 2) := by decide +kernel
theorem dX8_coarseCost_82 : decode cX8_coarseCost 82 = .ok (.iload_n 2, 1) := by decide +kernel
theorem dX8_coarseCost_83 : decode cX8_coarseCost 83 = .ok (.iadd, 1) := by decide +kernel
theorem dX8_coarseCost_84 : decode cX8_coarseCost 84 = .ok (.iload_n 3, 1) := by decide +kernel
theorem dX8_coarseCost_85 : decode cX8_coarseCost 85 = .ok (.imul, 1) := by decide +kernel
theorem dX8_coarseCost_86 : decode cX8_coarseCost 86 = .ok (.iload 8, 2) := by decide +kernel
theorem dX8_coarseCost_88 : decode cX8_coarseCost 88 = .ok (.iadd, 1) := by decide +kernel
theorem dX8_coarseCost_89 : decode cX8_coarseCost 89 = .ok (.iload_n 1, 1) := by decide +kernel
theorem dX8_coarseCost_90 : decode cX8_coarseCost 90 = .ok (.iadd, 1) := by decide +kernel
theorem dX8_coarseCost_91 : decode cX8_coarseCost 91 = .ok (.invokestatic 137, 3) := by decide +kernel
theorem dX8_coarseCost_94 : decode cX8_coarseCost 94 = .ok (.goto 4, 3) := by decide +kernel
theorem dX8_coarseCost_97 : decode cX8_coarseCost 97 = .ok (.iconst 0, 1) := by decide +kernel
theorem dX8_coarseCost_98 : decode cX8_coarseCost 98 = .ok (.istore 9, 2) := by decide +kernel
theorem dX8_coarseCost_100 : decode cX8_coarseCost 100 = .ok (.iload 5, 2) := by decide +kernel
theorem dX8_coarseCost_102 : decode cX8_coarseCost 102 = .ok (.aload_n 0, 1) := by decide +kernel
theorem dX8_coarseCost_103 : decode cX8_coarseCost 103 = .ok (.getfield 9, 3) := by decide +kernel
theorem dX8_coarseCost_106 : decode cX8_coarseCost 106 = .ok (.iload 6, 2) := by decide +kernel
theorem dX8_coarseCost_108 : decode cX8_coarseCost 108 = .ok (.iload_n 3, 1) := by decide +kernel
theorem dX8_coarseCost_109 : decode cX8_coarseCost 109 = .ok (.imul, 1) := by decide +kernel
theorem dX8_coarseCost_110 : decode cX8_coarseCost 110 = .ok (.iload 8, 2) := by decide +kernel
theorem dX8_coarseCost_112 : decode cX8_coarseCost 112 = .ok (.iadd, 1) := by decide +kernel
theorem dX8_coarseCost_113 : decode cX8_coarseCost 113 = .ok (.invokestatic 137, 3) := by decide +kernel
theorem dX8_coarseCost_116 : decode cX8_coarseCost 116 = .ok (.iload 9, 2) := by decide +kernel
theorem dX8_coarseCost_118 : decode cX8_coarseCost 118 = .ok (.isub, 1) := by decide +kernel
theorem dX8_coarseCost_119 : decode cX8_coarseCost 119 = .ok (.invokestatic 133, 3) := by decide +kernel
theorem dX8_coarseCost_122 : decode cX8_coarseCost 122 = .ok (.iadd, 1) := by decide +kernel
theorem dX8_coarseCost_123 : decode cX8_coarseCost 123 = .ok (.istore 5, 2) := by decide +kernel
theorem dX8_coarseCost_125 : decode cX8_coarseCost 125 = .ok (.iinc 8 1, 3) := by decide +kernel
theorem dX8_coarseCost_128 : decode cX8_coarseCost 128 = .ok (.goto (-78), 3) := by decide +kernel
theorem dX8_coarseCost_131 : decode cX8_coarseCost 131 = .ok (.iinc 6 1, 3) := by decide +kernel
theorem dX8_coarseCost_134 : decode cX8_coarseCost 134 = .ok (.goto (-117), 3) := by decide +kernel
theorem dX8_coarseCost_137 : decode cX8_coarseCost 137 = .ok (.iload 5, 2) := by decide +kernel
theorem dX8_coarseCost_139 : decode cX8_coarseCost 139 = .ok (.ireturn, 1) := by decide +kernel
theorem dX8_countAt_0 : decode cX8_countAt 0 = .ok (.iload_n 1, 1) := by decide +kernel
theorem dX8_countAt_1 : decode cX8_countAt 1 = .ok (.ifCond .lt 15, 3) := by decide +kernel
theorem dX8_countAt_4 : decode cX8_countAt 4 = .ok (.iload_n 1, 1) := by decide +kernel
theorem dX8_countAt_5 : decode cX8_countAt 5 = .ok (.aload_n 0, 1) := by decide +kernel
theorem dX8_countAt_6 : decode cX8_countAt 6 = .ok (.arraylength, 1) := by decide +kernel
theorem dX8_countAt_7 : decode cX8_countAt 7 = .ok (.if_icmp .ge 9, 3) := by decide +kernel
theorem dX8_countAt_10 : decode cX8_countAt 10 = .ok (.aload_n 0, 1) := by decide +kernel
theorem dX8_countAt_11 : decode cX8_countAt 11 = .ok (.iload_n 1, 1) := by decide +kernel
theorem dX8_countAt_12 : decode cX8_countAt 12 = .ok (.iaload, 1) := by decide +kernel
theorem dX8_countAt_13 : decode cX8_countAt 13 = .ok (.goto 4, 3) := by decide +kernel
theorem dX8_countAt_16 : decode cX8_countAt 16 = .ok (.iconst 0, 1) := by decide +kernel
theorem dX8_countAt_17 : decode cX8_countAt 17 = .ok (.ireturn, 1) := by decide +kernel
theorem dX8_offer_0 : decode cX8_offer 0 = .ok (.iload_n 3, 1) := by decide +kernel
theorem dX8_offer_1 : decode cX8_offer 1 = .ok (.aload_n 0, 1) := by decide +kernel
theorem dX8_offer_2 : decode cX8_offer 2 = .ok (.getfield 63, 3) := by decide +kernel
theorem dX8_offer_5 : decode cX8_offer 5 = .ok (.if_icmp .lt 38, 3) := by decide +kernel
theorem dX8_offer_8 : decode cX8_offer 8 = .ok (.iload_n 3, 1) := by decide +kernel
theorem dX8_offer_9 : decode cX8_offer 9 = .ok (.aload_n 0, 1) := by decide +kernel
theorem dX8_offer_10 : decode cX8_offer 10 = .ok (.getfield 63, 3) := by decide +kernel
theorem dX8_offer_13 : decode cX8_offer 13 = .ok (.if_icmp .ne 45, 3) := by decide +kernel
theorem dX8_offer_16 : decode cX8_offer 16 = .ok (.iload_n 1, 1) := by decide +kernel
theorem dX8_offer_17 : decode cX8_offer 17 = .ok (.invokestatic 133, 3) := by decide +kernel
theorem dX8_offer_20 : decode cX8_offer 20 = .ok (.iload_n 2, 1) := by decide +kernel
theorem dX8_offer_21 : decode cX8_offer 21 = .ok (.invokestatic 133, 3) := by decide +kernel
theorem dX8_offer_24 : decode cX8_offer 24 = .ok (.iadd, 1) := by decide +kernel
theorem dX8_offer_25 : decode cX8_offer 25 = .ok (.aload_n 0, 1) := by decide +kernel
theorem dX8_offer_26 : decode cX8_offer 26 = .ok (.getfield 53, 3) := by decide +kernel
theorem dX8_offer_29 : decode cX8_offer 29 = .ok (.invokestatic 133, 3) := by decide +kernel
theorem dX8_offer_32 : decode cX8_offer 32 = .ok (.aload_n 0, 1) := by decide +kernel
theorem dX8_offer_33 : decode cX8_offer 33 = .ok (.getfield 56, 3) := by decide +kernel
theorem dX8_offer_36 : decode cX8_offer 36 = .ok (.invokestatic 133, 3) := by decide +kernel
theorem dX8_offer_39 : decode cX8_offer 39 = .ok (.iadd, 1) := by decide +kernel
theorem dX8_offer_40 : decode cX8_offer 40 = .ok (.if_icmp .ge 18, 3) := by decide +kernel
theorem dX8_offer_43 : decode cX8_offer 43 = .ok (.aload_n 0, 1) := by decide +kernel
theorem dX8_offer_44 : decode cX8_offer 44 = .ok (.iload_n 1, 1) := by decide +kernel
theorem dX8_offer_45 : decode cX8_offer 45 = .ok (.putfield 53, 3) := by decide +kernel
theorem dX8_offer_48 : decode cX8_offer 48 = .ok (.aload_n 0, 1) := by decide +kernel
theorem dX8_offer_49 : decode cX8_offer 49 = .ok (.iload_n 2, 1) := by decide +kernel
theorem dX8_offer_50 : decode cX8_offer 50 = .ok (.putfield 56, 3) := by decide +kernel
theorem dX8_offer_53 : decode cX8_offer 53 = .ok (.aload_n 0, 1) := by decide +kernel
theorem dX8_offer_54 : decode cX8_offer 54 = .ok (.iload_n 3, 1) := by decide +kernel
theorem dX8_offer_55 : decode cX8_offer 55 = .ok (.putfield 63, 3) := by decide +kernel
theorem dX8_offer_58 : decode cX8_offer 58 = .ok (.return_, 1) := by decide +kernel
theorem dX8_findFine_0 : decode cX8_findFine 0 = .ok (.iload 4, 2) := by decide +kernel
theorem dX8_findFine_2 : decode cX8_findFine 2 = .ok (.ineg, 1) := by decide +kernel
theorem dX8_findFine_3 : decode cX8_findFine 3 = .ok (.iload_n 2, 1) := by decide +kernel
theorem dX8_findFine_4 : decode cX8_findFine 4 = .ok (.iconst 4, 1) := by decide +kernel
theorem dX8_findFine_5 : decode cX8_findFine 5 = .ok (.isub, 1) := by decide +kernel
theorem dX8_findFine_6 : decode cX8_findFine 6 = .ok (.iconst 1, 1) := by decide +kernel
theorem dX8_findFine_7 : decode cX8_findFine 7 = .ok (.iadd, 1) := by decide +kernel
theorem dX8_findFine_8 : decode cX8_findFine 8 = .ok (.invokestatic 123, 3) := by decide +kernel
theorem dX8_findFine_11 : decode cX8_findFine 11 = .ok (.istore 5, 2) := by decide +kernel
theorem dX8_findFine_13 : decode cX8_findFine 13 = .ok (.iload 4, 2) := by decide +kernel
theorem dX8_findFine_15 : decode cX8_findFine 15 = .ok (.iload_n 2, 1) := by decide +kernel
theorem dX8_findFine_16 : decode cX8_findFine 16 = .ok (.iconst 4, 1) := by decide +kernel
theorem dX8_findFine_17 : decode cX8_findFine 17 = .ok (.iadd, 1) := by decide +kernel
theorem dX8_findFine_18 : decode cX8_findFine 18 = .ok (.iconst 1, 1) := by decide +kernel
theorem dX8_findFine_19 : decode cX8_findFine 19 = .ok (.isub, 1) := by decide +kernel
theorem dX8_findFine_20 : decode cX8_findFine 20 = .ok (.invokestatic 126, 3) := by decide +kernel
theorem dX8_findFine_23 : decode cX8_findFine 23 = .ok (.istore 6, 2) := by decide +kernel
theorem dX8_findFine_25 : decode cX8_findFine 25 = .ok (.iload 4, 2) := by decide +kernel
theorem dX8_findFine_27 : decode cX8_findFine 27 = .ok (.ineg, 1) := by decide +kernel
theorem dX8_findFine_28 : decode cX8_findFine 28 = .ok (.iload_n 3, 1) := by decide +kernel
theorem dX8_findFine_29 : decode cX8_findFine 29 = .ok (.iconst 4, 1) := by decide +kernel
theorem dX8_findFine_30 : decode cX8_findFine 30 = .ok (.isub, 1) := by decide +kernel
theorem dX8_findFine_31 : decode cX8_findFine 31 = .ok (.iconst 1, 1) := by decide +kernel
theorem dX8_findFine_32 : decode cX8_findFine 32 = .ok (.iadd, 1) := by decide +kernel
theorem dX8_findFine_33 : decode cX8_findFine 33 = .ok (.invokestatic 123, 3) := by decide +kernel
theorem dX8_findFine_36 : decode cX8_findFine 36 = .ok (.istore 7, 2) := by decide +kernel
theorem dX8_findFine_38 : decode cX8_findFine 38 = .ok (.iload 4, 2) := by decide +kernel
theorem dX8_findFine_40 : decode cX8_findFine 40 = .ok (.iload_n 3, 1) := by decide +kernel
theorem dX8_findFine_41 : decode cX8_findFine 41 = .ok (.iconst 4, 1) := by decide +kernel
theorem dX8_findFine_42 : decode cX8_findFine 42 = .ok (.iadd, 1) := by decide +kernel
theorem dX8_findFine_43 : decode cX8_findFine 43 = .ok (.iconst 1, 1) := by decide +kernel
theorem dX8_findFine_44 : decode cX8_findFine 44 = .ok (.isub, 1) := by decide +kernel
theorem dX8_findFine_45 : decode cX8_findFine 45 = .ok (.invokestatic 126, 3) := by decide +kernel
theorem dX8_findFine_48 : decode cX8_findFine 48 = .ok (.istore 8, 2) := by decide +kernel
theorem dX8_findFine_50 : decode cX8_findFine 50 = .ok (.aload_n 0, 1) := by decide +kernel
theorem dX8_findFine_51 : decode cX8_findFine 51 = .ok (.ldc 41, 2) := by decide +kernel
theorem dX8_findFine_53 : decode cX8_findFine 53 = .ok (.putfield 63, 3) := by decide +kernel
theorem dX8_findFine_56 : decode cX8_findFine 56 = .ok (.iload 7, 2) := by decide +kernel
theorem dX8_findFine_58 : decode cX8_findFine 58 = .ok (.istore 9, 2) := by decide +kernel
theorem dX8_findFine_60 : decode cX8_findFine 60 = .ok (.iload 9, 2) := by decide +kernel
theorem dX8_findFine_62 : decode cX8_findFine 62 = .ok (.iload 8, 2) := by decide +kernel
theorem dX8_findFine_64 : decode cX8_findFine 64 = .ok (.if_icmp .gt 43, 3) := by decide +kernel
theorem dX8_findFine_67 : decode cX8_findFine 67 = .ok (.iload 5, 2) := by decide +kernel
theorem dX8_findFine_69 : decode cX8_findFine 69 = .ok (.istore 10, 2) := by decide +kernel
theorem dX8_findFine_71 : decode cX8_findFine 71 = .ok (.iload 10, 2) := by decide +kernel
theorem dX8_findFine_73 : decode cX8_findFine 73 = .ok (.iload 6, 2) := by decide +kernel
theorem dX8_findFine_75 : decode cX8_findFine 75 = .ok (.if_icmp .gt 26, 3) := by decide +kernel
theorem dX8_findFine_78 : decode cX8_findFine 78 = .ok (.aload_n 0, 1) := by decide +kernel
theorem dX8_findFine_79 : decode cX8_findFine 79 = .ok (.iload 10, 2) := by decide +kernel
theorem dX8_findFine_81 : decode cX8_findFine 81 = .ok (.iload 9, 2) := by decide +kernel
theorem dX8_findFine_83 : decode cX8_findFine 83 = .ok (.aload_n 0, 1) := by decide +kernel
theorem dX8_findFine_84 : decode cX8_findFine 84 = .ok (.aload_n 1, 1) := by decide +kernel
theorem dX8_findFine_85 : decode cX8_findFine 85 = .ok (.iload 10, 2) := by decide +kernel
theorem dX8_findFine_87 : decode cX8_findFine 87 = .ok (.iload 9, 2) := by decide +kernel
theorem dX8_findFine_89 : decode cX8_findFine 89 = .ok (.invokevirtual 129, 3) := by decide +kernel
theorem dX8_findFine_92 : decode cX8_findFine 92 = .ok (.invokevirtual 119, 3) := by decide +kernel
theorem dX8_findFine_95 : decode cX8_findFine 95 = .ok (.iinc 10 1, 3) := by decide +kernel
theorem dX8_findFine_98 : decode cX8_findFine 98 = .ok (.goto (-27), 3) := by decide +kernel
theorem dX8_findFine_101 : decode cX8_findFine 101 = .ok (.iinc 9 1, 3) := by decide +kernel
theorem dX8_findFine_104 : decode cX8_findFine 104 = .ok (.goto (-44), 3) := by decide +kernel
theorem dX8_findFine_107 : decode cX8_findFine 107 = .ok (.return_, 1) := by decide +kernel
theorem dX8_costOf_0 : decode cX8_costOf 0 = .ok (.aload_n 0, 1) := by decide +kernel
theorem dX8_costOf_1 : decode cX8_costOf 1 = .ok (.getfield 18, 3) := by decide +kernel
theorem dX8_costOf_4 : decode cX8_costOf 4 = .ok (.invokestatic 141, 3) := by decide +kernel
theorem dX8_costOf_7 : decode cX8_costOf 7 = .ok (.lstore 4, 2) := by decide +kernel
theorem dX8_costOf_9 : decode cX8_costOf 9 = .ok (.iconst 0, 1) := by decide +kernel
theorem dX8_costOf_10 : decode cX8_costOf 10 = .ok (.istore 6, 2) := by decide +kernel
theorem dX8_costOf_12 : decode cX8_costOf 12 = .ok (.iconst 0, 1) := by decide +kernel
theorem dX8_costOf_13 : decode cX8_costOf 13 = .ok (.istore 7, 2) := by decide +kernel
theorem dX8_costOf_15 : decode cX8_costOf 15 = .ok (.iload 7, 2) := by decide +kernel
theorem dX8_costOf_17 : decode cX8_costOf 17 = .ok (.aload_n 0, 1) := by decide +kernel
theorem dX8_costOf_18 : decode cX8_costOf 18 = .ok (.getfield 22, 3) := by decide +kernel
theorem dX8_costOf_21 : decode cX8_costOf 21 = .ok (.if_icmp .ge 47, 3) := by decide +kernel
theorem dX8_costOf_24 : decode cX8_costOf 24 = .ok (.aload_n 0, 1) := by decide +kernel
theorem dX8_costOf_25 : decode cX8_costOf 25 = .ok (.getfield 34, 3) := by decide +kernel
theorem dX8_costOf_28 : decode cX8_costOf 28 = .ok (.iload 7, 2) := by decide +kernel
theorem dX8_costOf_30 : decode cX8_costOf 30 = .ok (.iload_n 3, 1) := by decide +kernel
theorem dX8_costOf_31 : decode cX8_costOf 31 = .ok (.iadd, 1) := by decide +kernel
theorem dX8_costOf_32 : decode cX8_costOf 32 = .ok (.invokevirtual 87, 3) := by decide +kernel
theorem dX8_costOf_35 : decode cX8_costOf 35 = .ok (.iload_n 2, 1) := by decide +kernel
theorem dX8_costOf_36 : decode cX8_costOf 36 = .ok (.ineg, 1) := by decide +kernel
theorem dX8_costOf_37 : decode cX8_costOf 37 = .ok (.invokestatic 97, 3) := by decide +kernel
theorem dX8_costOf_40 : decode cX8_costOf 40 = .ok (.lload 4, 2) := by decide +kernel
theorem dX8_costOf_42 : decode cX8_costOf 42 = .ok (.land, 1) := by decide +kernel
theorem dX8_costOf_43 : decode cX8_costOf 43 = .ok (.lstore 8, 2) := by decide +kernel
theorem dX8_costOf_45 : decode cX8_costOf 45 = .ok (.iload 6, 2) := by decide +kernel
theorem dX8_costOf_47 : decode cX8_costOf 47 = .ok (.aload_n 1, 1) := by decide +kernel
theorem dX8_costOf_48 : decode cX8_costOf 48 = .ok (.iload 7, 2) := by decide +kernel
theorem dX8_costOf_50 : decode cX8_costOf 50 = .ok (.invokevirtual 87, 3) := by decide +kernel
theorem dX8_costOf_53 : decode cX8_costOf 53 = .ok (.lload 8, 2) := by decide +kernel
theorem dX8_costOf_55 : decode cX8_costOf 55 = .ok (.lxor, 1) := by decide +kernel
theorem dX8_costOf_56 : decode cX8_costOf 56 = .ok (.invokestatic 144, 3) := by decide +kernel
theorem dX8_costOf_59 : decode cX8_costOf 59 = .ok (.iadd, 1) := by decide +kernel
theorem dX8_costOf_60 : decode cX8_costOf 60 = .ok (.istore 6, 2) := by decide +kernel
theorem dX8_costOf_62 : decode cX8_costOf 62 = .ok (.iinc 7 1, 3) := by decide +kernel
theorem dX8_costOf_65 : decode cX8_costOf 65 = .ok (.goto (-50), 3) := by decide +kernel
theorem dX8_costOf_68 : decode cX8_costOf 68 = .ok (.iload 6, 2) := by decide +kernel
theorem dX8_costOf_70 : decode cX8_costOf 70 = .ok (.ireturn, 1) := by decide +kernel
theorem dX7_init_0 : decode cX7_init 0 = .ok (.aload_n 0, 1) := by decide +kernel
theorem dX7_init_1 : decode cX7_init 1 = .ok (.invokespecial 1, 3) := by decide +kernel
theorem dX7_init_4 : decode cX7_init 4 = .ok (.aload_n 0, 1) := by decide +kernel
theorem dX7_init_5 : decode cX7_init 5 = .ok (.new 7, 3) := by decide +kernel
theorem dX7_init_8 : decode cX7_init 8 = .ok (.dup, 1) := by decide +kernel
theorem dX7_init_9 : decode cX7_init 9 = .ok (.iconst 0, 1) := by decide +kernel
theorem dX7_init_10 : decode cX7_init 10 = .ok (.invokespecial 9, 3) := by decide +kernel
theorem dX7_init_13 : decode cX7_init 13 = .ok (.putfield 12, 3) := by decide +kernel
theorem dX7_init_16 : decode cX7_init 16 = .ok (.aload_n 0, 1) := by decide +kernel
theorem dX7_init_17 : decode cX7_init 17 = .ok (.new 7, 3) := by decide +kernel
theorem dX7_init_20 : decode cX7_init 20 = .ok (.dup, 1) := by decide +kernel
theorem dX7_init_21 : decode cX7_init 21 = .ok (.iconst 1, 1) := by decide +kernel
theorem dX7_init_22 : decode cX7_init 22 = .ok (.invokespecial 9, 3) := by decide +kernel
theorem dX7_init_25 : decode cX7_init 25 = .ok (.putfield 18, 3) := by decide +kernel
theorem dX7_init_28 : decode cX7_init 28 = .ok (.return_, 1) := by decide +kernel
theorem dX5_begin_0 : decode cX5_begin 0 = .ok (.iconst 0, 1) := by decide +kernel
theorem dX5_begin_1 : decode cX5_begin 1 = .ok (.istore_n 1, 1) := by decide +kernel
theorem dX5_begin_2 : decode cX5_begin 2 = .ok (.iload_n 1, 1) := by decide +kernel
theorem dX5_begin_3 : decode cX5_begin 3 = .ok (.aload_n 0, 1) := by decide +kernel
theorem dX5_begin_4 : decode cX5_begin 4 = .ok (.getfield 9, 3) := by decide +kernel
theorem dX5_begin_7 : decode cX5_begin 7 = .ok (.arraylength, 1) := by decide +kernel
theorem dX5_begin_8 : decode cX5_begin 8 = .ok (.if_icmp .ge 16, 3) := by decide +kernel
theorem dX5_begin_11 : decode cX5_begin 11 = .ok (.aload_n 0, 1) := by decide +kernel
theorem dX5_begin_12 : decode cX5_begin 12 = .ok (.getfield 9, 3) := by decide +kernel
theorem dX5_begin_15 : decode cX5_begin 15 = .ok (.iload_n 1, 1) := by decide +kernel
theorem dX5_begin_16 : decode cX5_begin 16 = .ok (.lconst 0, 1) := by decide +kernel
theorem dX5_begin_17 : decode cX5_begin 17 = .ok (.lastore, 1) := by decide +kernel
theorem dX5_begin_18 : decode cX5_begin 18 = .ok (.iinc 1 1, 3) := by decide +kernel
theorem dX5_begin_21 : decode cX5_begin 21 = .ok (.goto (-19), 3) := by decide +kernel
theorem dX5_begin_24 : decode cX5_begin 24 = .ok (.aload_n 0, 1) := by decide +kernel
theorem dX5_begin_25 : decode cX5_begin 25 = .ok (.aconst_null, 1) := by decide +kernel
theorem dX5_begin_26 : decode cX5_begin 26 = .ok (.putfield 19, 3) := by decide +kernel
theorem dX5_begin_29 : decode cX5_begin 29 = .ok (.return_, 1) := by decide +kernel
theorem dX5_takeRow_0 : decode cX5_takeRow 0 = .ok (.iload_n 1, 1) := by decide +kernel
theorem dX5_takeRow_1 : decode cX5_takeRow 1 = .ok (.ifCond .lt 19, 3) := by decide +kernel
theorem dX5_takeRow_4 : decode cX5_takeRow 4 = .ok (.iload_n 1, 1) := by decide +kernel
theorem dX5_takeRow_5 : decode cX5_takeRow 5 = .ok (.aload_n 0, 1) := by decide +kernel
theorem dX5_takeRow_6 : decode cX5_takeRow 6 = .ok (.getfield 9, 3) := by decide +kernel
theorem dX5_takeRow_9 : decode cX5_takeRow 9 = .ok (.arraylength, 1) := by decide +kernel
theorem dX5_takeRow_10 : decode cX5_takeRow 10 = .ok (.if_icmp .ge 10, 3) := by decide +kernel
theorem dX5_takeRow_13 : decode cX5_takeRow 13 = .ok (.aload_n 0, 1) := by decide +kernel
theorem dX5_takeRow_14 : decode cX5_takeRow 14 = .ok (.getfield 9, 3) := by decide +kernel
theorem dX5_takeRow_17 : decode cX5_takeRow 17 = .ok (.iload_n 1, 1) := by decide +kernel
theorem dX5_takeRow_18 : decode cX5_takeRow 18 = .ok (.lload_n 2, 1) := by decide +kernel
theorem dX5_takeRow_19 : decode cX5_takeRow 19 = .ok (.lastore, 1) := by decide +kernel
theorem dX5_takeRow_20 : decode cX5_takeRow 20 = .ok (.return_, 1) := by decide +kernel
theorem dX7_settle_0 : decode cX7_settle 0 = .ok (.aload_n 0, 1) := by decide +kernel
theorem dX7_settle_1 : decode cX7_settle 1 = .ok (.getfield 12, 3) := by decide +kernel
theorem dX7_settle_4 : decode cX7_settle 4 = .ok (.invokevirtual 21, 3) := by decide +kernel
theorem dX7_settle_7 : decode cX7_settle 7 = .ok (.aload_n 0, 1) := by decide +kernel
theorem dX7_settle_8 : decode cX7_settle 8 = .ok (.getfield 18, 3) := by decide +kernel
theorem dX7_settle_11 : decode cX7_settle 11 = .ok (.invokevirtual 21, 3) := by decide +kernel
theorem dX7_settle_14 : decode cX7_settle 14 = .ok (.aload_n 0, 1) := by decide +kernel
theorem dX7_settle_15 : decode cX7_settle 15 = .ok (.getfield 12, 3) := by decide +kernel
theorem dX7_settle_18 : decode cX7_settle 18 = .ok (.getfield 24, 3) := by decide +kernel
theorem dX7_settle_21 : decode cX7_settle 21 = .ok (.ifCond .le 10, 3) := by decide +kernel
theorem dX7_settle_24 : decode cX7_settle 24 = .ok (.aload_n 0, 1) := by decide +kernel
theorem dX7_settle_25 : decode cX7_settle 25 = .ok (.getfield 12, 3) := by decide +kernel
theorem dX7_settle_28 : decode cX7_settle 28 = .ok (.goto 7, 3) := by decide +kernel
theorem dX7_settle_31 : decode cX7_settle 31 = .ok (.aload_n 0, 1) := by decide +kernel
theorem dX7_settle_32 : decode cX7_settle 32 = .ok (.getfield 18, 3) := by decide +kernel
theorem dX7_settle_35 : decode cX7_settle 35 = .ok (.astore_n 1, 1) := by decide +kernel
theorem dX7_settle_36 : decode cX7_settle 36 = .ok (.aload_n 0, 1) := by decide +kernel
theorem dX7_settle_37 : decode cX7_settle 37 = .ok (.getfield 18, 3) := by decide +kernel
theorem dX7_settle_40 : decode cX7_settle 40 = .ok (.getfield 24, 3) := by decide +kernel
theorem dX7_settle_43 : decode cX7_settle 43 = .ok (.ifCond .le 10, 3) := by decide +kernel
theorem dX7_settle_46 : decode cX7_settle 46 = .ok (.aload_n 0, 1) := by decide +kernel
theorem dX7_settle_47 : decode cX7_settle 47 = .ok (.getfield 18, 3) := by decide +kernel
theorem dX7_settle_50 : decode cX7_settle 50 = .ok (.goto 7, 3) := by decide +kernel
theorem dX7_settle_53 : decode cX7_settle 53 = .ok (.aload_n 0, 1) := by decide +kernel
theorem dX7_settle_54 : decode cX7_settle 54 = .ok (.getfield 12, 3) := by decide +kernel
theorem dX7_settle_57 : decode cX7_settle 57 = .ok (.astore_n 2, 1) := by decide +kernel
theorem dX7_settle_58 : decode cX7_settle 58 = .ok (.aload_n 0, 1) := by decide +kernel
theorem dX7_settle_59 : decode cX7_settle 59 = .ok (.aload_n 1, 1) := by decide +kernel
theorem dX7_settle_60 : decode cX7_settle 60 = .ok (.getfield 28, 3) := by decide +kernel
theorem dX7_settle_63 : decode cX7_settle 63 = .ok (.aload_n 2, 1) := by decide +kernel
theorem dX7_settle_64 : decode cX7_settle 64 = .ok (.getfield 28, 3) := by decide +kernel
theorem dX7_settle_67 : decode cX7_settle 67 = .ok (.invokestatic 31, 3) := by decide +kernel
theorem dX7_settle_70 : decode cX7_settle 70 = .ok (.putfield 37, 3) := by decide +kernel
theorem dX7_settle_73 : decode cX7_settle 73 = .ok (.aload_n 0, 1) := by decide +kernel
theorem dX7_settle_74 : decode cX7_settle 74 = .ok (.aload_n 1, 1) := by decide +kernel
theorem dX7_settle_75 : decode cX7_settle 75 = .ok (.getfield 38, 3) := by decide +kernel
theorem dX7_settle_78 : decode cX7_settle 78 = .ok (.aload_n 2, 1) := by decide +kernel
theorem dX7_settle_79 : decode cX7_settle 79 = .ok (.getfield 38, 3) := by decide +kernel
theorem dX7_settle_82 : decode cX7_settle 82 = .ok (.invokestatic 31, 3) := by decide +kernel
theorem dX7_settle_85 : decode cX7_settle 85 = .ok (.putfield 41, 3) := by decide +kernel
theorem dX7_settle_88 : decode cX7_settle 88 = .ok (.aload_n 0, 1) := by decide +kernel
theorem dX7_settle_89 : decode cX7_settle 89 = .ok (.aload_n 1, 1) := by decide +kernel
theorem dX7_settle_90 : decode cX7_settle 90 = .ok (.getfield 28, 3) := by decide +kernel
theorem dX7_settle_93 : decode cX7_settle 93 = .ok (.aload_n 1, 1) := by decide +kernel
theorem dX7_settle_94 : decode cX7_settle 94 = .ok (.getfield 42, 3) := by decide +kernel
theorem dX7_settle_97 : decode cX7_settle 97 = .ok (.iadd, 1) := by decide +kernel
theorem dX7_settle_98 : decode cX7_settle 98 = .ok (.aload_n 2, 1) := by decide +kernel
theorem dX7_settle_99 : decode cX7_settle 99 = .ok (.getfield 28, 3) := by decide +kernel
theorem dX7_settle_102 : decode cX7_settle 102 = .ok (.aload_n 2, 1) := by decide +kernel
theorem dX7_settle_103 : decode cX7_settle 103 = .ok (.getfield 42, 3) := by decide +kernel
theorem dX7_settle_106 : decode cX7_settle 106 = .ok (.iadd, 1) := by decide +kernel
theorem dX7_settle_107 : decode cX7_settle 107 = .ok (.invokestatic 45, 3) := by decide +kernel
theorem dX7_settle_110 : decode cX7_settle 110 = .ok (.iconst 1, 1) := by decide +kernel
theorem dX7_settle_111 : decode cX7_settle 111 = .ok (.isub, 1) := by decide +kernel
theorem dX7_settle_112 : decode cX7_settle 112 = .ok (.putfield 48, 3) := by decide +kernel
theorem dX7_settle_115 : decode cX7_settle 115 = .ok (.aload_n 0, 1) := by decide +kernel
theorem dX7_settle_116 : decode cX7_settle 116 = .ok (.aload_n 1, 1) := by decide +kernel
theorem dX7_settle_117 : decode cX7_settle 117 = .ok (.getfield 38, 3) := by decide +kernel
theorem dX7_settle_120 : decode cX7_settle 120 = .ok (.aload_n 1, 1) := by decide +kernel
theorem dX7_settle_121 : decode cX7_settle 121 = .ok (.getfield 51, 3) := by decide +kernel
theorem dX7_settle_124 : decode cX7_settle 124 = .ok (.iadd, 1) := by decide +kernel
theorem dX7_settle_125 : decode cX7_settle 125 = .ok (.aload_n 2, 1) := by decide +kernel
theorem dX7_settle_126 : decode cX7_settle 126 = .ok (.getfield 38, 3) := by decide +kernel
theorem dX7_settle_129 : decode cX7_settle 129 = .ok (.aload_n 2, 1) := by decide +kernel
theorem dX7_settle_130 : decode cX7_settle 130 = .ok (.getfield 51, 3) := by decide +kernel
theorem dX7_settle_133 : decode cX7_settle 133 = .ok (.iadd, 1) := by decide +kernel
theorem dX7_settle_134 : decode cX7_settle 134 = .ok (.invokestatic 45, 3) := by decide +kernel
theorem dX7_settle_137 : decode cX7_settle 137 = .ok (.iconst 1, 1) := by decide +kernel
theorem dX7_settle_138 : decode cX7_settle 138 = .ok (.isub, 1) := by decide +kernel
theorem dX7_settle_139 : decode cX7_settle 139 = .ok (.putfield 54, 3) := by decide +kernel
theorem dX7_settle_142 : decode cX7_settle 142 = .ok (.return_, 1) := by decide +kernel
theorem dX5_settle_0 : decode cX5_settle 0 = .ok (.lconst 0, 1) := by decide +kernel
theorem dX5_settle_1 : decode cX5_settle 1 = .ok (.lstore_n 1, 1) := by decide +kernel
theorem dX5_settle_2 : decode cX5_settle 2 = .ok (.iconst (-1), 1) := by decide +kernel
theorem dX5_settle_3 : decode cX5_settle 3 = .ok (.istore_n 3, 1) := by decide +kernel
theorem dX5_settle_4 : decode cX5_settle 4 = .ok (.aload_n 0, 1) := by decide +kernel
theorem dX5_settle_5 : decode cX5_settle 5 = .ok (.iconst 0, 1) := by decide +kernel
theorem dX5_settle_6 : decode cX5_settle 6 = .ok (.putfield 23, 3) := by decide +kernel
theorem dX5_settle_9 : decode cX5_settle 9 = .ok (.aload_n 0, 1) := by decide +kernel
theorem dX5_settle_10 : decode cX5_settle 10 = .ok (.iconst 0, 1) := by decide +kernel
theorem dX5_settle_11 : decode cX5_settle 11 = .ok (.putfield 27, 3) := by decide +kernel
theorem dX5_settle_14 : decode cX5_settle 14 = .ok (.iconst 0, 1) := by decide +kernel
theorem dX5_settle_15 : decode cX5_settle 15 = .ok (.istore 4, 2) := by decide +kernel
theorem dX5_settle_17 : decode cX5_settle 17 = .ok (.iload 4, 2) := by decide +kernel
theorem dX5_settle_19 : decode cX5_settle 19 = .ok (.aload_n 0, 1) := by decide +kernel
theorem dX5_settle_20 : decode cX5_settle 20 = .ok (.getfield 9, 3) := by decide +kernel
theorem dX5_settle_23 : decode cX5_settle 23 = .ok (.arraylength, 1) := by decide +kernel
theorem dX5_settle_24 : decode cX5_settle 24 = .ok (.if_icmp .ge 73, 3) := by decide +kernel
theorem dX5_settle_27 : decode cX5_settle 27 = .ok (.aload_n 0, 1) := by decide +kernel
theorem dX5_settle_28 : decode cX5_settle 28 = .ok (.getfield 9, 3) := by decide +kernel
theorem dX5_settle_31 : decode cX5_settle 31 = .ok (.iload 4, 2) := by decide +kernel
theorem dX5_settle_33 : decode cX5_settle 33 = .ok (.laload, 1) := by decide +kernel
theorem dX5_settle_34 : decode cX5_settle 34 = .ok (.lconst 0, 1) := by decide +kernel
theorem dX5_settle_35 : decode cX5_settle 35 = .ok (.lcmp, 1) := by decide +kernel
theorem dX5_settle_36 : decode cX5_settle 36 = .ok (.ifCond .eq 55, 3) := by decide +kernel
theorem dX5_settle_39 : decode cX5_settle 39 = .ok (.aload_n 0, 1) := by decide +kernel
theorem dX5_settle_40 : decode cX5_settle 40 = .ok (.aload_n 0, 1) := by decide +kernel
theorem dX5_settle_41 : decode cX5_settle 41 = .ok (.getfield 23, 3) := by decide +kernel
theorem dX5_settle_44 : decode cX5_settle 44 = .ok (.ifCond .ne 8, 3) := by decide +kernel
theorem dX5_settle_47 : decode cX5_settle 47 = .ok (.iload 4, 2) := by decide +kernel
theorem dX5_settle_49 : decode cX5_settle 49 = .ok (.goto 7, 3) := by decide +kernel
theorem dX5_settle_52 : decode cX5_settle 52 = .ok (.aload_n 0, 1) := by decide +kernel
theorem dX5_settle_53 : decode cX5_settle 53 = .ok (.getfield 27, 3) := by decide +kernel
theorem dX5_settle_56 : decode cX5_settle 56 = .ok (.putfield 27, 3) := by decide +kernel
theorem dX5_settle_59 : decode cX5_settle 59 = .ok (.iload 4, 2) := by decide +kernel
theorem dX5_settle_61 : decode cX5_settle 61 = .ok (.istore_n 3, 1) := by decide +kernel
theorem dX5_settle_62 : decode cX5_settle 62 = .ok (.lload_n 1, 1) := by decide +kernel
theorem dX5_settle_63 : decode cX5_settle 63 = .ok (.aload_n 0, 1) := by decide +kernel
theorem dX5_settle_64 : decode cX5_settle 64 = .ok (.getfield 9, 3) := by decide +kernel
theorem dX5_settle_67 : decode cX5_settle 67 = .ok (.iload 4, 2) := by decide +kernel
theorem dX5_settle_69 : decode cX5_settle 69 = .ok (.laload, 1) := by decide +kernel
theorem dX5_settle_70 : decode cX5_settle 70 = .ok (.lor, 1) := by decide +kernel
theorem dX5_settle_71 : decode cX5_settle 71 = .ok (.lstore_n 1, 1) := by decide +kernel
theorem dX5_settle_72 : decode cX5_settle 72 = .ok (.aload_n 0, 1) := by decide +kernel
theorem dX5_settle_73 : decode cX5_settle 73 = .ok (.dup, 1) := by decide +kernel
theorem dX5_settle_74 : decode cX5_settle 74 = .ok (.getfield 23, 3) := by decide +kernel
theorem dX5_settle_77 : decode cX5_settle 77 = .ok (.aload_n 0, 1) := by decide +kernel
theorem dX5_settle_78 : decode cX5_settle 78 = .ok (.getfield 9, 3) := by decide +kernel
theorem dX5_settle_81 : decode cX5_settle 81 = .ok (.iload 4, 2) := by decide +kernel
theorem dX5_settle_83 : decode cX5_settle 83 = .ok (.laload, 1) := by decide +kernel
theorem dX5_settle_84 : decode cX5_settle 84 = .ok (.invokestatic 30, 3) := by decide +kernel
theorem dX5_settle_87 : decode cX5_settle 87 = .ok (.iadd, 1) := by decide +kernel
theorem dX5_settle_88 : decode cX5_settle 88 = .ok (.putfield 23, 3) := by decide +kernel
theorem dX5_settle_91 : decode cX5_settle 91 = .ok (.iinc 4 1, 3) := by decide +kernel
theorem dX5_settle_94 : decode cX5_settle 94 = .ok (.goto (-77), 3) := by decide +kernel
theorem dX5_settle_97 : decode cX5_settle 97 = .ok (.aload_n 0, 1) := by decide +kernel
theorem dX5_settle_98 : decode cX5_settle 98 = .ok (.lload_n 1, 1) := by decide +kernel
theorem dX5_settle_99 : decode cX5_settle 99 = .ok (.invokestatic 36, 3) := by decide +kernel
theorem dX5_settle_102 : decode cX5_settle 102 = .ok (.putfield 39, 3) := by decide +kernel
theorem dX5_settle_105 : decode cX5_settle 105 = .ok (.aload_n 0, 1) := by decide +kernel
theorem dX5_settle_106 : decode cX5_settle 106 = .ok (.lload_n 1, 1) := by decide +kernel
theorem dX5_settle_107 : decode cX5_settle 107 = .ok (.invokestatic 42, 3) := by decide +kernel
theorem dX5_settle_110 : decode cX5_settle 110 = .ok (.aload_n 0, 1) := by decide +kernel
theorem dX5_settle_111 : decode cX5_settle 111 = .ok (.getfield 39, 3) := by decide +kernel
theorem dX5_settle_114 : decode cX5_settle 114 = .ok (.isub, 1) := by decide +kernel
theorem dX5_settle_115 : decode cX5_settle 115 = .ok (.putfield 45, 3) := by decide +kernel
theorem dX5_settle_118 : decode cX5_settle 118 = .ok (.aload_n 0, 1) := by decide +kernel
theorem dX5_settle_119 : decode cX5_settle 119 = .ok (.iload_n 3, 1) := by decide +kernel
theorem dX5_settle_120 : decode cX5_settle 120 = .ok (.ifCond .ge 7, 3) := by decide +kernel
theorem dX5_settle_123 : decode cX5_settle 123 = .ok (.iconst 0, 1) := by decide +kernel
theorem dX5_settle_124 : decode cX5_settle 124 = .ok (.goto 11, 3) := by decide +kernel
theorem dX5_settle_127 : decode cX5_settle 127 = .ok (.iload_n 3, 1) := by decide +kernel
theorem dX5_settle_128 : decode cX5_settle 128 = .ok (.aload_n 0, 1) := by decide +kernel
theorem dX5_settle_129 : decode cX5_settle 129 = .ok (.getfield 27, 3) := by decide +kernel
theorem dX5_settle_132 : decode cX5_settle 132 = .ok (.isub, 1) := by decide +kernel
theorem dX5_settle_133 : decode cX5_settle 133 = .ok (.iconst 1, 1) := by decide +kernel
theorem dX5_settle_134 : decode cX5_settle 134 = .ok (.iadd, 1) := by decide +kernel
theorem dX5_settle_135 : decode cX5_settle 135 = .ok (.putfield 48, 3) := by decide +kernel
theorem dX5_settle_138 : decode cX5_settle 138 = .ok (.iconst 0, 1) := by decide +kernel
theorem dX5_settle_139 : decode cX5_settle 139 = .ok (.istore 4, 2) := by decide +kernel
theorem dX5_settle_141 : decode cX5_settle 141 = .ok (.iload 4, 2) := by decide +kernel
theorem dX5_settle_143 : decode cX5_settle 143 = .ok (.aload_n 0, 1) := by decide +kernel
theorem dX5_settle_144 : decode cX5_settle 144 = .ok (.getfield 9, 3) := by decide +kernel
theorem dX5_settle_147 : decode cX5_settle 147 = .ok (.arraylength, 1) := by decide +kernel
theorem dX5_settle_148 : decode cX5_settle 148 = .ok (.if_icmp .ge 48, 3) := by decide +kernel
theorem dX5_settle_151 : decode cX5_settle 151 = .ok (.aload_n 0, 1) := by decide +kernel
theorem dX5_settle_152 : decode cX5_settle 152 = .ok (.getfield 9, 3) := by decide +kernel
theorem dX5_settle_155 : decode cX5_settle 155 = .ok (.iload 4, 2) := by decide +kernel
theorem dX5_settle_157 : decode cX5_settle 157 = .ok (.iload 4, 2) := by decide +kernel
theorem dX5_settle_159 : decode cX5_settle 159 = .ok (.aload_n 0, 1) := by decide +kernel
theorem dX5_settle_160 : decode cX5_settle 160 = .ok (.getfield 48, 3) := by decide +kernel
theorem dX5_settle_163 : decode cX5_settle 163 = .ok (.if_icmp .ge 25, 3) := by decide +kernel
theorem dX5_settle_166 : decode cX5_settle 166 = .ok (.aload_n 0, 1) := by decide +kernel
theorem dX5_settle_167 : decode cX5_settle 167 = .ok (.aload_n 0, 1) := by decide +kernel
theorem dX5_settle_168 : decode cX5_settle 168 = .ok (.getfield 27, 3) := by decide +kernel
theorem dX5_settle_171 : decode cX5_settle 171 = .ok (.iload 4, 2) := by decide +kernel
theorem dX5_settle_173 : decode cX5_settle 173 = .ok (.iadd, 1) := by decide +kernel
theorem dX5_settle_174 : decode cX5_settle 174 = .ok (.invokevirtual 51, 3) := by decide +kernel
theorem dX5_settle_177 : decode cX5_settle 177 = .ok (.aload_n 0, 1) := by decide +kernel
theorem dX5_settle_178 : decode cX5_settle 178 = .ok (.getfield 39, 3) := by decide +kernel
theorem dX5_settle_181 : decode cX5_settle 181 = .ok (.ineg, 1) := by decide +kernel
theorem dX5_settle_182 : decode cX5_settle 182 = .ok (.invokestatic 55, 3) := by decide +kernel
theorem dX5_settle_185 : decode cX5_settle 185 = .ok (.goto 4, 3) := by decide +kernel
theorem dX5_settle_188 : decode cX5_settle 188 = .ok (.lconst 0, 1) := by decide +kernel
theorem dX5_settle_189 : decode cX5_settle 189 = .ok (.lastore, 1) := by decide +kernel
theorem dX5_settle_190 : decode cX5_settle 190 = .ok (.iinc 4 1, 3) := by decide +kernel
theorem dX5_settle_193 : decode cX5_settle 193 = .ok (.goto (-52), 3) := by decide +kernel
theorem dX5_settle_196 : decode cX5_settle 196 = .ok (.return_, 1) := by decide +kernel
theorem dX5_lowestBit_0 : decode cX5_lowestBit 0 = .ok (.iconst 0, 1) := by decide +kernel
theorem dX5_lowestBit_1 : decode cX5_lowestBit 1 = .ok (.istore_n 2, 1) := by decide +kernel
theorem dX5_lowestBit_2 : decode cX5_lowestBit 2 = .ok (.iload_n 2, 1) := by decide +kernel
theorem dX5_lowestBit_3 : decode cX5_lowestBit 3 = .ok (.bipush 64, 2) := by decide +kernel
theorem dX5_lowestBit_5 : decode cX5_lowestBit 5 = .ok (.if_icmp .ge 19, 3) := by decide +kernel
theorem dX5_lowestBit_8 : decode cX5_lowestBit 8 = .ok (.lload_n 0, 1) := by decide +kernel
theorem dX5_lowestBit_9 : decode cX5_lowestBit 9 = .ok (.iload_n 2, 1) := by decide +kernel
theorem dX5_lowestBit_10 : decode cX5_lowestBit 10 = .ok (.lushr, 1) := by decide +kernel
theorem dX5_lowestBit_11 : decode cX5_lowestBit 11 = .ok (.lconst 1, 1) := by decide +kernel
theorem dX5_lowestBit_12 : decode cX5_lowestBit 12 = .ok (.land, 1) := by decide +kernel
theorem dX5_lowestBit_13 : decode cX5_lowestBit 13 = .ok (.lconst 0, 1) := by decide +kernel
theorem dX5_lowestBit_14 : decode cX5_lowestBit 14 = .ok (.lcmp, 1) := by decide +kernel
theorem dX5_lowestBit_15 : decode cX5_lowestBit 15 = .ok (.ifCond .ne 9, 3) := by decide +kernel
theorem dX5_lowestBit_18 : decode cX5_lowestBit 18 = .ok (.iinc 2 1, 3) := by decide +kernel
theorem dX5_lowestBit_21 : decode cX5_lowestBit 21 = .ok (.goto (-19), 3) := by decide +kernel
theorem dX5_lowestBit_24 : decode cX5_lowestBit 24 = .ok (.lload_n 0, 1) := by decide +kernel
theorem dX5_lowestBit_25 : decode cX5_lowestBit 25 = .ok (.lconst 0, 1) := by decide +kernel
theorem dX5_lowestBit_26 : decode cX5_lowestBit 26 = .ok (.lcmp, 1) := by decide +kernel
theorem dX5_lowestBit_27 : decode cX5_lowestBit 27 = .ok (.ifCond .ne 7, 3) := by decide +kernel
theorem dX5_lowestBit_30 : decode cX5_lowestBit 30 = .ok (.iconst 0, 1) := by decide +kernel
theorem dX5_lowestBit_31 : decode cX5_lowestBit 31 = .ok (.goto 4, 3) := by decide +kernel
theorem dX5_lowestBit_34 : decode cX5_lowestBit 34 = .ok (.iload_n 2, 1) := by decide +kernel
theorem dX5_lowestBit_35 : decode cX5_lowestBit 35 = .ok (.ireturn, 1) := by decide +kernel
theorem dX5_bitsUpToHighest_0 : decode cX5_bitsUpToHighest 0 = .ok (.bipush 64, 2) := by decide +kernel
theorem dX5_bitsUpToHighest_2 : decode cX5_bitsUpToHighest 2 = .ok (.istore_n 2, 1) := by decide +kernel
theorem dX5_bitsUpToHighest_3 : decode cX5_bitsUpToHighest 3 = .ok (.iload_n 2, 1) := by decide +kernel
theorem dX5_bitsUpToHighest_4 : decode cX5_bitsUpToHighest 4 = .ok (.ifCond .le 21, 3) := by decide +kernel
theorem dX5_bitsUpToHighest_7 : decode cX5_bitsUpToHighest 7 = .ok (.lload_n 0, 1) := by decide +kernel
theorem dX5_bitsUpToHighest_8 : decode cX5_bitsUpToHighest 8 = .ok (.iload_n 2, 1) := by decide +kernel
theorem dX5_bitsUpToHighest_9 : decode cX5_bitsUpToHighest 9 = .ok (.iconst 1, 1) := by decide +kernel
theorem dX5_bitsUpToHighest_10 : decode cX5_bitsUpToHighest 10 = .ok (.isub, 1) := by decide +kernel
theorem dX5_bitsUpToHighest_11 : decode cX5_bitsUpToHighest 11 = .ok (.lushr, 1) := by decide +kernel
theorem dX5_bitsUpToHighest_12 : decode cX5_bitsUpToHighest 12 = .ok (.lconst 1, 1) := by decide +kernel
theorem dX5_bitsUpToHighest_13 : decode cX5_bitsUpToHighest 13 = .ok (.land, 1) := by decide +kernel
theorem dX5_bitsUpToHighest_14 : decode cX5_bitsUpToHighest 14 = .ok (.lconst 0, 1) := by decide +kernel
theorem dX5_bitsUpToHighest_15 : decode cX5_bitsUpToHighest 15 = .ok (.lcmp, 1) := by decide +kernel
theorem dX5_bitsUpToHighest_16 : decode cX5_bitsUpToHighest 16 = .ok (.ifCond .ne 9, 3) := by decide +kernel
theorem dX5_bitsUpToHighest_19 : decode cX5_bitsUpToHighest 19 = .ok (.iinc 2 (-1), 3) := by decide +kernel
theorem dX5_bitsUpToHighest_22 : decode cX5_bitsUpToHighest 22 = .ok (.goto (-19), 3) := by decide +kernel
theorem dX5_bitsUpToHighest_25 : decode cX5_bitsUpToHighest 25 = .ok (.iload_n 2, 1) := by decide +kernel
theorem dX5_bitsUpToHighest_26 : decode cX5_bitsUpToHighest 26 = .ok (.ireturn, 1) := by decide +kernel
theorem dX5_shapeRow_0 : decode cX5_shapeRow 0 = .ok (.iload_n 1, 1) := by decide +kernel
theorem dX5_shapeRow_1 : decode cX5_shapeRow 1 = .ok (.ifCond .lt 21, 3) := by decide +kernel
theorem dX5_shapeRow_4 : decode cX5_shapeRow 4 = .ok (.iload_n 1, 1) := by decide +kernel
theorem dX5_shapeRow_5 : decode cX5_shapeRow 5 = .ok (.aload_n 0, 1) := by decide +kernel
theorem dX5_shapeRow_6 : decode cX5_shapeRow 6 = .ok (.getfield 9, 3) := by decide +kernel
theorem dX5_shapeRow_9 : decode cX5_shapeRow 9 = .ok (.arraylength, 1) := by decide +kernel
theorem dX5_shapeRow_10 : decode cX5_shapeRow 10 = .ok (.if_icmp .ge 12, 3) := by decide +kernel
theorem dX5_shapeRow_13 : decode cX5_shapeRow 13 = .ok (.aload_n 0, 1) := by decide +kernel
theorem dX5_shapeRow_14 : decode cX5_shapeRow 14 = .ok (.getfield 9, 3) := by decide +kernel
theorem dX5_shapeRow_17 : decode cX5_shapeRow 17 = .ok (.iload_n 1, 1) := by decide +kernel
theorem dX5_shapeRow_18 : decode cX5_shapeRow 18 = .ok (.laload, 1) := by decide +kernel
theorem dX5_shapeRow_19 : decode cX5_shapeRow 19 = .ok (.goto 4, 3) := by decide +kernel
theorem dX5_shapeRow_22 : decode cX5_shapeRow 22 = .ok (.lconst 0, 1) := by decide +kernel
theorem dX5_shapeRow_23 : decode cX5_shapeRow 23 = .ok (.lreturn, 1) := by decide +kernel
theorem dX7_start_0 : decode cX7_start 0 = .ok (.iload_n 1, 1) := by decide +kernel
theorem dX7_start_1 : decode cX7_start 1 = .ok (.ifCond .eq 10, 3) := by decide +kernel
theorem dX7_start_4 : decode cX7_start 4 = .ok (.aload_n 0, 1) := by decide +kernel
theorem dX7_start_5 : decode cX7_start 5 = .ok (.getfield 37, 3) := by decide +kernel
theorem dX7_start_8 : decode cX7_start 8 = .ok (.goto 7, 3) := by decide +kernel
theorem dX7_start_11 : decode cX7_start 11 = .ok (.aload_n 0, 1) := by decide +kernel
theorem dX7_start_12 : decode cX7_start 12 = .ok (.getfield 41, 3) := by decide +kernel
theorem dX7_start_15 : decode cX7_start 15 = .ok (.ireturn, 1) := by decide +kernel
theorem dX7_end_0 : decode cX7_end 0 = .ok (.iload_n 1, 1) := by decide +kernel
theorem dX7_end_1 : decode cX7_end 1 = .ok (.ifCond .eq 10, 3) := by decide +kernel
theorem dX7_end_4 : decode cX7_end 4 = .ok (.aload_n 0, 1) := by decide +kernel
theorem dX7_end_5 : decode cX7_end 5 = .ok (.getfield 48, 3) := by decide +kernel
theorem dX7_end_8 : decode cX7_end 8 = .ok (.goto 7, 3) := by decide +kernel
theorem dX7_end_11 : decode cX7_end 11 = .ok (.aload_n 0, 1) := by decide +kernel
theorem dX7_end_12 : decode cX7_end 12 = .ok (.getfield 54, 3) := by decide +kernel
theorem dX7_end_15 : decode cX7_end 15 = .ok (.ireturn, 1) := by decide +kernel
theorem dX7_takeNumber_0 : decode cX7_takeNumber 0 = .ok (.aload_n 0, 1) := by decide +kernel
theorem dX7_takeNumber_1 : decode cX7_takeNumber 1 = .ok (.iload_n 1, 1) := by decide +kernel
theorem dX7_takeNumber_2 : decode cX7_takeNumber 2 = .ok (.putfield 57, 3) := by decide +kernel
theorem dX7_takeNumber_5 : decode cX7_takeNumber 5 = .ok (.aload_n 0, 1) := by decide +kernel
theorem dX7_takeNumber_6 : decode cX7_takeNumber 6 = .ok (.getfield 12, 3) := by decide +kernel
theorem dX7_takeNumber_9 : decode cX7_takeNumber 9 = .ok (.iload_n 1, 1) := by decide +kernel
theorem dX7_takeNumber_10 : decode cX7_takeNumber 10 = .ok (.putfield 60, 3) := by decide +kernel
theorem dX7_takeNumber_13 : decode cX7_takeNumber 13 = .ok (.aload_n 0, 1) := by decide +kernel
theorem dX7_takeNumber_14 : decode cX7_takeNumber 14 = .ok (.getfield 18, 3) := by decide +kernel
theorem dX7_takeNumber_17 : decode cX7_takeNumber 17 = .ok (.iload_n 1, 1) := by decide +kernel
theorem dX7_takeNumber_18 : decode cX7_takeNumber 18 = .ok (.putfield 60, 3) := by decide +kernel
theorem dX7_takeNumber_21 : decode cX7_takeNumber 21 = .ok (.return_, 1) := by decide +kernel
theorem dX5_hasShapeOf_0 : decode cX5_hasShapeOf 0 = .ok (.aload_n 0, 1) := by decide +kernel
theorem dX5_hasShapeOf_1 : decode cX5_hasShapeOf 1 = .ok (.getfield 45, 3) := by decide +kernel
theorem dX5_hasShapeOf_4 : decode cX5_hasShapeOf 4 = .ok (.aload_n 1, 1) := by decide +kernel
theorem dX5_hasShapeOf_5 : decode cX5_hasShapeOf 5 = .ok (.getfield 45, 3) := by decide +kernel
theorem dX5_hasShapeOf_8 : decode cX5_hasShapeOf 8 = .ok (.if_icmp .ne 25, 3) := by decide +kernel
theorem dX5_hasShapeOf_11 : decode cX5_hasShapeOf 11 = .ok (.aload_n 0, 1) := by decide +kernel
theorem dX5_hasShapeOf_12 : decode cX5_hasShapeOf 12 = .ok (.getfield 48, 3) := by decide +kernel
theorem dX5_hasShapeOf_15 : decode cX5_hasShapeOf 15 = .ok (.aload_n 1, 1) := by decide +kernel
theorem dX5_hasShapeOf_16 : decode cX5_hasShapeOf 16 = .ok (.getfield 48, 3) := by decide +kernel
theorem dX5_hasShapeOf_19 : decode cX5_hasShapeOf 19 = .ok (.if_icmp .ne 14, 3) := by decide +kernel
theorem dX5_hasShapeOf_22 : decode cX5_hasShapeOf 22 = .ok (.aload_n 0, 1) := by decide +kernel
theorem dX5_hasShapeOf_23 : decode cX5_hasShapeOf 23 = .ok (.getfield 23, 3) := by decide +kernel
theorem dX5_hasShapeOf_26 : decode cX5_hasShapeOf 26 = .ok (.aload_n 1, 1) := by decide +kernel
theorem dX5_hasShapeOf_27 : decode cX5_hasShapeOf 27 = .ok (.getfield 23, 3) := by decide +kernel
theorem dX5_hasShapeOf_30 : decode cX5_hasShapeOf 30 = .ok (.if_icmp .eq 5, 3) := by decide +kernel
theorem dX5_hasShapeOf_33 : decode cX5_hasShapeOf 33 = .ok (.iconst 0, 1) := by decide +kernel
theorem dX5_hasShapeOf_34 : decode cX5_hasShapeOf 34 = .ok (.ireturn, 1) := by decide +kernel
theorem dX5_hasShapeOf_35 : decode cX5_hasShapeOf 35 = .ok (.iconst 0, 1) := by decide +kernel
theorem dX5_hasShapeOf_36 : decode cX5_hasShapeOf 36 = .ok (.istore_n 2, 1) := by decide +kernel
theorem dX5_hasShapeOf_37 : decode cX5_hasShapeOf 37 = .ok (.iload_n 2, 1) := by decide +kernel
theorem dX5_hasShapeOf_38 : decode cX5_hasShapeOf 38 = .ok (.aload_n 0, 1) := by decide +kernel
theorem dX5_hasShapeOf_39 : decode cX5_hasShapeOf 39 = .ok (.getfield 48, 3) := by decide +kernel
theorem dX5_hasShapeOf_42 : decode cX5_hasShapeOf 42 = .ok (.if_icmp .ge 25, 3) := by decide +kernel
theorem dX5_hasShapeOf_45 : decode cX5_hasShapeOf 45 = .ok (.aload_n 0, 1) := by decide +kernel
theorem dX5_hasShapeOf_46 : decode cX5_hasShapeOf 46 = .ok (.iload_n 2, 1) := by decide +kernel
theorem dX5_hasShapeOf_47 : decode cX5_hasShapeOf 47 = .ok (.invokevirtual 51, 3) := by decide +kernel
theorem dX5_hasShapeOf_50 : decode cX5_hasShapeOf 50 = .ok (.aload_n 1, 1) := by decide +kernel
theorem dX5_hasShapeOf_51 : decode cX5_hasShapeOf 51 = .ok (.iload_n 2, 1) := by decide +kernel
theorem dX5_hasShapeOf_52 : decode cX5_hasShapeOf 52 = .ok (.invokevirtual 51, 3) := by decide +kernel
theorem dX5_hasShapeOf_55 : decode cX5_hasShapeOf 55 = .ok (.lcmp, 1) := by decide +kernel
theorem dX5_hasShapeOf_56 : decode cX5_hasShapeOf 56 = .ok (.ifCond .eq 5, 3) := by decide +kernel
theorem dX5_hasShapeOf_59 : decode cX5_hasShapeOf 59 = .ok (.iconst 0, 1) := by decide +kernel
theorem dX5_hasShapeOf_60 : decode cX5_hasShapeOf 60 = .ok (.ireturn, 1) := by decide +kernel
theorem dX5_hasShapeOf_61 : decode cX5_hasShapeOf 61 = .ok (.iinc 2 1, 3) := by decide +kernel
theorem dX5_hasShapeOf_64 : decode cX5_hasShapeOf 64 = .ok (.goto (-27), 3) := by decide +kernel
theorem dX5_hasShapeOf_67 : decode cX5_hasShapeOf 67 = .ok (.iconst 1, 1) := by decide +kernel
theorem dX5_hasShapeOf_68 : decode cX5_hasShapeOf 68 = .ok (.ireturn, 1) := by decide +kernel
theorem dX10_numberOf_0 : decode cX10_numberOf 0 = .ok (.iconst 0, 1) := by decide +kernel
theorem dX10_numberOf_1 : decode cX10_numberOf 1 = .ok (.istore_n 2, 1) := by decide +kernel
theorem dX10_numberOf_2 : decode cX10_numberOf 2 = .ok (.iload_n 2, 1) := by decide +kernel
theorem dX10_numberOf_3 : decode cX10_numberOf 3 = .ok (.aload_n 0, 1) := by decide +kernel
theorem dX10_numberOf_4 : decode cX10_numberOf 4 = .ok (.getfield 20, 3) := by decide +kernel
theorem dX10_numberOf_7 : decode cX10_numberOf 7 = .ok (.if_icmp .ge 24, 3) := by decide +kernel
theorem dX10_numberOf_10 : decode cX10_numberOf 10 = .ok (.aload_n 0, 1) := by decide +kernel
theorem dX10_numberOf_11 : decode cX10_numberOf 11 = .ok (.getfield 11, 3) := by decide +kernel
theorem dX10_numberOf_14 : decode cX10_numberOf 14 = .ok (.iload_n 2, 1) := by decide +kernel
theorem dX10_numberOf_15 : decode cX10_numberOf 15 = .ok (.aaload, 1) := by decide +kernel
theorem dX10_numberOf_16 : decode cX10_numberOf 16 = .ok (.aload_n 1, 1) := by decide +kernel
theorem dX10_numberOf_17 : decode cX10_numberOf 17 = .ok (.invokevirtual 24, 3) := by decide +kernel
theorem dX10_numberOf_20 : decode cX10_numberOf 20 = .ok (.ifCond .eq 5, 3) := by decide +kernel
theorem dX10_numberOf_23 : decode cX10_numberOf 23 = .ok (.iload_n 2, 1) := by decide +kernel
theorem dX10_numberOf_24 : decode cX10_numberOf 24 = .ok (.ireturn, 1) := by decide +kernel
theorem dX10_numberOf_25 : decode cX10_numberOf 25 = .ok (.iinc 2 1, 3) := by decide +kernel
theorem dX10_numberOf_28 : decode cX10_numberOf 28 = .ok (.goto (-26), 3) := by decide +kernel
theorem dX10_numberOf_31 : decode cX10_numberOf 31 = .ok (.iconst (-1), 1) := by decide +kernel
theorem dX10_numberOf_32 : decode cX10_numberOf 32 = .ok (.ireturn, 1) := by decide +kernel
theorem dX5_kind_0 : decode cX5_kind 0 = .ok (.aload_n 0, 1) := by decide +kernel
theorem dX5_kind_1 : decode cX5_kind 1 = .ok (.getfield 19, 3) := by decide +kernel
theorem dX5_kind_4 : decode cX5_kind 4 = .ok (.ifnull 5, 3) := by decide +kernel
theorem dX5_kind_7 : decode cX5_kind 7 = .ok (.iconst 3, 1) := by decide +kernel
theorem dX5_kind_8 : decode cX5_kind 8 = .ok (.ireturn, 1) := by decide +kernel
theorem dX5_kind_9 : decode cX5_kind 9 = .ok (.aload_n 0, 1) := by decide +kernel
theorem dX5_kind_10 : decode cX5_kind 10 = .ok (.getfield 15, 3) := by decide +kernel
theorem dX5_kind_13 : decode cX5_kind 13 = .ok (.ifCond .eq 7, 3) := by decide +kernel
theorem dX5_kind_16 : decode cX5_kind 16 = .ok (.iconst 2, 1) := by decide +kernel
theorem dX5_kind_17 : decode cX5_kind 17 = .ok (.goto 4, 3) := by decide +kernel
theorem dX5_kind_20 : decode cX5_kind 20 = .ok (.iconst 1, 1) := by decide +kernel
theorem dX5_kind_21 : decode cX5_kind 21 = .ok (.ireturn, 1) := by decide +kernel
theorem dX5_report_0 : decode cX5_report 0 = .ok (.aload_n 0, 1) := by decide +kernel
theorem dX5_report_1 : decode cX5_report 1 = .ok (.getfield 19, 3) := by decide +kernel
theorem dX5_report_4 : decode cX5_report 4 = .ok (.astore_n 2, 1) := by decide +kernel
theorem dX5_report_5 : decode cX5_report 5 = .ok (.aload_n 2, 1) := by decide +kernel
theorem dX5_report_6 : decode cX5_report 6 = .ok (.ifnull 60, 3) := by decide +kernel
theorem dX5_report_9 : decode cX5_report 9 = .ok (.aload_n 1, 1) := by decide +kernel
theorem dX5_report_10 : decode cX5_report 10 = .ok (.ldc 67, 2) := by decide +kernel
theorem dX5_report_12 : decode cX5_report 12 = .ok (.invokevirtual 69, 3) := by decide +kernel
theorem dX5_report_15 : decode cX5_report 15 = .ok (.aload_n 1, 1) := by decide +kernel
theorem dX5_report_16 : decode cX5_report 16 = .ok (.aload_n 0, 1) := by decide +kernel
theorem dX5_report_17 : decode cX5_report 17 = .ok (.getfield 23, 3) := by decide +kernel
theorem dX5_report_20 : decode cX5_report 20 = .ok (.invokevirtual 75, 3) := by decide +kernel
theorem dX5_report_23 : decode cX5_report 23 = .ok (.aload_n 1, 1) := by decide +kernel
theorem dX5_report_24 : decode cX5_report 24 = .ok (.ldc 79, 2) := by decide +kernel
theorem dX5_report_26 : decode cX5_report 26 = .ok (.invokevirtual 69, 3) := by decide +kernel
theorem dX5_report_29 : decode cX5_report 29 = .ok (.aload_n 1, 1) := by decide +kernel
theorem dX5_report_30 : decode cX5_report 30 = .ok (.aload_n 0, 1) := by decide +kernel
theorem dX5_report_31 : decode cX5_report 31 = .ok (.getfield 39, 3) := by decide +kernel
theorem dX5_report_34 : decode cX5_report 34 = .ok (.ldc 81, 2) := by decide +kernel
theorem dX5_report_36 : decode cX5_report 36 = .ok (.aload_n 0, 1) := by decide +kernel
theorem dX5_report_37 : decode cX5_report 37 = .ok (.getfield 27, 3) := by decide +kernel
theorem dX5_report_40 : decode cX5_report 40 = .ok (.invokevirtual 83, 3) := by decide +kernel
theorem dX5_report_43 : decode cX5_report 43 = .ok (.aload_n 1, 1) := by decide +kernel
theorem dX5_report_44 : decode cX5_report 44 = .ok (.ldc 87, 2) := by decide +kernel
theorem dX5_report_46 : decode cX5_report 46 = .ok (.invokevirtual 69, 3) := by decide +kernel
theorem dX5_report_49 : decode cX5_report 49 = .ok (.aload_n 1, 1) := by decide +kernel
theorem dX5_report_50 : decode cX5_report 50 = .ok (.aload_n 2, 1) := by decide +kernel
theorem dX5_report_51 : decode cX5_report 51 = .ok (.getfield 39, 3) := by decide +kernel
theorem dX5_report_54 : decode cX5_report 54 = .ok (.ldc 81, 2) := by decide +kernel
theorem dX5_report_56 : decode cX5_report 56 = .ok (.aload_n 2, 1) := by decide +kernel
theorem dX5_report_57 : decode cX5_report 57 = .ok (.getfield 27, 3) := by decide +kernel
theorem dX5_report_60 : decode cX5_report 60 = .ok (.invokevirtual 83, 3) := by decide +kernel
theorem dX5_report_63 : decode cX5_report 63 = .ok (.goto 49, 3) := by decide +kernel
theorem dX5_report_66 : decode cX5_report 66 = .ok (.aload_n 1, 1) := by decide +kernel
theorem dX5_report_67 : decode cX5_report 67 = .ok (.aload_n 0, 1) := by decide +kernel
theorem dX5_report_68 : decode cX5_report 68 = .ok (.getfield 15, 3) := by decide +kernel
theorem dX5_report_71 : decode cX5_report 71 = .ok (.ifCond .eq 8, 3) := by decide +kernel
theorem dX5_report_74 : decode cX5_report 74 = .ok (.ldc 89, 2) := by decide +kernel
theorem dX5_report_76 : decode cX5_report 76 = .ok (.goto 5, 3) := by decide +kernel
theorem dX5_report_79 : decode cX5_report 79 = .ok (.ldc 91, 2) := by decide +kernel
theorem dX5_report_81 : decode cX5_report 81 = .ok (.invokevirtual 69, 3) := by decide +kernel
theorem dX5_report_84 : decode cX5_report 84 = .ok (.aload_n 1, 1) := by decide +kernel
theorem dX5_report_85 : decode cX5_report 85 = .ok (.aload_n 0, 1) := by decide +kernel
theorem dX5_report_86 : decode cX5_report 86 = .ok (.getfield 23, 3) := by decide +kernel
theorem dX5_report_89 : decode cX5_report 89 = .ok (.invokevirtual 75, 3) := by decide +kernel
theorem dX5_report_92 : decode cX5_report 92 = .ok (.aload_n 1, 1) := by decide +kernel
theorem dX5_report_93 : decode cX5_report 93 = .ok (.ldc 93, 2) := by decide +kernel
theorem dX5_report_95 : decode cX5_report 95 = .ok (.invokevirtual 69, 3) := by decide +kernel
theorem dX5_report_98 : decode cX5_report 98 = .ok (.aload_n 1, 1) := by decide +kernel
theorem dX5_report_99 : decode cX5_report 99 = .ok (.aload_n 0, 1) := by decide +kernel
theorem dX5_report_100 : decode cX5_report 100 = .ok (.getfield 39, 3) := by decide +kernel
theorem dX5_report_103 : decode cX5_report 103 = .ok (.ldc 81, 2) := by decide +kernel
theorem dX5_report_105 : decode cX5_report 105 = .ok (.aload_n 0, 1) := by decide +kernel
theorem dX5_report_106 : decode cX5_report 106 = .ok (.getfield 27, 3) := by decide +kernel
theorem dX5_report_109 : decode cX5_report 109 = .ok (.invokevirtual 83, 3) := by decide +kernel
theorem dX5_report_112 : decode cX5_report 112 = .ok (.aload_n 1, 1) := by decide +kernel
theorem dX5_report_113 : decode cX5_report 113 = .ok (.ldc 95, 2) := by decide +kernel
theorem dX5_report_115 : decode cX5_report 115 = .ok (.invokevirtual 69, 3) := by decide +kernel
theorem dX5_report_118 : decode cX5_report 118 = .ok (.aload_n 1, 1) := by decide +kernel
theorem dX5_report_119 : decode cX5_report 119 = .ok (.aload_n 0, 1) := by decide +kernel
theorem dX5_report_120 : decode cX5_report 120 = .ok (.getfield 45, 3) := by decide +kernel
theorem dX5_report_123 : decode cX5_report 123 = .ok (.ldc 97, 2) := by decide +kernel
theorem dX5_report_125 : decode cX5_report 125 = .ok (.aload_n 0, 1) := by decide +kernel
theorem dX5_report_126 : decode cX5_report 126 = .ok (.getfield 48, 3) := by decide +kernel
theorem dX5_report_129 : decode cX5_report 129 = .ok (.invokevirtual 83, 3) := by decide +kernel
theorem dX5_report_132 : decode cX5_report 132 = .ok (.aload_n 0, 1) := by decide +kernel
theorem dX5_report_133 : decode cX5_report 133 = .ok (.getfield 99, 3) := by decide +kernel
theorem dX5_report_136 : decode cX5_report 136 = .ok (.ifCond .lt 17, 3) := by decide +kernel
theorem dX5_report_139 : decode cX5_report 139 = .ok (.aload_n 1, 1) := by decide +kernel
theorem dX5_report_140 : decode cX5_report 140 = .ok (.ldc 102, 2) := by decide +kernel
theorem dX5_report_142 : decode cX5_report 142 = .ok (.invokevirtual 69, 3) := by decide +kernel
theorem dX5_report_145 : decode cX5_report 145 = .ok (.aload_n 1, 1) := by decide +kernel
theorem dX5_report_146 : decode cX5_report 146 = .ok (.aload_n 0, 1) := by decide +kernel
theorem dX5_report_147 : decode cX5_report 147 = .ok (.getfield 99, 3) := by decide +kernel
theorem dX5_report_150 : decode cX5_report 150 = .ok (.invokevirtual 75, 3) := by decide +kernel
theorem dX5_report_153 : decode cX5_report 153 = .ok (.aload_n 1, 1) := by decide +kernel
theorem dX5_report_154 : decode cX5_report 154 = .ok (.bipush 10, 2) := by decide +kernel
theorem dX5_report_156 : decode cX5_report 156 = .ok (.invokevirtual 104, 3) := by decide +kernel
theorem dX5_report_159 : decode cX5_report 159 = .ok (.return_, 1) := by decide +kernel
theorem dX10_isFull_0 : decode cX10_isFull 0 = .ok (.aload_n 0, 1) := by decide +kernel
theorem dX10_isFull_1 : decode cX10_isFull 1 = .ok (.getfield 20, 3) := by decide +kernel
theorem dX10_isFull_4 : decode cX10_isFull 4 = .ok (.bipush 7, 2) := by decide +kernel
theorem dX10_isFull_6 : decode cX10_isFull 6 = .ok (.if_icmp .lt 7, 3) := by decide +kernel
theorem dX10_isFull_9 : decode cX10_isFull 9 = .ok (.iconst 1, 1) := by decide +kernel
theorem dX10_isFull_10 : decode cX10_isFull 10 = .ok (.goto 4, 3) := by decide +kernel
theorem dX10_isFull_13 : decode cX10_isFull 13 = .ok (.iconst 0, 1) := by decide +kernel
theorem dX10_isFull_14 : decode cX10_isFull 14 = .ok (.ireturn, 1) := by decide +kernel
theorem dX10_add_0 : decode cX10_add 0 = .ok (.aload_n 0, 1) := by decide +kernel
theorem dX10_add_1 : decode cX10_add 1 = .ok (.invokevirtual 28, 3) := by decide +kernel
theorem dX10_add_4 : decode cX10_add 4 = .ok (.ifCond .eq 5, 3) := by decide +kernel
theorem dX10_add_7 : decode cX10_add 7 = .ok (.iconst (-1), 1) := by decide +kernel
theorem dX10_add_8 : decode cX10_add 8 = .ok (.ireturn, 1) := by decide +kernel
theorem dX10_add_9 : decode cX10_add 9 = .ok (.aload_n 0, 1) := by decide +kernel
theorem dX10_add_10 : decode cX10_add 10 = .ok (.getfield 11, 3) := by decide +kernel
theorem dX10_add_13 : decode cX10_add 13 = .ok (.aload_n 0, 1) := by decide +kernel
theorem dX10_add_14 : decode cX10_add 14 = .ok (.getfield 20, 3) := by decide +kernel
theorem dX10_add_17 : decode cX10_add 17 = .ok (.aaload, 1) := by decide +kernel
theorem dX10_add_18 : decode cX10_add 18 = .ok (.aload_n 1, 1) := by decide +kernel
theorem dX10_add_19 : decode cX10_add 19 = .ok (.invokevirtual 32, 3) := by decide +kernel
theorem dX10_add_22 : decode cX10_add 22 = .ok (.aload_n 0, 1) := by decide +kernel
theorem dX10_add_23 : decode cX10_add 23 = .ok (.dup, 1) := by decide +kernel
theorem dX10_add_24 : decode cX10_add 24 = .ok (.getfield 20, 3) := by decide +kernel
theorem dX10_add_27 : decode cX10_add 27 = .ok (.iconst 1, 1) := by decide +kernel
theorem dX10_add_28 : decode cX10_add 28 = .ok (.iadd, 1) := by decide +kernel
theorem dX10_add_29 : decode cX10_add 29 = .ok (.putfield 20, 3) := by decide +kernel
theorem dX10_add_32 : decode cX10_add 32 = .ok (.aload_n 0, 1) := by decide +kernel
theorem dX10_add_33 : decode cX10_add 33 = .ok (.getfield 20, 3) := by decide +kernel
theorem dX10_add_36 : decode cX10_add 36 = .ok (.iconst 1, 1) := by decide +kernel
theorem dX10_add_37 : decode cX10_add 37 = .ok (.isub, 1) := by decide +kernel
theorem dX10_add_38 : decode cX10_add 38 = .ok (.ireturn, 1) := by decide +kernel
theorem dX5_takeShape_0 : decode cX5_takeShape 0 = .ok (.aload_n 0, 1) := by decide +kernel
theorem dX5_takeShape_1 : decode cX5_takeShape 1 = .ok (.aload_n 1, 1) := by decide +kernel
theorem dX5_takeShape_2 : decode cX5_takeShape 2 = .ok (.getfield 45, 3) := by decide +kernel
theorem dX5_takeShape_5 : decode cX5_takeShape 5 = .ok (.putfield 45, 3) := by decide +kernel
theorem dX5_takeShape_8 : decode cX5_takeShape 8 = .ok (.aload_n 0, 1) := by decide +kernel
theorem dX5_takeShape_9 : decode cX5_takeShape 9 = .ok (.aload_n 1, 1) := by decide +kernel
theorem dX5_takeShape_10 : decode cX5_takeShape 10 = .ok (.getfield 48, 3) := by decide +kernel
theorem dX5_takeShape_13 : decode cX5_takeShape 13 = .ok (.putfield 48, 3) := by decide +kernel
theorem dX5_takeShape_16 : decode cX5_takeShape 16 = .ok (.aload_n 0, 1) := by decide +kernel
theorem dX5_takeShape_17 : decode cX5_takeShape 17 = .ok (.aload_n 1, 1) := by decide +kernel
theorem dX5_takeShape_18 : decode cX5_takeShape 18 = .ok (.getfield 23, 3) := by decide +kernel
theorem dX5_takeShape_21 : decode cX5_takeShape 21 = .ok (.putfield 23, 3) := by decide +kernel
theorem dX5_takeShape_24 : decode cX5_takeShape 24 = .ok (.aload_n 1, 1) := by decide +kernel
theorem dX5_takeShape_25 : decode cX5_takeShape 25 = .ok (.getfield 9, 3) := by decide +kernel
theorem dX5_takeShape_28 : decode cX5_takeShape 28 = .ok (.iconst 0, 1) := by decide +kernel
theorem dX5_takeShape_29 : decode cX5_takeShape 29 = .ok (.aload_n 0, 1) := by decide +kernel
theorem dX5_takeShape_30 : decode cX5_takeShape 30 = .ok (.getfield 9, 3) := by decide +kernel
theorem dX5_takeShape_33 : decode cX5_takeShape 33 = .ok (.iconst 0, 1) := by decide +kernel
theorem dX5_takeShape_34 : decode cX5_takeShape 34 = .ok (.bipush 64, 2) := by decide +kernel
theorem dX5_takeShape_36 : decode cX5_takeShape 36 = .ok (.invokestatic 61, 3) := by decide +kernel
theorem dX5_takeShape_39 : decode cX5_takeShape 39 = .ok (.return_, 1) := by decide +kernel
theorem dX10_drop_0 : decode cX10_drop 0 = .ok (.iload_n 1, 1) := by decide +kernel
theorem dX10_drop_1 : decode cX10_drop 1 = .ok (.ifCond .lt 70, 3) := by decide +kernel
theorem dX10_drop_4 : decode cX10_drop 4 = .ok (.iload_n 1, 1) := by decide +kernel
theorem dX10_drop_5 : decode cX10_drop 5 = .ok (.aload_n 0, 1) := by decide +kernel
theorem dX10_drop_6 : decode cX10_drop 6 = .ok (.getfield 20, 3) := by decide +kernel
theorem dX10_drop_9 : decode cX10_drop 9 = .ok (.if_icmp .ge 62, 3) := by decide +kernel
theorem dX10_drop_12 : decode cX10_drop 12 = .ok (.aload_n 0, 1) := by decide +kernel
theorem dX10_drop_13 : decode cX10_drop 13 = .ok (.getfield 11, 3) := by decide +kernel
theorem dX10_drop_16 : decode cX10_drop 16 = .ok (.iload_n 1, 1) := by decide +kernel
theorem dX10_drop_17 : decode cX10_drop 17 = .ok (.aaload, 1) := by decide +kernel
theorem dX10_drop_18 : decode cX10_drop 18 = .ok (.astore_n 2, 1) := by decide +kernel
theorem dX10_drop_19 : decode cX10_drop 19 = .ok (.iload_n 1, 1) := by decide +kernel
theorem dX10_drop_20 : decode cX10_drop 20 = .ok (.istore_n 3, 1) := by decide +kernel
theorem dX10_drop_21 : decode cX10_drop 21 = .ok (.iload_n 3, 1) := by decide +kernel
theorem dX10_drop_22 : decode cX10_drop 22 = .ok (.iconst 1, 1) := by decide +kernel
theorem dX10_drop_23 : decode cX10_drop 23 = .ok (.iadd, 1) := by decide +kernel
theorem dX10_drop_24 : decode cX10_drop 24 = .ok (.aload_n 0, 1) := by decide +kernel
theorem dX10_drop_25 : decode cX10_drop 25 = .ok (.getfield 20, 3) := by decide +kernel
theorem dX10_drop_28 : decode cX10_drop 28 = .ok (.if_icmp .ge 23, 3) := by decide +kernel
theorem dX10_drop_31 : decode cX10_drop 31 = .ok (.aload_n 0, 1) := by decide +kernel
theorem dX10_drop_32 : decode cX10_drop 32 = .ok (.getfield 11, 3) := by decide +kernel
theorem dX10_drop_35 : decode cX10_drop 35 = .ok (.iload_n 3, 1) := by decide +kernel
theorem dX10_drop_36 : decode cX10_drop 36 = .ok (.aload_n 0, 1) := by decide +kernel
theorem dX10_drop_37 : decode cX10_drop 37 = .ok (.getfield 11, 3) := by decide +kernel
theorem dX10_drop_40 : decode cX10_drop 40 = .ok (.iload_n 3, 1) := by decide +kernel
theorem dX10_drop_41 : decode cX10_drop 41 = .ok (.iconst 1, 1) := by decide +kernel
theorem dX10_drop_42 : decode cX10_drop 42 = .ok (.iadd, 1) := by decide +kernel
theorem dX10_drop_43 : decode cX10_drop 43 = .ok (.aaload, 1) := by decide +kernel
theorem dX10_drop_44 : decode cX10_drop 44 = .ok (.aastore, 1) := by decide +kernel
theorem dX10_drop_45 : decode cX10_drop 45 = .ok (.iinc 3 1, 3) := by decide +kernel
theorem dX10_drop_48 : decode cX10_drop 48 = .ok (.goto (-27), 3) := by decide +kernel
theorem dX10_drop_51 : decode cX10_drop 51 = .ok (.aload_n 0, 1) := by decide +kernel
theorem dX10_drop_52 : decode cX10_drop 52 = .ok (.dup, 1) := by decide +kernel
theorem dX10_drop_53 : decode cX10_drop 53 = .ok (.getfield 20, 3) := by decide +kernel
theorem dX10_drop_56 : decode cX10_drop 56 = .ok (.iconst 1, 1) := by decide +kernel
theorem dX10_drop_57 : decode cX10_drop 57 = .ok (.isub, 1) := by decide +kernel
theorem dX10_drop_58 : decode cX10_drop 58 = .ok (.putfield 20, 3) := by decide +kernel
theorem dX10_drop_61 : decode cX10_drop 61 = .ok (.aload_n 0, 1) := by decide +kernel
theorem dX10_drop_62 : decode cX10_drop 62 = .ok (.getfield 11, 3) := by decide +kernel
theorem dX10_drop_65 : decode cX10_drop 65 = .ok (.aload_n 0, 1) := by decide +kernel
theorem dX10_drop_66 : decode cX10_drop 66 = .ok (.getfield 20, 3) := by decide +kernel
theorem dX10_drop_69 : decode cX10_drop 69 = .ok (.aload_n 2, 1) := by decide +kernel
theorem dX10_drop_70 : decode cX10_drop 70 = .ok (.aastore, 1) := by decide +kernel
theorem dX10_drop_71 : decode cX10_drop 71 = .ok (.aload_n 0, 1) := by decide +kernel
theorem dX10_drop_72 : decode cX10_drop 72 = .ok (.getfield 20, 3) := by decide +kernel
theorem dX10_drop_75 : decode cX10_drop 75 = .ok (.ireturn, 1) := by decide +kernel
theorem dX1_init_0 : decode cX1_init 0 = .ok (.aload_n 0, 1) := by decide +kernel
theorem dX1_init_1 : decode cX1_init 1 = .ok (.invokespecial 3, 3) := by decide +kernel
theorem dX1_init_4 : decode cX1_init 4 = .ok (.aload_n 0, 1) := by decide +kernel
theorem dX1_init_5 : decode cX1_init 5 = .ok (.sipush 256, 3) := by decide +kernel
theorem dX1_init_8 : decode cX1_init 8 = .ok (.newarray .int, 2) := by decide +kernel
theorem dX1_init_10 : decode cX1_init 10 = .ok (.putfield 9, 3) := by decide +kernel
theorem dX1_init_13 : decode cX1_init 13 = .ok (.aload_n 0, 1) := by decide +kernel
theorem dX1_init_14 : decode cX1_init 14 = .ok (.sipush 256, 3) := by decide +kernel
theorem dX1_init_17 : decode cX1_init 17 = .ok (.newarray .int, 2) := by decide +kernel
theorem dX1_init_19 : decode cX1_init 19 = .ok (.putfield 15, 3) := by decide +kernel
theorem dX1_init_22 : decode cX1_init 22 = .ok (.aload_n 0, 1) := by decide +kernel
theorem dX1_init_23 : decode cX1_init 23 = .ok (.sipush 256, 3) := by decide +kernel
theorem dX1_init_26 : decode cX1_init 26 = .ok (.newarray .int, 2) := by decide +kernel
theorem dX1_init_28 : decode cX1_init 28 = .ok (.putfield 18, 3) := by decide +kernel
theorem dX1_init_31 : decode cX1_init 31 = .ok (.aload_n 0, 1) := by decide +kernel
theorem dX1_init_32 : decode cX1_init 32 = .ok (.sipush 256, 3) := by decide +kernel
theorem dX1_init_35 : decode cX1_init 35 = .ok (.newarray .int, 2) := by decide +kernel
theorem dX1_init_37 : decode cX1_init 37 = .ok (.putfield 21, 3) := by decide +kernel
theorem dX1_init_40 : decode cX1_init 40 = .ok (.aload_n 0, 1) := by decide +kernel
theorem dX1_init_41 : decode cX1_init 41 = .ok (.sipush 256, 3) := by decide +kernel
theorem dX1_init_44 : decode cX1_init 44 = .ok (.anewarray 24, 3) := by decide +kernel
theorem dX1_init_47 : decode cX1_init 47 = .ok (.putfield 26, 3) := by decide +kernel
theorem dX1_init_50 : decode cX1_init 50 = .ok (.aload_n 0, 1) := by decide +kernel
theorem dX1_init_51 : decode cX1_init 51 = .ok (.sipush 256, 3) := by decide +kernel
theorem dX1_init_54 : decode cX1_init 54 = .ok (.anewarray 24, 3) := by decide +kernel
theorem dX1_init_57 : decode cX1_init 57 = .ok (.putfield 30, 3) := by decide +kernel
theorem dX1_init_60 : decode cX1_init 60 = .ok (.aload_n 0, 1) := by decide +kernel
theorem dX1_init_61 : decode cX1_init 61 = .ok (.sipush 512, 3) := by decide +kernel
theorem dX1_init_64 : decode cX1_init 64 = .ok (.anewarray 33, 3) := by decide +kernel
theorem dX1_init_67 : decode cX1_init 67 = .ok (.putfield 35, 3) := by decide +kernel
theorem dX1_init_70 : decode cX1_init 70 = .ok (.aload_n 0, 1) := by decide +kernel
theorem dX1_init_71 : decode cX1_init 71 = .ok (.iload_n 1, 1) := by decide +kernel
theorem dX1_init_72 : decode cX1_init 72 = .ok (.putfield 39, 3) := by decide +kernel
theorem dX1_init_75 : decode cX1_init 75 = .ok (.aload_n 0, 1) := by decide +kernel
theorem dX1_init_76 : decode cX1_init 76 = .ok (.iload_n 2, 1) := by decide +kernel
theorem dX1_init_77 : decode cX1_init 77 = .ok (.putfield 43, 3) := by decide +kernel
theorem dX1_init_80 : decode cX1_init 80 = .ok (.aload_n 0, 1) := by decide +kernel
theorem dX1_init_81 : decode cX1_init 81 = .ok (.new 46, 3) := by decide +kernel
theorem dX1_init_84 : decode cX1_init 84 = .ok (.dup, 1) := by decide +kernel
theorem dX1_init_85 : decode cX1_init 85 = .ok (.iload_n 1, 1) := by decide +kernel
theorem dX1_init_86 : decode cX1_init 86 = .ok (.iload_n 2, 1) := by decide +kernel
theorem dX1_init_87 : decode cX1_init 87 = .ok (.invokespecial 48, 3) := by decide +kernel
theorem dX1_init_90 : decode cX1_init 90 = .ok (.putfield 51, 3) := by decide +kernel
theorem dX1_init_93 : decode cX1_init 93 = .ok (.aload_n 0, 1) := by decide +kernel
theorem dX1_init_94 : decode cX1_init 94 = .ok (.new 46, 3) := by decide +kernel
theorem dX1_init_97 : decode cX1_init 97 = .ok (.dup, 1) := by decide +kernel
theorem dX1_init_98 : decode cX1_init 98 = .ok (.iload_n 1, 1) := by decide +kernel
theorem dX1_init_99 : decode cX1_init 99 = .ok (.iload_n 2, 1) := by decide +kernel
theorem dX1_init_100 : decode cX1_init 100 = .ok (.invokespecial 48, 3) := by decide +kernel
theorem dX1_init_103 : decode cX1_init 103 = .ok (.putfield 55, 3) := by decide +kernel
theorem dX1_init_106 : decode cX1_init 106 = .ok (.aload_n 0, 1) := by decide +kernel
theorem dX1_init_107 : decode cX1_init 107 = .ok (.new 46, 3) := by decide +kernel
theorem dX1_init_110 : decode cX1_init 110 = .ok (.dup, 1) := by decide +kernel
theorem dX1_init_111 : decode cX1_init 111 = .ok (.iload_n 1, 1) := by decide +kernel
theorem dX1_init_112 : decode cX1_init 112 = .ok (.iload_n 2, 1) := by decide +kernel
theorem dX1_init_113 : decode cX1_init 113 = .ok (.invokespecial 48, 3) := by decide +kernel
theorem dX1_init_116 : decode cX1_init 116 = .ok (.putfield 58, 3) := by decide +kernel
theorem dX1_init_119 : decode cX1_init 119 = .ok (.aload_n 0, 1) := by decide +kernel
theorem dX1_init_120 : decode cX1_init 120 = .ok (.new 46, 3) := by decide +kernel
theorem dX1_init_123 : decode cX1_init 123 = .ok (.dup, 1) := by decide +kernel
theorem dX1_init_124 : decode cX1_init 124 = .ok (.iload_n 1, 1) := by decide +kernel
theorem dX1_init_125 : decode cX1_init 125 = .ok (.iload_n 2, 1) := by decide +kernel
theorem dX1_init_126 : decode cX1_init 126 = .ok (.invokespecial 48, 3) := by decide +kernel
theorem dX1_init_129 : decode cX1_init 129 = .ok (.putfield 61, 3) := by decide +kernel
theorem dX1_init_132 : decode cX1_init 132 = .ok (.aload_n 0, 1) := by decide +kernel
theorem dX1_init_133 : decode cX1_init 133 = .ok (.new 46, 3) := by decide +kernel
theorem dX1_init_136 : decode cX1_init 136 = .ok (.dup, 1) := by decide +kernel
theorem dX1_init_137 : decode cX1_init 137 = .ok (.iload_n 1, 1) := by decide +kernel
theorem dX1_init_138 : decode cX1_init 138 = .ok (.iload_n 2, 1) := by decide +kernel
theorem dX1_init_139 : decode cX1_init 139 = .ok (.invokespecial 48, 3) := by decide +kernel
theorem dX1_init_142 : decode cX1_init 142 = .ok (.putfield 64, 3) := by decide +kernel
theorem dX1_init_145 : decode cX1_init 145 = .ok (.aload_n 0, 1) := by decide +kernel
theorem dX1_init_146 : decode cX1_init 146 = .ok (.new 67, 3) := by decide +kernel
theorem dX1_init_149 : decode cX1_init 149 = .ok (.dup, 1) := by decide +kernel
theorem dX1_init_150 : decode cX1_init 150 = .ok (.iload_n 1, 1) := by decide +kernel
theorem dX1_init_151 : decode cX1_init 151 = .ok (.iload_n 2, 1) := by decide +kernel
theorem dX1_init_152 : decode cX1_init 152 = .ok (.invokespecial 69, 3) := by decide +kernel
theorem dX1_init_155 : decode cX1_init 155 = .ok (.putfield 70, 3) := by decide +kernel
theorem dX1_init_158 : decode cX1_init 158 = .ok (.aload_n 0, 1) := by decide +kernel
theorem dX1_init_159 : decode cX1_init 159 = .ok (.bipush 8, 2) := by decide +kernel
theorem dX1_init_161 : decode cX1_init 161 = .ok (.putfield 74, 3) := by decide +kernel
theorem dX1_init_164 : decode cX1_init 164 = .ok (.return_, 1) := by decide +kernel
theorem dX1_clean_0 : decode cX1_clean 0 = .ok (.aload 4, 2) := by decide +kernel
theorem dX1_clean_2 : decode cX1_clean 2 = .ok (.getstatic 77, 3) := by decide +kernel
theorem dX1_clean_5 : decode cX1_clean 5 = .ok (.invokevirtual 83, 3) := by decide +kernel
theorem dX1_clean_8 : decode cX1_clean 8 = .ok (.istore 5, 2) := by decide +kernel
theorem dX1_clean_10 : decode cX1_clean 10 = .ok (.aload_n 0, 1) := by decide +kernel
theorem dX1_clean_11 : decode cX1_clean 11 = .ok (.getfield 51, 3) := by decide +kernel
theorem dX1_clean_14 : decode cX1_clean 14 = .ok (.aload_n 1, 1) := by decide +kernel
theorem dX1_clean_15 : decode cX1_clean 15 = .ok (.invokevirtual 89, 3) := by decide +kernel
theorem dX1_clean_18 : decode cX1_clean 18 = .ok (.aload_n 3, 1) := by decide +kernel
theorem dX1_clean_19 : decode cX1_clean 19 = .ok (.aload_n 0, 1) := by decide +kernel
theorem dX1_clean_20 : decode cX1_clean 20 = .ok (.getfield 51, 3) := by decide +kernel
theorem dX1_clean_23 : decode cX1_clean 23 = .ok (.iload 5, 2) := by decide +kernel
theorem dX1_clean_25 : decode cX1_clean 25 = .ok (.invokevirtual 93, 3) := by decide +kernel
theorem dX1_clean_28 : decode cX1_clean 28 = .ok (.pop, 1) := by decide +kernel
theorem dX1_clean_29 : decode cX1_clean 29 = .ok (.aload_n 0, 1) := by decide +kernel
theorem dX1_clean_30 : decode cX1_clean 30 = .ok (.getfield 55, 3) := by decide +kernel
theorem dX1_clean_33 : decode cX1_clean 33 = .ok (.aload_n 2, 1) := by decide +kernel
theorem dX1_clean_34 : decode cX1_clean 34 = .ok (.invokevirtual 89, 3) := by decide +kernel
theorem dX1_clean_37 : decode cX1_clean 37 = .ok (.aload_n 3, 1) := by decide +kernel
theorem dX1_clean_38 : decode cX1_clean 38 = .ok (.aload_n 0, 1) := by decide +kernel
theorem dX1_clean_39 : decode cX1_clean 39 = .ok (.getfield 55, 3) := by decide +kernel
theorem dX1_clean_42 : decode cX1_clean 42 = .ok (.iload 5, 2) := by decide +kernel
theorem dX1_clean_44 : decode cX1_clean 44 = .ok (.invokevirtual 93, 3) := by decide +kernel
theorem dX1_clean_47 : decode cX1_clean 47 = .ok (.pop, 1) := by decide +kernel
theorem dX1_clean_48 : decode cX1_clean 48 = .ok (.return_, 1) := by decide +kernel
theorem dX1_examine_0 : decode cX1_examine 0 = .ok (.aload_n 0, 1) := by decide +kernel
theorem dX1_examine_1 : decode cX1_examine 1 = .ok (.getfield 70, 3) := by decide +kernel
theorem dX1_examine_4 : decode cX1_examine 4 = .ok (.aload_n 0, 1) := by decide +kernel
theorem dX1_examine_5 : decode cX1_examine 5 = .ok (.getfield 51, 3) := by decide +kernel
theorem dX1_examine_8 : decode cX1_examine 8 = .ok (.aload_n 0, 1) := by decide +kernel
theorem dX1_examine_9 : decode cX1_examine 9 = .ok (.getfield 55, 3) := by decide +kernel
theorem dX1_examine_12 : decode cX1_examine 12 = .ok (.aload_n 2, 1) := by decide +kernel
theorem dX1_examine_13 : decode cX1_examine 13 = .ok (.getstatic 99, 3) := by decide +kernel
theorem dX1_examine_16 : decode cX1_examine 16 = .ok (.invokevirtual 83, 3) := by decide +kernel
theorem dX1_examine_19 : decode cX1_examine 19 = .ok (.aload_n 2, 1) := by decide +kernel
theorem dX1_examine_20 : decode cX1_examine 20 = .ok (.getstatic 102, 3) := by decide +kernel
theorem dX1_examine_23 : decode cX1_examine 23 = .ok (.invokevirtual 83, 3) := by decide +kernel
theorem dX1_examine_26 : decode cX1_examine 26 = .ok (.aload_n 2, 1) := by decide +kernel
theorem dX1_examine_27 : decode cX1_examine 27 = .ok (.getstatic 105, 3) := by decide +kernel
theorem dX1_examine_30 : decode cX1_examine 30 = .ok (.invokevirtual 83, 3) := by decide +kernel
theorem dX1_examine_33 : decode cX1_examine 33 = .ok (.iconst 1, 1) := by decide +kernel
theorem dX1_examine_34 : decode cX1_examine 34 = .ok (.if_icmp .ne 7, 3) := by decide +kernel
theorem dX1_examine_37 : decode cX1_examine 37 = .ok (.iconst 1, 1) := by decide +kernel
theorem dX1_examine_38 : decode cX1_examine 38 = .ok (.goto 4, 3) := by decide +kernel
theorem dX1_examine_41 : decode cX1_examine 41 = .ok (.iconst 0, 1) := by decide +kernel
theorem dX1_examine_42 : decode cX1_examine 42 = .ok (.invokevirtual 108, 3) := by decide +kernel
theorem dX1_examine_45 : decode cX1_examine 45 = .ok (.aload_n 0, 1) := by decide +kernel
theorem dX1_examine_46 : decode cX1_examine 46 = .ok (.getfield 58, 3) := by decide +kernel
theorem dX1_examine_49 : decode cX1_examine 49 = .ok (.aload_n 0, 1) := by decide +kernel
theorem dX1_examine_50 : decode cX1_examine 50 = .ok (.getfield 70, 3) := by decide +kernel
theorem dX1_examine_53 : decode cX1_examine 53 = .ok (.getfield 112, 3) := by decide +kernel
theorem dX1_examine_56 : decode cX1_examine 56 = .ok (.aload_n 0, 1) := by decide +kernel
theorem dX1_examine_57 : decode cX1_examine 57 = .ok (.getfield 70, 3) := by decide +kernel
theorem dX1_examine_60 : decode cX1_examine 60 = .ok (.getfield 115, 3) := by decide +kernel
theorem dX1_examine_63 : decode cX1_examine 63 = .ok (.ineg, 1) := by decide +kernel
theorem dX1_examine_64 : decode cX1_examine 64 = .ok (.aload_n 0, 1) := by decide +kernel
theorem dX1_examine_65 : decode cX1_examine 65 = .ok (.getfield 70, 3) := by decide +kernel
theorem dX1_examine_68 : decode cX1_examine 68 = .ok (.getfield 118, 3) := by decide +kernel
theorem dX1_examine_71 : decode cX1_examine 71 = .ok (.ineg, 1) := by decide +kernel
theorem dX1_examine_72 : decode cX1_examine 72 = .ok (.invokevirtual 121, 3) := by decide +kernel
theorem dX1_examine_75 : decode cX1_examine 75 = .ok (.aload_n 2, 1) := by decide +kernel
theorem dX1_examine_76 : decode cX1_examine 76 = .ok (.getstatic 125, 3) := by decide +kernel
theorem dX1_examine_79 : decode cX1_examine 79 = .ok (.invokevirtual 83, 3) := by decide +kernel
theorem dX1_examine_82 : decode cX1_examine 82 = .ok (.istore 4, 2) := by decide +kernel
theorem dX1_examine_84 : decode cX1_examine 84 = .ok (.aload_n 0, 1) := by decide +kernel
theorem dX1_examine_85 : decode cX1_examine 85 = .ok (.getfield 61, 3) := by decide +kernel
theorem dX1_examine_88 : decode cX1_examine 88 = .ok (.aload_n 0, 1) := by decide +kernel
theorem dX1_examine_89 : decode cX1_examine 89 = .ok (.getfield 51, 3) := by decide +kernel
theorem dX1_examine_92 : decode cX1_examine 92 = .ok (.aload_n 0, 1) := by decide +kernel
theorem dX1_examine_93 : decode cX1_examine 93 = .ok (.getfield 58, 3) := by decide +kernel
theorem dX1_examine_96 : decode cX1_examine 96 = .ok (.iload 4, 2) := by decide +kernel
theorem dX1_examine_98 : decode cX1_examine 98 = .ok (.invokevirtual 128, 3) := by decide +kernel
theorem dX1_examine_101 : decode cX1_examine 101 = .ok (.aload_n 0, 1) := by decide +kernel
theorem dX1_examine_102 : decode cX1_examine 102 = .ok (.getfield 61, 3) := by decide +kernel
theorem dX1_examine_105 : decode cX1_examine 105 = .ok (.aload_n 1, 1) := by decide +kernel
theorem dX1_examine_106 : decode cX1_examine 106 = .ok (.invokevirtual 132, 3) := by decide +kernel
theorem dX1_examine_109 : decode cX1_examine 109 = .ok (.aload_n 0, 1) := by decide +kernel
theorem dX1_examine_110 : decode cX1_examine 110 = .ok (.getfield 64, 3) := by decide +kernel
theorem dX1_examine_113 : decode cX1_examine 113 = .ok (.aload_n 0, 1) := by decide +kernel
theorem dX1_examine_114 : decode cX1_examine 114 = .ok (.getfield 58, 3) := by decide +kernel
theorem dX1_examine_117 : decode cX1_examine 117 = .ok (.aload_n 0, 1) := by decide +kernel
theorem dX1_examine_118 : decode cX1_examine 118 = .ok (.getfield 51, 3) := by decide +kernel
theorem dX1_examine_121 : decode cX1_examine 121 = .ok (.iload 4, 2) := by decide +kernel
theorem dX1_examine_123 : decode cX1_examine 123 = .ok (.invokevirtual 128, 3) := by decide +kernel
theorem dX1_examine_126 : decode cX1_examine 126 = .ok (.aload_n 0, 1) := by decide +kernel
theorem dX1_examine_127 : decode cX1_examine 127 = .ok (.getfield 64, 3) := by decide +kernel
theorem dX1_examine_130 : decode cX1_examine 130 = .ok (.aload_n 1, 1) := by decide +kernel
theorem dX1_examine_131 : decode cX1_examine 131 = .ok (.invokevirtual 132, 3) := by decide +kernel
theorem dX1_examine_134 : decode cX1_examine 134 = .ok (.aload_n 0, 1) := by decide +kernel
theorem dX1_examine_135 : decode cX1_examine 135 = .ok (.aload_n 2, 1) := by decide +kernel
theorem dX1_examine_136 : decode cX1_examine 136 = .ok (.getstatic 135, 3) := by decide +kernel
theorem dX1_examine_139 : decode cX1_examine 139 = .ok (.invokevirtual 83, 3) := by decide +kernel
theorem dX1_examine_142 : decode cX1_examine 142 = .ok (.invokevirtual 138, 3) := by decide +kernel
theorem dX1_examine_145 : decode cX1_examine 145 = .ok (.aload_n 0, 1) := by decide +kernel
theorem dX1_examine_146 : decode cX1_examine 146 = .ok (.aload_n 0, 1) := by decide +kernel
theorem dX1_examine_147 : decode cX1_examine 147 = .ok (.aload_n 2, 1) := by decide +kernel
theorem dX1_examine_148 : decode cX1_examine 148 = .ok (.getstatic 142, 3) := by decide +kernel
theorem dX1_examine_151 : decode cX1_examine 151 = .ok (.invokevirtual 83, 3) := by decide +kernel
theorem dX1_examine_154 : decode cX1_examine 154 = .ok (.aload_n 0, 1) := by decide +kernel
theorem dX1_examine_155 : decode cX1_examine 155 = .ok (.getfield 15, 3) := by decide +kernel
theorem dX1_examine_158 : decode cX1_examine 158 = .ok (.invokevirtual 145, 3) := by decide +kernel
theorem dX1_examine_161 : decode cX1_examine 161 = .ok (.putfield 149, 3) := by decide +kernel
theorem dX1_examine_164 : decode cX1_examine 164 = .ok (.aload_n 0, 1) := by decide +kernel
theorem dX1_examine_165 : decode cX1_examine 165 = .ok (.invokevirtual 152, 3) := by decide +kernel
theorem dX1_examine_168 : decode cX1_examine 168 = .ok (.aload_n 0, 1) := by decide +kernel
theorem dX1_examine_169 : decode cX1_examine 169 = .ok (.aload_n 2, 1) := by decide +kernel
theorem dX1_examine_170 : decode cX1_examine 170 = .ok (.getstatic 155, 3) := by decide +kernel
theorem dX1_examine_173 : decode cX1_examine 173 = .ok (.invokevirtual 83, 3) := by decide +kernel
theorem dX1_examine_176 : decode cX1_examine 176 = .ok (.iconst 1, 1) := by decide +kernel
theorem dX1_examine_177 : decode cX1_examine 177 = .ok (.if_icmp .ne 7, 3) := by decide +kernel
theorem dX1_examine_180 : decode cX1_examine 180 = .ok (.iconst 1, 1) := by decide +kernel
theorem dX1_examine_181 : decode cX1_examine 181 = .ok (.goto 4, 3) := by decide +kernel
theorem dX1_examine_184 : decode cX1_examine 184 = .ok (.iconst 0, 1) := by decide +kernel
theorem dX1_examine_185 : decode cX1_examine 185 = .ok (.invokevirtual 158, 3) := by decide +kernel
theorem dX1_examine_188 : decode cX1_examine 188 = .ok (.aload_n 0, 1) := by decide +kernel
theorem dX1_examine_189 : decode cX1_examine 189 = .ok (.aload_n 2, 1) := by decide +kernel
theorem dX1_examine_190 : decode cX1_examine 190 = .ok (.getstatic 162, 3) := by decide +kernel
theorem dX1_examine_193 : decode cX1_examine 193 = .ok (.invokevirtual 83, 3) := by decide +kernel
theorem dX1_examine_196 : decode cX1_examine 196 = .ok (.invokevirtual 165, 3) := by decide +kernel
theorem dX1_examine_199 : decode cX1_examine 199 = .ok (.aload_n 0, 1) := by decide +kernel
theorem dX1_examine_200 : decode cX1_examine 200 = .ok (.aload_n 2, 1) := by decide +kernel
theorem dX1_examine_201 : decode cX1_examine 201 = .ok (.getstatic 168, 3) := by decide +kernel
theorem dX1_examine_204 : decode cX1_examine 204 = .ok (.invokevirtual 83, 3) := by decide +kernel
theorem dX1_examine_207 : decode cX1_examine 207 = .ok (.iconst 1, 1) := by decide +kernel
theorem dX1_examine_208 : decode cX1_examine 208 = .ok (.if_icmp .ne 7, 3) := by decide +kernel
theorem dX1_examine_211 : decode cX1_examine 211 = .ok (.iconst 1, 1) := by decide +kernel
theorem dX1_examine_212 : decode cX1_examine 212 = .ok (.goto 4, 3) := by decide +kernel
theorem dX1_examine_215 : decode cX1_examine 215 = .ok (.iconst 0, 1) := by decide +kernel
theorem dX1_examine_216 : decode cX1_examine 216 = .ok (.aload_n 3, 1) := by decide +kernel
theorem dX1_examine_217 : decode cX1_examine 217 = .ok (.invokevirtual 171, 3) := by decide +kernel
theorem dX1_examine_220 : decode cX1_examine 220 = .ok (.return_, 1) := by decide +kernel
theorem dX1_measureBlocks_0 : decode cX1_measureBlocks 0 = .ok (.aload_n 0, 1) := by decide +kernel
theorem dX1_measureBlocks_1 : decode cX1_measureBlocks 1 = .ok (.iconst 4, 1) := by decide +kernel
theorem dX1_measureBlocks_2 : decode cX1_measureBlocks 2 = .ok (.iload_n 1, 1) := by decide +kernel
theorem dX1_measureBlocks_3 : decode cX1_measureBlocks 3 = .ok (.invokestatic 175, 3) := by decide +kernel
theorem dX1_measureBlocks_6 : decode cX1_measureBlocks 6 = .ok (.putfield 74, 3) := by decide +kernel
theorem dX1_measureBlocks_9 : decode cX1_measureBlocks 9 = .ok (.aload_n 0, 1) := by decide +kernel
theorem dX1_measureBlocks_10 : decode cX1_measureBlocks 10 = .ok (.aload_n 0, 1) := by decide +kernel
theorem dX1_measureBlocks_11 : decode cX1_measureBlocks 11 = .ok (.getfield 39, 3) := by decide +kernel
theorem dX1_measureBlocks_14 : decode cX1_measureBlocks 14 = .ok (.aload_n 0, 1) := by decide +kernel
theorem dX1_measureBlocks_15 : decode cX1_measureBlocks 15 = .ok (.getfield 74, 3) := by decide +kernel
theorem dX1_measureBlocks_18 : decode cX1_measureBlocks 18 = .ok (.iadd, 1) := by decide +kernel
theorem dX1_measureBlocks_19 : decode cX1_measureBlocks 19 = .ok (.iconst 1, 1) := by decide +kernel
theorem dX1_measureBlocks_20 : decode cX1_measureBlocks 20 = .ok (.isub, 1) := by decide +kernel
theorem dX1_measureBlocks_21 : decode cX1_measureBlocks 21 = .ok (.aload_n 0, 1) := by decide +kernel
theorem dX1_measureBlocks_22 : decode cX1_measureBlocks 22 = .ok (.getfield 74, 3) := by decide +kernel
theorem dX1_measureBlocks_25 : decode cX1_measureBlocks 25 = .ok (.idiv, 1) := by decide +kernel
theorem dX1_measureBlocks_26 : decode cX1_measureBlocks 26 = .ok (.putfield 181, 3) := by decide +kernel
theorem dX1_measureBlocks_29 : decode cX1_measureBlocks 29 = .ok (.aload_n 0, 1) := by decide +kernel
theorem dX1_measureBlocks_30 : decode cX1_measureBlocks 30 = .ok (.aload_n 0, 1) := by decide +kernel
theorem dX1_measureBlocks_31 : decode cX1_measureBlocks 31 = .ok (.getfield 43, 3) := by decide +kernel
theorem dX1_measureBlocks_34 : decode cX1_measureBlocks 34 = .ok (.aload_n 0, 1) := by decide +kernel
theorem dX1_measureBlocks_35 : decode cX1_measureBlocks 35 = .ok (.getfield 74, 3) := by decide +kernel
theorem dX1_measureBlocks_38 : decode cX1_measureBlocks 38 = .ok (.iadd, 1) := by decide +kernel
theorem dX1_measureBlocks_39 : decode cX1_measureBlocks 39 = .ok (.iconst 1, 1) := by decide +kernel
theorem dX1_measureBlocks_40 : decode cX1_measureBlocks 40 = .ok (.isub, 1) := by decide +kernel
theorem dX1_measureBlocks_41 : decode cX1_measureBlocks 41 = .ok (.aload_n 0, 1) := by decide +kernel
theorem dX1_measureBlocks_42 : decode cX1_measureBlocks 42 = .ok (.getfield 74, 3) := by decide +kernel
theorem dX1_measureBlocks_45 : decode cX1_measureBlocks 45 = .ok (.idiv, 1) := by decide +kernel
theorem dX1_measureBlocks_46 : decode cX1_measureBlocks 46 = .ok (.putfield 184, 3) := by decide +kernel
theorem dX1_measureBlocks_49 : decode cX1_measureBlocks 49 = .ok (.iconst 0, 1) := by decide +kernel
theorem dX1_measureBlocks_50 : decode cX1_measureBlocks 50 = .ok (.istore_n 2, 1) := by decide +kernel
theorem dX1_measureBlocks_51 : decode cX1_measureBlocks 51 = .ok (.iload_n 2, 1) := by decide +kernel
theorem dX1_measureBlocks_52 : decode cX1_measureBlocks 52 = .ok (.aload_n 0, 1) := by decide +kernel
theorem dX1_measureBlocks_53 : decode cX1_measureBlocks 53 = .ok (.invokevirtual 187, 3) := by decide +kernel
theorem dX1_measureBlocks_56 : decode cX1_measureBlocks 56 = .ok (.if_icmp .ge 89, 3) := by decide +kernel
theorem dX1_measureBlocks_59 : decode cX1_measureBlocks 59 = .ok (.iload_n 2, 1) := by decide +kernel
theorem dX1_measureBlocks_60 : decode cX1_measureBlocks 60 = .ok (.iconst 1, 1) := by decide +kernel
theorem dX1_measureBlocks_61 : decode cX1_measureBlocks 61 = .ok (.aload_n 0, 1) := by decide +kernel
theorem dX1_measureBlocks_62 : decode cX1_measureBlocks 62 = .ok (.getfield 181, 3) := by decide +kernel
theorem dX1_measureBlocks_65 : decode cX1_measureBlocks 65 = .ok (.invokestatic 175, 3) := by decide +kernel
theorem dX1_measureBlocks_68 : decode cX1_measureBlocks 68 = .ok (.irem, 1) := by decide +kernel
theorem dX1_measureBlocks_69 : decode cX1_measureBlocks 69 = .ok (.aload_n 0, 1) := by decide +kernel
theorem dX1_measureBlocks_70 : decode cX1_measureBlocks 70 = .ok (.getfield 74, 3) := by decide +kernel
theorem dX1_measureBlocks_73 : decode cX1_measureBlocks 73 = .ok (.imul, 1) := by decide +kernel
theorem dX1_measureBlocks_74 : decode cX1_measureBlocks 74 = .ok (.istore_n 3, 1) := by decide +kernel
theorem dX1_measureBlocks_75 : decode cX1_measureBlocks 75 = .ok (.iload_n 2, 1) := by decide +kernel
theorem dX1_measureBlocks_76 : decode cX1_measureBlocks 76 = .ok (.iconst 1, 1) := by decide +kernel
theorem dX1_measureBlocks_77 : decode cX1_measureBlocks 77 = .ok (.aload_n 0, 1) := by decide +kernel
theorem dX1_measureBlocks_78 : decode cX1_measureBlocks 78 = .ok (.getfield 181, 3) := by decide +kernel
theorem dX1_measureBlocks_81 : decode cX1_measureBlocks 81 = .ok (.invokestatic 175, 3) := by decide +kernel
theorem dX1_measureBlocks_84 : decode cX1_measureBlocks 84 = .ok (.idiv, 1) := by decide +kernel
theorem dX1_measureBlocks_85 : decode cX1_measureBlocks 85 = .ok (.aload_n 0, 1) := by decide +kernel
theorem dX1_measureBlocks_86 : decode cX1_measureBlocks 86 = .ok (.getfield 74, 3) := by decide +kernel
theorem dX1_measureBlocks_89 : decode cX1_measureBlocks 89 = .ok (.imul, 1) := by decide +kernel
theorem dX1_measureBlocks_90 : decode cX1_measureBlocks 90 = .ok (.istore 4, 2) := by decide +kernel
theorem dX1_measureBlocks_92 : decode cX1_measureBlocks 92 = .ok (.aload_n 0, 1) := by decide +kernel
theorem dX1_measureBlocks_93 : decode cX1_measureBlocks 93 = .ok (.getfield 9, 3) := by decide +kernel
theorem dX1_measureBlocks_96 : decode cX1_measureBlocks 96 = .ok (.iload_n 2, 1) := by decide +kernel
theorem dX1_measureBlocks_97 : decode cX1_measureBlocks 97 = .ok (.aload_n 0, 1) := by decide +kernel
theorem dX1_measureBlocks_98 : decode cX1_measureBlocks 98 = .ok (.getfield 61, 3) := by decide +kernel
theorem dX1_measureBlocks_101 : decode cX1_measureBlocks 101 = .ok (.iload_n 3, 1) := by decide +kernel
theorem dX1_measureBlocks_102 : decode cX1_measureBlocks 102 = .ok (.i2l, 1) := by decide +kernel
theorem dX1_measureBlocks_103 : decode cX1_measureBlocks 103 = .ok (.iload 4, 2) := by decide +kernel
theorem dX1_measureBlocks_105 : decode cX1_measureBlocks 105 = .ok (.i2l, 1) := by decide +kernel
theorem dX1_measureBlocks_106 : decode cX1_measureBlocks 106 = .ok (.aload_n 0, 1) := by decide +kernel
theorem dX1_measureBlocks_107 : decode cX1_measureBlocks 107 = .ok (.getfield 74, 3) := by decide +kernel
theorem dX1_measureBlocks_110 : decode cX1_measureBlocks 110 = .ok (.aload_n 0, 1) := by decide +kernel
theorem dX1_measureBlocks_111 : decode cX1_measureBlocks 111 = .ok (.getfield 74, 3) := by decide +kernel
theorem dX1_measureBlocks_114 : decode cX1_measureBlocks 114 = .ok (.invokevirtual 191, 3) := by decide +kernel
theorem dX1_measureBlocks_117 : decode cX1_measureBlocks 117 = .ok (.aload_n 0, 1) := by decide +kernel
theorem dX1_measureBlocks_118 : decode cX1_measureBlocks 118 = .ok (.getfield 64, 3) := by decide +kernel
theorem dX1_measureBlocks_121 : decode cX1_measureBlocks 121 = .ok (.iload_n 3, 1) := by decide +kernel
theorem dX1_measureBlocks_122 : decode cX1_measureBlocks 122 = .ok (.i2l, 1) := by decide +kernel
theorem dX1_measureBlocks_123 : decode cX1_measureBlocks 123 = .ok (.iload 4, 2) := by decide +kernel
theorem dX1_measureBlocks_125 : decode cX1_measureBlocks 125 = .ok (.i2l, 1) := by decide +kernel
theorem dX1_measureBlocks_126 : decode cX1_measureBlocks 126 = .ok (.aload_n 0, 1) := by decide +kernel
theorem dX1_measureBlocks_127 : decode cX1_measureBlocks 127 = .ok (.getfield 74, 3) := by decide +kernel
theorem dX1_measureBlocks_130 : decode cX1_measureBlocks 130 = .ok (.aload_n 0, 1) := by decide +kernel
theorem dX1_measureBlocks_131 : decode cX1_measureBlocks 131 = .ok (.getfield 74, 3) := by decide +kernel
theorem dX1_measureBlocks_134 : decode cX1_measureBlocks 134 = .ok (.invokevirtual 191, 3) := by decide +kernel
theorem dX1_measureBlocks_137 : decode cX1_measureBlocks 137 = .ok (.iadd, 1) := by decide +kernel
theorem dX1_measureBlocks_138 : decode cX1_measureBlocks 138 = .ok (.iastore, 1) := by decide +kernel
theorem dX1_measureBlocks_139 : decode cX1_measureBlocks 139 = .ok (.iinc 2 1, 3) := by decide +kernel
theorem dX1_measureBlocks_142 : decode cX1_measureBlocks 142 = .ok (.goto (-91), 3) := by decide +kernel
theorem dX1_measureBlocks_145 : decode cX1_measureBlocks 145 = .ok (.return_, 1) := by decide +kernel
theorem dX1_blockCount_0 : decode cX1_blockCount 0 = .ok (.sipush 256, 3) := by decide +kernel
theorem dX1_blockCount_3 : decode cX1_blockCount 3 = .ok (.aload_n 0, 1) := by decide +kernel
theorem dX1_blockCount_4 : decode cX1_blockCount 4 = .ok (.getfield 181, 3) := by decide +kernel
theorem dX1_blockCount_7 : decode cX1_blockCount 7 = .ok (.aload_n 0, 1) := by decide +kernel
theorem dX1_blockCount_8 : decode cX1_blockCount 8 = .ok (.getfield 184, 3) := by decide +kernel
theorem dX1_blockCount_11 : decode cX1_blockCount 11 = .ok (.imul, 1) := by decide +kernel
theorem dX1_blockCount_12 : decode cX1_blockCount 12 = .ok (.invokestatic 195, 3) := by decide +kernel
theorem dX1_blockCount_15 : decode cX1_blockCount 15 = .ok (.ireturn, 1) := by decide +kernel
theorem dX1_group_0 : decode cX1_group 0 = .ok (.aload_n 0, 1) := by decide +kernel
theorem dX1_group_1 : decode cX1_group 1 = .ok (.invokevirtual 187, 3) := by decide +kernel
theorem dX1_group_4 : decode cX1_group 4 = .ok (.istore_n 3, 1) := by decide +kernel
theorem dX1_group_5 : decode cX1_group 5 = .ok (.iconst 0, 1) := by decide +kernel
theorem dX1_group_6 : decode cX1_group 6 = .ok (.istore 4, 2) := by decide +kernel
theorem dX1_group_8 : decode cX1_group 8 = .ok (.iload 4, 2) := by decide +kernel
theorem dX1_group_10 : decode cX1_group 10 = .ok (.iload_n 3, 1) := by decide +kernel
theorem dX1_group_11 : decode cX1_group 11 = .ok (.if_icmp .ge 14, 3) := by decide +kernel
theorem dX1_group_14 : decode cX1_group 14 = .ok (.aload_n 2, 1) := by decide +kernel
theorem dX1_group_15 : decode cX1_group 15 = .ok (.iload 4, 2) := by decide +kernel
theorem dX1_group_17 : decode cX1_group 17 = .ok (.iconst (-1), 1) := by decide +kernel
theorem dX1_group_18 : decode cX1_group 18 = .ok (.iastore, 1) := by decide +kernel
theorem dX1_group_19 : decode cX1_group 19 = .ok (.iinc 4 1, 3) := by decide +kernel
theorem dX1_group_22 : decode cX1_group 22 = .ok (.goto (-14), 3) := by decide +kernel
theorem dX1_group_25 : decode cX1_group 25 = .ok (.iconst 0, 1) := by decide +kernel
theorem dX1_group_26 : decode cX1_group 26 = .ok (.istore 4, 2) := by decide +kernel
theorem dX1_group_28 : decode cX1_group 28 = .ok (.iconst 0, 1) := by decide +kernel
theorem dX1_group_29 : decode cX1_group 29 = .ok (.istore 5, 2) := by decide +kernel
theorem dX1_group_31 : decode cX1_group 31 = .ok (.iload 5, 2) := by decide +kernel
theorem dX1_group_33 : decode cX1_group 33 = .ok (.iload_n 3, 1) := by decide +kernel
theorem dX1_group_34 : decode cX1_group 34 = .ok (.if_icmp .ge 40, 3) := by decide +kernel
theorem dX1_group_37 : decode cX1_group 37 = .ok (.aload_n 2, 1) := by decide +kernel
theorem dX1_group_38 : decode cX1_group 38 = .ok (.iload 5, 2) := by decide +kernel
theorem dX1_group_40 : decode cX1_group 40 = .ok (.iaload, 1) := by decide +kernel
theorem dX1_group_41 : decode cX1_group 41 = .ok (.ifCond .ge 27, 3) := by decide +kernel
theorem dX1_group_44 : decode cX1_group 44 = .ok (.aload_n 0, 1) := by decide +kernel
theorem dX1_group_45 : decode cX1_group 45 = .ok (.getfield 9, 3) := by decide +kernel
theorem dX1_group_48 : decode cX1_group 48 = .ok (.iload 5, 2) := by decide +kernel
theorem dX1_group_50 : decode cX1_group 50 = .ok (.iaload, 1) := by decide +kernel
theorem dX1_group_51 : decode cX1_group 51 = .ok (.iload_n 1, 1) := by decide +kernel
theorem dX1_group_52 : decode cX1_group 52 = .ok (.if_icmp .le 16, 3) := by decide +kernel
theorem dX1_group_55 : decode cX1_group 55 = .ok (.aload_n 0, 1) := by decide +kernel
theorem dX1_group_56 : decode cX1_group 56 = .ok (.iload 5, 2) := by decide +kernel
theorem dX1_group_58 : decode cX1_group 58 = .ok (.iload 4, 2) := by decide +kernel
theorem dX1_group_60 : decode cX1_group 60 = .ok (.iload_n 1, 1) := by decide +kernel
theorem dX1_group_61 : decode cX1_group 61 = .ok (.aload_n 2, 1) := by decide +kernel
theorem dX1_group_62 : decode cX1_group 62 = .ok (.invokevirtual 198, 3) := by decide +kernel
theorem dX1_group_65 : decode cX1_group 65 = .ok (.iinc 4 1, 3) := by decide +kernel
theorem dX1_group_68 : decode cX1_group 68 = .ok (.iinc 5 1, 3) := by decide +kernel
theorem dX1_group_71 : decode cX1_group 71 = .ok (.goto (-40), 3) := by decide +kernel
theorem dX1_group_74 : decode cX1_group 74 = .ok (.iload 4, 2) := by decide +kernel
theorem dX1_group_76 : decode cX1_group 76 = .ok (.ireturn, 1) := by decide +kernel
theorem dX1_mark_0 : decode cX1_mark 0 = .ok (.aload_n 0, 1) := by decide +kernel
theorem dX1_mark_1 : decode cX1_mark 1 = .ok (.iload_n 1, 1) := by decide +kernel
theorem dX1_mark_2 : decode cX1_mark 2 = .ok (.iload_n 2, 1) := by decide +kernel
theorem dX1_mark_3 : decode cX1_mark 3 = .ok (.iload_n 3, 1) := by decide +kernel
theorem dX1_mark_4 : decode cX1_mark 4 = .ok (.aload 4, 2) := by decide +kernel
theorem dX1_mark_6 : decode cX1_mark 6 = .ok (.iconst 0, 1) := by decide +kernel
theorem dX1_mark_7 : decode cX1_mark 7 = .ok (.invokevirtual 202, 3) := by decide +kernel
theorem dX1_mark_10 : decode cX1_mark 10 = .ok (.istore 5, 2) := by decide +kernel
theorem dX1_mark_12 : decode cX1_mark 12 = .ok (.iconst 0, 1) := by decide +kernel
theorem dX1_mark_13 : decode cX1_mark 13 = .ok (.istore 6, 2) := by decide +kernel
theorem dX1_mark_15 : decode cX1_mark 15 = .ok (.iload 5, 2) := by decide +kernel
theorem dX1_mark_17 : decode cX1_mark 17 = .ok (.ifCond .le 128, 3) := by decide +kernel
theorem dX1_mark_20 : decode cX1_mark 20 = .ok (.iload 6, 2) := by decide +kernel
theorem dX1_mark_22 : decode cX1_mark 22 = .ok (.sipush 256, 3) := by decide +kernel
theorem dX1_mark_25 : decode cX1_mark 25 = .ok (.if_icmp .ge 120, 3) := by decide +kernel
theorem dX1_mark_28 : decode cX1_mark 28 = .ok (.iinc 5 (-1), 3) := by decide +kernel
theorem dX1_mark_31 : decode cX1_mark 31 = .ok (.aload_n 0, 1) := by decide +kernel
theorem dX1_mark_32 : decode cX1_mark 32 = .ok (.getfield 21, 3) := by decide +kernel
theorem dX1_mark_35 : decode cX1_mark 35 = .ok (.iload 5, 2) := by decide +kernel
theorem dX1_mark_37 : decode cX1_mark 37 = .ok (.iaload, 1) := by decide +kernel
theorem dX1_mark_38 : decode cX1_mark 38 = .ok (.istore 7, 2) := by decide +kernel
theorem dX1_mark_40 : decode cX1_mark 40 = .ok (.iload 7, 2) := by decide +kernel
theorem dX1_mark_42 : decode cX1_mark 42 = .ok (.iconst 1, 1) := by decide +kernel
theorem dX1_mark_43 : decode cX1_mark 43 = .ok (.aload_n 0, 1) := by decide +kernel
theorem dX1_mark_44 : decode cX1_mark 44 = .ok (.getfield 181, 3) := by decide +kernel
theorem dX1_mark_47 : decode cX1_mark 47 = .ok (.invokestatic 175, 3) := by decide +kernel
theorem dX1_mark_50 : decode cX1_mark 50 = .ok (.irem, 1) := by decide +kernel
theorem dX1_mark_51 : decode cX1_mark 51 = .ok (.istore 8, 2) := by decide +kernel
theorem dX1_mark_53 : decode cX1_mark 53 = .ok (.iload 8, 2) := by decide +kernel
theorem dX1_mark_55 : decode cX1_mark 55 = .ok (.ifCond .le 19, 3) := by decide +kernel
theorem dX1_mark_58 : decode cX1_mark 58 = .ok (.aload_n 0, 1) := by decide +kernel
theorem dX1_mark_59 : decode cX1_mark 59 = .ok (.iload 7, 2) := by decide +kernel
theorem dX1_mark_61 : decode cX1_mark 61 = .ok (.iconst 1, 1) := by decide +kernel
theorem dX1_mark_62 : decode cX1_mark 62 = .ok (.isub, 1) := by decide +kernel
theorem dX1_mark_63 : decode cX1_mark 63 = .ok (.iload_n 2, 1) := by decide +kernel
theorem dX1_mark_64 : decode cX1_mark 64 = .ok (.iload_n 3, 1) := by decide +kernel
theorem dX1_mark_65 : decode cX1_mark 65 = .ok (.aload 4, 2) := by decide +kernel
theorem dX1_mark_67 : decode cX1_mark 67 = .ok (.iload 5, 2) := by decide +kernel
theorem dX1_mark_69 : decode cX1_mark 69 = .ok (.invokevirtual 202, 3) := by decide +kernel
theorem dX1_mark_72 : decode cX1_mark 72 = .ok (.istore 5, 2) := by decide +kernel
theorem dX1_mark_74 : decode cX1_mark 74 = .ok (.iload 8, 2) := by decide +kernel
theorem dX1_mark_76 : decode cX1_mark 76 = .ok (.iconst 1, 1) := by decide +kernel
theorem dX1_mark_77 : decode cX1_mark 77 = .ok (.iadd, 1) := by decide +kernel
theorem dX1_mark_78 : decode cX1_mark 78 = .ok (.aload_n 0, 1) := by decide +kernel
theorem dX1_mark_79 : decode cX1_mark 79 = .ok (.getfield 181, 3) := by decide +kernel
theorem dX1_mark_82 : decode cX1_mark 82 = .ok (.if_icmp .ge 19, 3) := by decide +kernel
theorem dX1_mark_85 : decode cX1_mark 85 = .ok (.aload_n 0, 1) := by decide +kernel
theorem dX1_mark_86 : decode cX1_mark 86 = .ok (.iload 7, 2) := by decide +kernel
theorem dX1_mark_88 : decode cX1_mark 88 = .ok (.iconst 1, 1) := by decide +kernel
theorem dX1_mark_89 : decode cX1_mark 89 = .ok (.iadd, 1) := by decide +kernel
theorem dX1_mark_90 : decode cX1_mark 90 = .ok (.iload_n 2, 1) := by decide +kernel
theorem dX1_mark_91 : decode cX1_mark 91 = .ok (.iload_n 3, 1) := by decide +kernel
theorem dX1_mark_92 : decode cX1_mark 92 = .ok (.aload 4, 2) := by decide +kernel
theorem dX1_mark_94 : decode cX1_mark 94 = .ok (.iload 5, 2) := by decide +kernel
theorem dX1_mark_96 : decode cX1_mark 96 = .ok (.invokevirtual 202, 3) := by decide +kernel
theorem dX1_mark_99 : decode cX1_mark 99 = .ok (.istore 5, 2) := by decide +kernel
theorem dX1_mark_101 : decode cX1_mark 101 = .ok (.aload_n 0, 1) := by decide +kernel
theorem dX1_mark_102 : decode cX1_mark 102 = .ok (.iload 7, 2) := by decide +kernel
theorem dX1_mark_104 : decode cX1_mark 104 = .ok (.aload_n 0, 1) := by decide +kernel
theorem dX1_mark_105 : decode cX1_mark 105 = .ok (.getfield 181, 3) := by decide +kernel
theorem dX1_mark_108 : decode cX1_mark 108 = .ok (.isub, 1) := by decide +kernel
theorem dX1_mark_109 : decode cX1_mark 109 = .ok (.iload_n 2, 1) := by decide +kernel
theorem dX1_mark_110 : decode cX1_mark 110 = .ok (.iload_n 3, 1) := by decide +kernel
theorem dX1_mark_111 : decode cX1_mark 111 = .ok (.aload 4, 2) := by decide +kernel
theorem dX1_mark_113 : decode cX1_mark 113 = .ok (.iload 5, 2) := by decide +kernel
theorem dX1_mark_115 : decode cX1_mark 115 = .ok (.invokevirtual 202, 3) := by decide +kernel
theorem dX1_mark_118 : decode cX1_mark 118 = .ok (.istore 5, 2) := by decide +kernel
theorem dX1_mark_120 : decode cX1_mark 120 = .ok (.aload_n 0, 1) := by decide +kernel
theorem dX1_mark_121 : decode cX1_mark 121 = .ok (.iload 7, 2) := by decide +kernel
theorem dX1_mark_123 : decode cX1_mark 123 = .ok (.aload_n 0, 1) := by decide +kernel
theorem dX1_mark_124 : decode cX1_mark 124 = .ok (.getfield 181, 3) := by decide +kernel
theorem dX1_mark_127 : decode cX1_mark 127 = .ok (.iadd, 1) := by decide +kernel
theorem dX1_mark_128 : decode cX1_mark 128 = .ok (.iload_n 2, 1) := by decide +kernel
theorem dX1_mark_129 : decode cX1_mark 129 = .ok (.iload_n 3, 1) := by decide +kernel
theorem dX1_mark_130 : decode cX1_mark 130 = .ok (.aload 4, 2) := by decide +kernel
theorem dX1_mark_132 : decode cX1_mark 132 = .ok (.iload 5, 2) := by decide +kernel
theorem dX1_mark_134 : decode cX1_mark 134 = .ok (.invokevirtual 202, 3) := by decide +kernel
theorem dX1_mark_137 : decode cX1_mark 137 = .ok (.istore 5, 2) := by decide +kernel
theorem dX1_mark_139 : decode cX1_mark 139 = .ok (.iinc 6 1, 3) := by decide +kernel
theorem dX1_mark_142 : decode cX1_mark 142 = .ok (.goto (-127), 3) := by decide +kernel
theorem dX1_mark_145 : decode cX1_mark 145 = .ok (.return_, 1) := by decide +kernel
theorem dX1_join_0 : decode cX1_join 0 = .ok (.iload_n 1, 1) := by decide +kernel
theorem dX1_join_1 : decode cX1_join 1 = .ok (.ifCond .lt 26, 3) := by decide +kernel
theorem dX1_join_4 : decode cX1_join 4 = .ok (.iload_n 1, 1) := by decide +kernel
theorem dX1_join_5 : decode cX1_join 5 = .ok (.aload_n 0, 1) := by decide +kernel
theorem dX1_join_6 : decode cX1_join 6 = .ok (.invokevirtual 187, 3) := by decide +kernel
theorem dX1_join_9 : decode cX1_join 9 = .ok (.if_icmp .ge 18, 3) := by decide +kernel
theorem dX1_join_12 : decode cX1_join 12 = .ok (.iload 5, 2) := by decide +kernel
theorem dX1_join_14 : decode cX1_join 14 = .ok (.ifCond .lt 13, 3) := by decide +kernel
theorem dX1_join_17 : decode cX1_join 17 = .ok (.iload 5, 2) := by decide +kernel
theorem dX1_join_19 : decode cX1_join 19 = .ok (.aload_n 0, 1) := by decide +kernel
theorem dX1_join_20 : decode cX1_join 20 = .ok (.getfield 21, 3) := by decide +kernel
theorem dX1_join_23 : decode cX1_join 23 = .ok (.arraylength, 1) := by decide +kernel
theorem dX1_join_24 : decode cX1_join 24 = .ok (.if_icmp .lt 6, 3) := by decide +kernel
theorem dX1_join_27 : decode cX1_join 27 = .ok (.iload 5, 2) := by decide +kernel
theorem dX1_join_29 : decode cX1_join 29 = .ok (.ireturn, 1) := by decide +kernel
theorem dX1_join_30 : decode cX1_join 30 = .ok (.aload 4, 2) := by decide +kernel
theorem dX1_join_32 : decode cX1_join 32 = .ok (.iload_n 1, 1) := by decide +kernel
theorem dX1_join_33 : decode cX1_join 33 = .ok (.iaload, 1) := by decide +kernel
theorem dX1_join_34 : decode cX1_join 34 = .ok (.ifCond .ge 13, 3) := by decide +kernel
theorem dX1_join_37 : decode cX1_join 37 = .ok (.aload_n 0, 1) := by decide +kernel
theorem dX1_join_38 : decode cX1_join 38 = .ok (.getfield 9, 3) := by decide +kernel
theorem dX1_join_41 : decode cX1_join 41 = .ok (.iload_n 1, 1) := by decide +kernel
theorem dX1_join_42 : decode cX1_join 42 = .ok (.iaload, 1) := by decide +kernel
theorem dX1_join_43 : decode cX1_join 43 = .ok (.iload_n 3, 1) := by decide +kernel
theorem dX1_join_44 : decode cX1_join 44 = .ok (.if_icmp .gt 6, 3) := by decide +kernel
theorem dX1_join_47 : decode cX1_join 47 = .ok (.iload 5, 2) := by decide +kernel
theorem dX1_join_49 : decode cX1_join 49 = .ok (.ireturn, 1) := by decide +kernel
theorem dX1_join_50 : decode cX1_join 50 = .ok (.aload 4, 2) := by decide +kernel
theorem dX1_join_52 : decode cX1_join 52 = .ok (.iload_n 1, 1) := by decide +kernel
theorem dX1_join_53 : decode cX1_join 53 = .ok (.iload_n 2, 1) := by decide +kernel
theorem dX1_join_54 : decode cX1_join 54 = .ok (.iastore, 1) := by decide +kernel
theorem dX1_join_55 : decode cX1_join 55 = .ok (.aload_n 0, 1) := by decide +kernel
theorem dX1_join_56 : decode cX1_join 56 = .ok (.getfield 21, 3) := by decide +kernel
theorem dX1_join_59 : decode cX1_join 59 = .ok (.iload 5, 2) := by decide +kernel
theorem dX1_join_61 : decode cX1_join 61 = .ok (.iload_n 1, 1) := by decide +kernel
theorem dX1_join_62 : decode cX1_join 62 = .ok (.iastore, 1) := by decide +kernel
theorem dX1_join_63 : decode cX1_join 63 = .ok (.iload 5, 2) := by decide +kernel
theorem dX1_join_65 : decode cX1_join 65 = .ok (.iconst 1, 1) := by decide +kernel
theorem dX1_join_66 : decode cX1_join 66 = .ok (.iadd, 1) := by decide +kernel
theorem dX1_join_67 : decode cX1_join 67 = .ok (.ireturn, 1) := by decide +kernel
theorem dX1_formRegions_0 : decode cX1_formRegions 0 = .ok (.iconst 0, 1) := by decide +kernel
theorem dX1_formRegions_1 : decode cX1_formRegions 1 = .ok (.istore_n 1, 1) := by decide +kernel
theorem dX1_formRegions_2 : decode cX1_formRegions 2 = .ok (.iload_n 1, 1) := by decide +kernel
theorem dX1_formRegions_3 : decode cX1_formRegions 3 = .ok (.aload_n 0, 1) := by decide +kernel
theorem dX1_formRegions_4 : decode cX1_formRegions 4 = .ok (.getfield 149, 3) := by decide +kernel
theorem dX1_formRegions_7 : decode cX1_formRegions 7 = .ok (.if_icmp .ge 65, 3) := by decide +kernel
theorem dX1_formRegions_10 : decode cX1_formRegions 10 = .ok (.iload_n 1, 1) := by decide +kernel
theorem dX1_formRegions_11 : decode cX1_formRegions 11 = .ok (.aload_n 0, 1) := by decide +kernel
theorem dX1_formRegions_12 : decode cX1_formRegions 12 = .ok (.getfield 30, 3) := by decide +kernel
theorem dX1_formRegions_15 : decode cX1_formRegions 15 = .ok (.arraylength, 1) := by decide +kernel
theorem dX1_formRegions_16 : decode cX1_formRegions 16 = .ok (.if_icmp .ge 56, 3) := by decide +kernel
theorem dX1_formRegions_19 : decode cX1_formRegions 19 = .ok (.aload_n 0, 1) := by decide +kernel
theorem dX1_formRegions_20 : decode cX1_formRegions 20 = .ok (.iload_n 1, 1) := by decide +kernel
theorem dX1_formRegions_21 : decode cX1_formRegions 21 = .ok (.invokevirtual 207, 3) := by decide +kernel
theorem dX1_formRegions_24 : decode cX1_formRegions 24 = .ok (.astore_n 2, 1) := by decide +kernel
theorem dX1_formRegions_25 : decode cX1_formRegions 25 = .ok (.aload_n 2, 1) := by decide +kernel
theorem dX1_formRegions_26 : decode cX1_formRegions 26 = .ok (.ifnull 40, 3) := by decide +kernel
theorem dX1_formRegions_29 : decode cX1_formRegions 29 = .ok (.aload_n 0, 1) := by decide +kernel
theorem dX1_formRegions_30 : decode cX1_formRegions 30 = .ok (.aload_n 2, 1) := by decide +kernel
theorem dX1_formRegions_31 : decode cX1_formRegions 31 = .ok (.getfield 214, 3) := by decide +kernel
theorem dX1_formRegions_34 : decode cX1_formRegions 34 = .ok (.aload_n 0, 1) := by decide +kernel
theorem dX1_formRegions_35 : decode cX1_formRegions 35 = .ok (.getfield 61, 3) := by decide +kernel
theorem dX1_formRegions_38 : decode cX1_formRegions 38 = .ok (.iload_n 1, 1) := by decide +kernel
theorem dX1_formRegions_39 : decode cX1_formRegions 39 = .ok (.invokevirtual 218, 3) := by decide +kernel
theorem dX1_formRegions_42 : decode cX1_formRegions 42 = .ok (.aload_n 0, 1) := by decide +kernel
theorem dX1_formRegions_43 : decode cX1_formRegions 43 = .ok (.aload_n 2, 1) := by decide +kernel
theorem dX1_formRegions_44 : decode cX1_formRegions 44 = .ok (.getfield 222, 3) := by decide +kernel
theorem dX1_formRegions_47 : decode cX1_formRegions 47 = .ok (.aload_n 0, 1) := by decide +kernel
theorem dX1_formRegions_48 : decode cX1_formRegions 48 = .ok (.getfield 64, 3) := by decide +kernel
theorem dX1_formRegions_51 : decode cX1_formRegions 51 = .ok (.iload_n 1, 1) := by decide +kernel
theorem dX1_formRegions_52 : decode cX1_formRegions 52 = .ok (.invokevirtual 218, 3) := by decide +kernel
theorem dX1_formRegions_55 : decode cX1_formRegions 55 = .ok (.aload_n 2, 1) := by decide +kernel
theorem dX1_formRegions_56 : decode cX1_formRegions 56 = .ok (.invokevirtual 225, 3) := by decide +kernel
theorem dX1_formRegions_59 : decode cX1_formRegions 59 = .ok (.aload_n 0, 1) := by decide +kernel
theorem dX1_formRegions_60 : decode cX1_formRegions 60 = .ok (.getfield 30, 3) := by decide +kernel
theorem dX1_formRegions_63 : decode cX1_formRegions 63 = .ok (.iload_n 1, 1) := by decide +kernel
theorem dX1_formRegions_64 : decode cX1_formRegions 64 = .ok (.aload_n 2, 1) := by decide +kernel
theorem dX1_formRegions_65 : decode cX1_formRegions 65 = .ok (.aastore, 1) := by decide +kernel
theorem dX1_formRegions_66 : decode cX1_formRegions 66 = .ok (.iinc 1 1, 3) := by decide +kernel
theorem dX1_formRegions_69 : decode cX1_formRegions 69 = .ok (.goto (-67), 3) := by decide +kernel
theorem dX1_formRegions_72 : decode cX1_formRegions 72 = .ok (.return_, 1) := by decide +kernel
theorem dX1_find_0 : decode cX1_find 0 = .ok (.iload_n 1, 1) := by decide +kernel
theorem dX1_find_1 : decode cX1_find 1 = .ok (.ifCond .lt 12, 3) := by decide +kernel
theorem dX1_find_4 : decode cX1_find 4 = .ok (.iload_n 1, 1) := by decide +kernel
theorem dX1_find_5 : decode cX1_find 5 = .ok (.aload_n 0, 1) := by decide +kernel
theorem dX1_find_6 : decode cX1_find 6 = .ok (.getfield 26, 3) := by decide +kernel
theorem dX1_find_9 : decode cX1_find 9 = .ok (.arraylength, 1) := by decide +kernel
theorem dX1_find_10 : decode cX1_find 10 = .ok (.if_icmp .lt 5, 3) := by decide +kernel
theorem dX1_find_13 : decode cX1_find 13 = .ok (.aconst_null, 1) := by decide +kernel
theorem dX1_find_14 : decode cX1_find 14 = .ok (.areturn, 1) := by decide +kernel
theorem dX1_find_15 : decode cX1_find 15 = .ok (.aload_n 0, 1) := by decide +kernel
theorem dX1_find_16 : decode cX1_find 16 = .ok (.getfield 26, 3) := by decide +kernel
theorem dX1_find_19 : decode cX1_find 19 = .ok (.iload_n 1, 1) := by decide +kernel
theorem dX1_find_20 : decode cX1_find 20 = .ok (.aaload, 1) := by decide +kernel
theorem dX1_find_21 : decode cX1_find 21 = .ok (.ifnonnull 16, 3) := by decide +kernel
theorem dX1_find_24 : decode cX1_find 24 = .ok (.aload_n 0, 1) := by decide +kernel
theorem dX1_find_25 : decode cX1_find 25 = .ok (.getfield 26, 3) := by decide +kernel
theorem dX1_find_28 : decode cX1_find 28 = .ok (.iload_n 1, 1) := by decide +kernel
theorem dX1_find_29 : decode cX1_find 29 = .ok (.new 24, 3) := by decide +kernel
theorem dX1_find_32 : decode cX1_find 32 = .ok (.dup, 1) := by decide +kernel
theorem dX1_find_33 : decode cX1_find 33 = .ok (.invokespecial 206, 3) := by decide +kernel
theorem dX1_find_36 : decode cX1_find 36 = .ok (.aastore, 1) := by decide +kernel
theorem dX1_find_37 : decode cX1_find 37 = .ok (.aload_n 0, 1) := by decide +kernel
theorem dX1_find_38 : decode cX1_find 38 = .ok (.getfield 26, 3) := by decide +kernel
theorem dX1_find_41 : decode cX1_find 41 = .ok (.iload_n 1, 1) := by decide +kernel
theorem dX1_find_42 : decode cX1_find 42 = .ok (.aaload, 1) := by decide +kernel
theorem dX1_find_43 : decode cX1_find 43 = .ok (.areturn, 1) := by decide +kernel
theorem dX1_collect_0 : decode cX1_collect 0 = .ok (.aload_n 1, 1) := by decide +kernel
theorem dX1_collect_1 : decode cX1_collect 1 = .ok (.invokevirtual 228, 3) := by decide +kernel
theorem dX1_collect_4 : decode cX1_collect 4 = .ok (.iconst 0, 1) := by decide +kernel
theorem dX1_collect_5 : decode cX1_collect 5 = .ok (.istore 4, 2) := by decide +kernel
theorem dX1_collect_7 : decode cX1_collect 7 = .ok (.iload 4, 2) := by decide +kernel
theorem dX1_collect_9 : decode cX1_collect 9 = .ok (.aload_n 0, 1) := by decide +kernel
theorem dX1_collect_10 : decode cX1_collect 10 = .ok (.getfield 184, 3) := by decide +kernel
theorem dX1_collect_13 : decode cX1_collect 13 = .ok (.if_icmp .ge 78, 3) := by decide +kernel
theorem dX1_collect_16 : decode cX1_collect 16 = .ok (.aload_n 0, 1) := by decide +kernel
theorem dX1_collect_17 : decode cX1_collect 17 = .ok (.iload_n 3, 1) := by decide +kernel
theorem dX1_collect_18 : decode cX1_collect 18 = .ok (.iload 4, 2) := by decide +kernel
theorem dX1_collect_20 : decode cX1_collect 20 = .ok (.invokevirtual 231, 3) := by decide +kernel
theorem dX1_collect_23 : decode cX1_collect 23 = .ok (.lstore 5, 2) := by decide +kernel
theorem dX1_collect_25 : decode cX1_collect 25 = .ok (.iload 4, 2) := by decide +kernel
theorem dX1_collect_27 : decode cX1_collect 27 = .ok (.aload_n 0, 1) := by decide +kernel
theorem dX1_collect_28 : decode cX1_collect 28 = .ok (.getfield 74, 3) := by decide +kernel
theorem dX1_collect_31 : decode cX1_collect 31 = .ok (.imul, 1) := by decide +kernel
theorem dX1_collect_32 : decode cX1_collect 32 = .ok (.istore 7, 2) := by decide +kernel
theorem dX1_collect_34 : decode cX1_collect 34 = .ok (.lload 5, 2) := by decide +kernel
theorem dX1_collect_36 : decode cX1_collect 36 = .ok (.lconst 0, 1) := by decide +kernel
theorem dX1_collect_37 : decode cX1_collect 37 = .ok (.lcmp, 1) := by decide +kernel
theorem dX1_collect_38 : decode cX1_collect 38 = .ok (.ifCond .eq 47, 3) := by decide +kernel
theorem dX1_collect_41 : decode cX1_collect 41 = .ok (.iload 7, 2) := by decide +kernel
theorem dX1_collect_43 : decode cX1_collect 43 = .ok (.aload_n 0, 1) := by decide +kernel
theorem dX1_collect_44 : decode cX1_collect 44 = .ok (.getfield 43, 3) := by decide +kernel
theorem dX1_collect_47 : decode cX1_collect 47 = .ok (.if_icmp .ge 38, 3) := by decide +kernel
theorem dX1_collect_50 : decode cX1_collect 50 = .ok (.iload 7, 2) := by decide +kernel
theorem dX1_collect_52 : decode cX1_collect 52 = .ok (.iload 4, 2) := by decide +kernel
theorem dX1_collect_54 : decode cX1_collect 54 = .ok (.iconst 1, 1) := by decide +kernel
theorem dX1_collect_55 : decode cX1_collect 55 = .ok (.iadd, 1) := by decide +kernel
theorem dX1_collect_56 : decode cX1_collect 56 = .ok (.aload_n 0, 1) := by decide +kernel
theorem dX1_collect_57 : decode cX1_collect 57 = .ok (.getfield 74, 3) := by decide +kernel
theorem dX1_collect_60 : decode cX1_collect 60 = .ok (.imul, 1) := by decide +kernel
theorem dX1_collect_61 : decode cX1_collect 61 = .ok (.if_icmp .ge 24, 3) := by decide +kernel
theorem dX1_collect_64 : decode cX1_collect 64 = .ok (.aload_n 1, 1) := by decide +kernel
theorem dX1_collect_65 : decode cX1_collect 65 = .ok (.iload 7, 2) := by decide +kernel
theorem dX1_collect_67 : decode cX1_collect 67 = .ok (.aload_n 2, 1) := by decide +kernel
theorem dX1_collect_68 : decode cX1_collect 68 = .ok (.iload 7, 2) := by decide +kernel
theorem dX1_collect_70 : decode cX1_collect 70 = .ok (.invokevirtual 235, 3) := by decide +kernel
theorem dX1_collect_73 : decode cX1_collect 73 = .ok (.lload 5, 2) := by decide +kernel
theorem dX1_collect_75 : decode cX1_collect 75 = .ok (.land, 1) := by decide +kernel
theorem dX1_collect_76 : decode cX1_collect 76 = .ok (.invokevirtual 239, 3) := by decide +kernel
theorem dX1_collect_79 : decode cX1_collect 79 = .ok (.iinc 7 1, 3) := by decide +kernel
theorem dX1_collect_82 : decode cX1_collect 82 = .ok (.goto (-48), 3) := by decide +kernel
theorem dX1_collect_85 : decode cX1_collect 85 = .ok (.iinc 4 1, 3) := by decide +kernel
theorem dX1_collect_88 : decode cX1_collect 88 = .ok (.goto (-81), 3) := by decide +kernel
theorem dX1_collect_91 : decode cX1_collect 91 = .ok (.return_, 1) := by decide +kernel
theorem dX1_spanOf_0 : decode cX1_spanOf 0 = .ok (.lconst 0, 1) := by decide +kernel
theorem dX1_spanOf_1 : decode cX1_spanOf 1 = .ok (.lstore_n 3, 1) := by decide +kernel
theorem dX1_spanOf_2 : decode cX1_spanOf 2 = .ok (.iconst 0, 1) := by decide +kernel
theorem dX1_spanOf_3 : decode cX1_spanOf 3 = .ok (.istore 5, 2) := by decide +kernel
theorem dX1_spanOf_5 : decode cX1_spanOf 5 = .ok (.iload 5, 2) := by decide +kernel
theorem dX1_spanOf_7 : decode cX1_spanOf 7 = .ok (.aload_n 0, 1) := by decide +kernel
theorem dX1_spanOf_8 : decode cX1_spanOf 8 = .ok (.getfield 181, 3) := by decide +kernel
theorem dX1_spanOf_11 : decode cX1_spanOf 11 = .ok (.if_icmp .ge 61, 3) := by decide +kernel
theorem dX1_spanOf_14 : decode cX1_spanOf 14 = .ok (.iload_n 2, 1) := by decide +kernel
theorem dX1_spanOf_15 : decode cX1_spanOf 15 = .ok (.aload_n 0, 1) := by decide +kernel
theorem dX1_spanOf_16 : decode cX1_spanOf 16 = .ok (.getfield 181, 3) := by decide +kernel
theorem dX1_spanOf_19 : decode cX1_spanOf 19 = .ok (.imul, 1) := by decide +kernel
theorem dX1_spanOf_20 : decode cX1_spanOf 20 = .ok (.iload 5, 2) := by decide +kernel
theorem dX1_spanOf_22 : decode cX1_spanOf 22 = .ok (.iadd, 1) := by decide +kernel
theorem dX1_spanOf_23 : decode cX1_spanOf 23 = .ok (.istore 6, 2) := by decide +kernel
theorem dX1_spanOf_25 : decode cX1_spanOf 25 = .ok (.iload 6, 2) := by decide +kernel
theorem dX1_spanOf_27 : decode cX1_spanOf 27 = .ok (.aload_n 0, 1) := by decide +kernel
theorem dX1_spanOf_28 : decode cX1_spanOf 28 = .ok (.getfield 15, 3) := by decide +kernel
theorem dX1_spanOf_31 : decode cX1_spanOf 31 = .ok (.arraylength, 1) := by decide +kernel
theorem dX1_spanOf_32 : decode cX1_spanOf 32 = .ok (.if_icmp .ge 34, 3) := by decide +kernel
theorem dX1_spanOf_35 : decode cX1_spanOf 35 = .ok (.aload_n 0, 1) := by decide +kernel
theorem dX1_spanOf_36 : decode cX1_spanOf 36 = .ok (.getfield 15, 3) := by decide +kernel
theorem dX1_spanOf_39 : decode cX1_spanOf 39 = .ok (.iload 6, 2) := by decide +kernel
theorem dX1_spanOf_41 : decode cX1_spanOf 41 = .ok (.iaload, 1) := by decide +kernel
theorem dX1_spanOf_42 : decode cX1_spanOf 42 = .ok (.iload_n 1, 1) := by decide +kernel
theorem dX1_spanOf_43 : decode cX1_spanOf 43 = .ok (.if_icmp .ne 23, 3) := by decide +kernel
theorem dX1_spanOf_46 : decode cX1_spanOf 46 = .ok (.lload_n 3, 1) := by decide +kernel
theorem dX1_spanOf_47 : decode cX1_spanOf 47 = .ok (.aload_n 0, 1) := by decide +kernel
theorem dX1_spanOf_48 : decode cX1_spanOf 48 = .ok (.getfield 74, 3) := by decide +kernel
theorem dX1_spanOf_51 : decode cX1_spanOf 51 = .ok (.invokestatic 243, 3) := by decide +kernel
theorem dX1_spanOf_54 : decode cX1_spanOf 54 = .ok (.iload 5, 2) := by decide +kernel
theorem dX1_spanOf_56 : decode cX1_spanOf 56 = .ok (.aload_n 0, 1) := by decide +kernel
theorem dX1_spanOf_57 : decode cX1_spanOf 57 = .ok (.getfield 74, 3) := by decide +kernel
theorem dX1_spanOf_60 : decode cX1_spanOf 60 = .ok (.imul, 1) := by decide +kernel
theorem dX1_spanOf_61 : decode cX1_spanOf 61 = .ok (.invokestatic 246, 3) := by decide +kernel
theorem dX1_spanOf_64 : decode cX1_spanOf 64 = .ok (.lor, 1) := by decide +kernel
theorem dX1_spanOf_65 : decode cX1_spanOf 65 = .ok (.lstore_n 3, 1) := by decide +kernel
theorem dX1_spanOf_66 : decode cX1_spanOf 66 = .ok (.iinc 5 1, 3) := by decide +kernel
theorem dX1_spanOf_69 : decode cX1_spanOf 69 = .ok (.goto (-64), 3) := by decide +kernel
theorem dX1_spanOf_72 : decode cX1_spanOf 72 = .ok (.lload_n 3, 1) := by decide +kernel
theorem dX1_spanOf_73 : decode cX1_spanOf 73 = .ok (.lreturn, 1) := by decide +kernel
theorem dX1_sortRegions_0 : decode cX1_sortRegions 0 = .ok (.iconst 0, 1) := by decide +kernel
theorem dX1_sortRegions_1 : decode cX1_sortRegions 1 = .ok (.istore_n 2, 1) := by decide +kernel
theorem dX1_sortRegions_2 : decode cX1_sortRegions 2 = .ok (.iload_n 2, 1) := by decide +kernel
theorem dX1_sortRegions_3 : decode cX1_sortRegions 3 = .ok (.aload_n 0, 1) := by decide +kernel
theorem dX1_sortRegions_4 : decode cX1_sortRegions 4 = .ok (.getfield 149, 3) := by decide +kernel
theorem dX1_sortRegions_7 : decode cX1_sortRegions 7 = .ok (.if_icmp .ge 45, 3) := by decide +kernel
theorem dX1_sortRegions_10 : decode cX1_sortRegions 10 = .ok (.aload_n 0, 1) := by decide +kernel
theorem dX1_sortRegions_11 : decode cX1_sortRegions 11 = .ok (.getfield 30, 3) := by decide +kernel
theorem dX1_sortRegions_14 : decode cX1_sortRegions 14 = .ok (.iload_n 2, 1) := by decide +kernel
theorem dX1_sortRegions_15 : decode cX1_sortRegions 15 = .ok (.aaload, 1) := by decide +kernel
theorem dX1_sortRegions_16 : decode cX1_sortRegions 16 = .ok (.astore_n 3, 1) := by decide +kernel
theorem dX1_sortRegions_17 : decode cX1_sortRegions 17 = .ok (.aload_n 3, 1) := by decide +kernel
theorem dX1_sortRegions_18 : decode cX1_sortRegions 18 = .ok (.aload_n 3, 1) := by decide +kernel
theorem dX1_sortRegions_19 : decode cX1_sortRegions 19 = .ok (.iload_n 1, 1) := by decide +kernel
theorem dX1_sortRegions_20 : decode cX1_sortRegions 20 = .ok (.invokevirtual 250, 3) := by decide +kernel
theorem dX1_sortRegions_23 : decode cX1_sortRegions 23 = .ok (.i2l, 1) := by decide +kernel
theorem dX1_sortRegions_24 : decode cX1_sortRegions 24 = .ok (.ldc2_w 254, 3) := by decide +kernel
theorem dX1_sortRegions_27 : decode cX1_sortRegions 27 = .ok (.lmul, 1) := by decide +kernel
theorem dX1_sortRegions_28 : decode cX1_sortRegions 28 = .ok (.aload_n 3, 1) := by decide +kernel
theorem dX1_sortRegions_29 : decode cX1_sortRegions 29 = .ok (.iload_n 1, 1) := by decide +kernel
theorem dX1_sortRegions_30 : decode cX1_sortRegions 30 = .ok (.ifCond .ne 7, 3) := by decide +kernel
theorem dX1_sortRegions_33 : decode cX1_sortRegions 33 = .ok (.iconst 1, 1) := by decide +kernel
theorem dX1_sortRegions_34 : decode cX1_sortRegions 34 = .ok (.goto 4, 3) := by decide +kernel
theorem dX1_sortRegions_37 : decode cX1_sortRegions 37 = .ok (.iconst 0, 1) := by decide +kernel
theorem dX1_sortRegions_38 : decode cX1_sortRegions 38 = .ok (.invokevirtual 250, 3) := by decide +kernel
theorem dX1_sortRegions_41 : decode cX1_sortRegions 41 = .ok (.i2l, 1) := by decide +kernel
theorem dX1_sortRegions_42 : decode cX1_sortRegions 42 = .ok (.ladd, 1) := by decide +kernel
theorem dX1_sortRegions_43 : decode cX1_sortRegions 43 = .ok (.putfield 256, 3) := by decide +kernel
theorem dX1_sortRegions_46 : decode cX1_sortRegions 46 = .ok (.iinc 2 1, 3) := by decide +kernel
theorem dX1_sortRegions_49 : decode cX1_sortRegions 49 = .ok (.goto (-47), 3) := by decide +kernel
theorem dX1_sortRegions_52 : decode cX1_sortRegions 52 = .ok (.aload_n 0, 1) := by decide +kernel
theorem dX1_sortRegions_53 : decode cX1_sortRegions 53 = .ok (.invokevirtual 260, 3) := by decide +kernel
theorem dX1_sortRegions_56 : decode cX1_sortRegions 56 = .ok (.iconst (-1), 1) := by decide +kernel
theorem dX1_sortRegions_57 : decode cX1_sortRegions 57 = .ok (.istore_n 2, 1) := by decide +kernel
theorem dX1_sortRegions_58 : decode cX1_sortRegions 58 = .ok (.iconst (-1), 1) := by decide +kernel
theorem dX1_sortRegions_59 : decode cX1_sortRegions 59 = .ok (.istore_n 3, 1) := by decide +kernel
theorem dX1_sortRegions_60 : decode cX1_sortRegions 60 = .ok (.iconst 0, 1) := by decide +kernel
theorem dX1_sortRegions_61 : decode cX1_sortRegions 61 = .ok (.istore 4, 2) := by decide +kernel
theorem dX1_sortRegions_63 : decode cX1_sortRegions 63 = .ok (.iload 4, 2) := by decide +kernel
theorem dX1_sortRegions_65 : decode cX1_sortRegions 65 = .ok (.aload_n 0, 1) := by decide +kernel
theorem dX1_sortRegions_66 : decode cX1_sortRegions 66 = .ok (.getfield 149, 3) := by decide +kernel
theorem dX1_sortRegions_69 : decode cX1_sortRegions 69 = .ok (.if_icmp .ge 93, 3) := by decide +kernel
theorem dX1_sortRegions_72 : decode cX1_sortRegions 72 = .ok (.aload_n 0, 1) := by decide +kernel
theorem dX1_sortRegions_73 : decode cX1_sortRegions 73 = .ok (.getfield 30, 3) := by decide +kernel
theorem dX1_sortRegions_76 : decode cX1_sortRegions 76 = .ok (.iload 4, 2) := by decide +kernel
theorem dX1_sortRegions_78 : decode cX1_sortRegions 78 = .ok (.aaload, 1) := by decide +kernel
theorem dX1_sortRegions_79 : decode cX1_sortRegions 79 = .ok (.astore 5, 2) := by decide +kernel
theorem dX1_sortRegions_81 : decode cX1_sortRegions 81 = .ok (.aload 5, 2) := by decide +kernel
theorem dX1_sortRegions_83 : decode cX1_sortRegions 83 = .ok (.iload_n 1, 1) := by decide +kernel
theorem dX1_sortRegions_84 : decode cX1_sortRegions 84 = .ok (.invokevirtual 250, 3) := by decide +kernel
theorem dX1_sortRegions_87 : decode cX1_sortRegions 87 = .ok (.iload_n 3, 1) := by decide +kernel
theorem dX1_sortRegions_88 : decode cX1_sortRegions 88 = .ok (.if_icmp .gt 8, 3) := by decide +kernel
theorem dX1_sortRegions_91 : decode cX1_sortRegions 91 = .ok (.iload 4, 2) := by decide +kernel
theorem dX1_sortRegions_93 : decode cX1_sortRegions 93 = .ok (.ifCond .ne 13, 3) := by decide +kernel
theorem dX1_sortRegions_96 : decode cX1_sortRegions 96 = .ok (.iinc 2 1, 3) := by decide +kernel
theorem dX1_sortRegions_99 : decode cX1_sortRegions 99 = .ok (.aload 5, 2) := by decide +kernel
theorem dX1_sortRegions_101 : decode cX1_sortRegions 101 = .ok (.iload_n 1, 1) := by decide +kernel
theorem dX1_sortRegions_102 : decode cX1_sortRegions 102 = .ok (.invokevirtual 263, 3) := by decide +kernel
theorem dX1_sortRegions_105 : decode cX1_sortRegions 105 = .ok (.istore_n 3, 1) := by decide +kernel
theorem dX1_sortRegions_106 : decode cX1_sortRegions 106 = .ok (.iload_n 3, 1) := by decide +kernel
theorem dX1_sortRegions_107 : decode cX1_sortRegions 107 = .ok (.aload 5, 2) := by decide +kernel
theorem dX1_sortRegions_109 : decode cX1_sortRegions 109 = .ok (.iload_n 1, 1) := by decide +kernel
theorem dX1_sortRegions_110 : decode cX1_sortRegions 110 = .ok (.invokevirtual 263, 3) := by decide +kernel
theorem dX1_sortRegions_113 : decode cX1_sortRegions 113 = .ok (.invokestatic 175, 3) := by decide +kernel
theorem dX1_sortRegions_116 : decode cX1_sortRegions 116 = .ok (.istore_n 3, 1) := by decide +kernel
theorem dX1_sortRegions_117 : decode cX1_sortRegions 117 = .ok (.aload 5, 2) := by decide +kernel
theorem dX1_sortRegions_119 : decode cX1_sortRegions 119 = .ok (.iload_n 2, 1) := by decide +kernel
theorem dX1_sortRegions_120 : decode cX1_sortRegions 120 = .ok (.i2l, 1) := by decide +kernel
theorem dX1_sortRegions_121 : decode cX1_sortRegions 121 = .ok (.ldc2_w 254, 3) := by decide +kernel
theorem dX1_sortRegions_124 : decode cX1_sortRegions 124 = .ok (.lmul, 1) := by decide +kernel
theorem dX1_sortRegions_125 : decode cX1_sortRegions 125 = .ok (.aload 5, 2) := by decide +kernel
theorem dX1_sortRegions_127 : decode cX1_sortRegions 127 = .ok (.iload_n 1, 1) := by decide +kernel
theorem dX1_sortRegions_128 : decode cX1_sortRegions 128 = .ok (.ifCond .ne 7, 3) := by decide +kernel
theorem dX1_sortRegions_131 : decode cX1_sortRegions 131 = .ok (.iconst 1, 1) := by decide +kernel
theorem dX1_sortRegions_132 : decode cX1_sortRegions 132 = .ok (.goto 4, 3) := by decide +kernel
theorem dX1_sortRegions_135 : decode cX1_sortRegions 135 = .ok (.iconst 0, 1) := by decide +kernel
theorem dX1_sortRegions_136 : decode cX1_sortRegions 136 = .ok (.invokevirtual 250, 3) := by decide +kernel
theorem dX1_sortRegions_139 : decode cX1_sortRegions 139 = .ok (.i2l, 1) := by decide +kernel
theorem dX1_sortRegions_140 : decode cX1_sortRegions 140 = .ok (.ladd, 1) := by decide +kernel
theorem dX1_sortRegions_141 : decode cX1_sortRegions 141 = .ok (.ldc2_w 254, 3) := by decide +kernel
theorem dX1_sortRegions_144 : decode cX1_sortRegions 144 = .ok (.lmul, 1) := by decide +kernel
theorem dX1_sortRegions_145 : decode cX1_sortRegions 145 = .ok (.aload 5, 2) := by decide +kernel
theorem dX1_sortRegions_147 : decode cX1_sortRegions 147 = .ok (.iload_n 1, 1) := by decide +kernel
theorem dX1_sortRegions_148 : decode cX1_sortRegions 148 = .ok (.invokevirtual 250, 3) := by decide +kernel
theorem dX1_sortRegions_151 : decode cX1_sortRegions 151 = .ok (.i2l, 1) := by decide +kernel
theorem dX1_sortRegions_152 : decode cX1_sortRegions 152 = .ok (.ladd, 1) := by decide +kernel
theorem dX1_sortRegions_153 : decode cX1_sortRegions 153 = .ok (.putfield 256, 3) := by decide +kernel
theorem dX1_sortRegions_156 : decode cX1_sortRegions 156 = .ok (.iinc 4 1, 3) := by decide +kernel
theorem dX1_sortRegions_159 : decode cX1_sortRegions 159 = .ok (.goto (-96), 3) := by decide +kernel
theorem dX1_sortRegions_162 : decode cX1_sortRegions 162 = .ok (.aload_n 0, 1) := by decide +kernel
theorem dX1_sortRegions_163 : decode cX1_sortRegions 163 = .ok (.invokevirtual 260, 3) := by decide +kernel
theorem dX1_sortRegions_166 : decode cX1_sortRegions 166 = .ok (.iconst 0, 1) := by decide +kernel
theorem dX1_sortRegions_167 : decode cX1_sortRegions 167 = .ok (.istore 4, 2) := by decide +kernel
theorem dX1_sortRegions_169 : decode cX1_sortRegions 169 = .ok (.iload 4, 2) := by decide +kernel
theorem dX1_sortRegions_171 : decode cX1_sortRegions 171 = .ok (.aload_n 0, 1) := by decide +kernel
theorem dX1_sortRegions_172 : decode cX1_sortRegions 172 = .ok (.getfield 149, 3) := by decide +kernel
theorem dX1_sortRegions_175 : decode cX1_sortRegions 175 = .ok (.if_icmp .ge 21, 3) := by decide +kernel
theorem dX1_sortRegions_178 : decode cX1_sortRegions 178 = .ok (.aload_n 0, 1) := by decide +kernel
theorem dX1_sortRegions_179 : decode cX1_sortRegions 179 = .ok (.getfield 30, 3) := by decide +kernel
theorem dX1_sortRegions_182 : decode cX1_sortRegions 182 = .ok (.iload 4, 2) := by decide +kernel
theorem dX1_sortRegions_184 : decode cX1_sortRegions 184 = .ok (.aaload, 1) := by decide +kernel
theorem dX1_sortRegions_185 : decode cX1_sortRegions 185 = .ok (.iload 4, 2) := by decide +kernel
theorem dX1_sortRegions_187 : decode cX1_sortRegions 187 = .ok (.invokevirtual 266, 3) := by decide +kernel
theorem dX1_sortRegions_190 : decode cX1_sortRegions 190 = .ok (.iinc 4 1, 3) := by decide +kernel
theorem dX1_sortRegions_193 : decode cX1_sortRegions 193 = .ok (.goto (-24), 3) := by decide +kernel
theorem dX1_sortRegions_196 : decode cX1_sortRegions 196 = .ok (.return_, 1) := by decide +kernel
theorem dX1_sortByKey_0 : decode cX1_sortByKey 0 = .ok (.iconst 1, 1) := by decide +kernel
theorem dX1_sortByKey_1 : decode cX1_sortByKey 1 = .ok (.istore_n 1, 1) := by decide +kernel
theorem dX1_sortByKey_2 : decode cX1_sortByKey 2 = .ok (.iload_n 1, 1) := by decide +kernel
theorem dX1_sortByKey_3 : decode cX1_sortByKey 3 = .ok (.aload_n 0, 1) := by decide +kernel
theorem dX1_sortByKey_4 : decode cX1_sortByKey 4 = .ok (.getfield 149, 3) := by decide +kernel
theorem dX1_sortByKey_7 : decode cX1_sortByKey 7 = .ok (.if_icmp .ge 68, 3) := by decide +kernel
theorem dX1_sortByKey_10 : decode cX1_sortByKey 10 = .ok (.aload_n 0, 1) := by decide +kernel
theorem dX1_sortByKey_11 : decode cX1_sortByKey 11 = .ok (.getfield 30, 3) := by decide +kernel
theorem dX1_sortByKey_14 : decode cX1_sortByKey 14 = .ok (.iload_n 1, 1) := by decide +kernel
theorem dX1_sortByKey_15 : decode cX1_sortByKey 15 = .ok (.aaload, 1) := by decide +kernel
theorem dX1_sortByKey_16 : decode cX1_sortByKey 16 = .ok (.astore_n 2, 1) := by decide +kernel
theorem dX1_sortByKey_17 : decode cX1_sortByKey 17 = .ok (.iload_n 1, 1) := by decide +kernel
theorem dX1_sortByKey_18 : decode cX1_sortByKey 18 = .ok (.istore_n 3, 1) := by decide +kernel
theorem dX1_sortByKey_19 : decode cX1_sortByKey 19 = .ok (.iload_n 3, 1) := by decide +kernel
theorem dX1_sortByKey_20 : decode cX1_sortByKey 20 = .ok (.ifCond .le 42, 3) := by decide +kernel
theorem dX1_sortByKey_23 : decode cX1_sortByKey 23 = .ok (.aload_n 0, 1) := by decide +kernel
theorem dX1_sortByKey_24 : decode cX1_sortByKey 24 = .ok (.getfield 30, 3) := by decide +kernel
theorem dX1_sortByKey_27 : decode cX1_sortByKey 27 = .ok (.iload_n 3, 1) := by decide +kernel
theorem dX1_sortByKey_28 : decode cX1_sortByKey 28 = .ok (.iconst 1, 1) := by decide +kernel
theorem dX1_sortByKey_29 : decode cX1_sortByKey 29 = .ok (.isub, 1) := by decide +kernel
theorem dX1_sortByKey_30 : decode cX1_sortByKey 30 = .ok (.aaload, 1) := by decide +kernel
theorem dX1_sortByKey_31 : decode cX1_sortByKey 31 = .ok (.getfield 256, 3) := by decide +kernel
theorem dX1_sortByKey_34 : decode cX1_sortByKey 34 = .ok (.aload_n 2, 1) := by decide +kernel
theorem dX1_sortByKey_35 : decode cX1_sortByKey 35 = .ok (.getfield 256, 3) := by decide +kernel
theorem dX1_sortByKey_38 : decode cX1_sortByKey 38 = .ok (.lcmp, 1) := by decide +kernel
theorem dX1_sortByKey_39 : decode cX1_sortByKey 39 = .ok (.ifCond .le 23, 3) := by decide +kernel
theorem dX1_sortByKey_42 : decode cX1_sortByKey 42 = .ok (.aload_n 0, 1) := by decide +kernel
theorem dX1_sortByKey_43 : decode cX1_sortByKey 43 = .ok (.getfield 30, 3) := by decide +kernel
theorem dX1_sortByKey_46 : decode cX1_sortByKey 46 = .ok (.iload_n 3, 1) := by decide +kernel
theorem dX1_sortByKey_47 : decode cX1_sortByKey 47 = .ok (.aload_n 0, 1) := by decide +kernel
theorem dX1_sortByKey_48 : decode cX1_sortByKey 48 = .ok (.getfield 30, 3) := by decide +kernel
theorem dX1_sortByKey_51 : decode cX1_sortByKey 51 = .ok (.iload_n 3, 1) := by decide +kernel
theorem dX1_sortByKey_52 : decode cX1_sortByKey 52 = .ok (.iconst 1, 1) := by decide +kernel
theorem dX1_sortByKey_53 : decode cX1_sortByKey 53 = .ok (.isub, 1) := by decide +kernel
theorem dX1_sortByKey_54 : decode cX1_sortByKey 54 = .ok (.aaload, 1) := by decide +kernel
theorem dX1_sortByKey_55 : decode cX1_sortByKey 55 = .ok (.aastore, 1) := by decide +kernel
theorem dX1_sortByKey_56 : decode cX1_sortByKey 56 = .ok (.iinc 3 (-1), 3) := by decide +kernel
theorem dX1_sortByKey_59 : decode cX1_sortByKey 59 = .ok (.goto (-40), 3) := by decide +kernel
theorem dX1_sortByKey_62 : decode cX1_sortByKey 62 = .ok (.aload_n 0, 1) := by decide +kernel
theorem dX1_sortByKey_63 : decode cX1_sortByKey 63 = .ok (.getfield 30, 3) := by decide +kernel
theorem dX1_sortByKey_66 : decode cX1_sortByKey 66 = .ok (.iload_n 3, 1) := by decide +kernel
theorem dX1_sortByKey_67 : decode cX1_sortByKey 67 = .ok (.aload_n 2, 1) := by decide +kernel
theorem dX1_sortByKey_68 : decode cX1_sortByKey 68 = .ok (.aastore, 1) := by decide +kernel
theorem dX1_sortByKey_69 : decode cX1_sortByKey 69 = .ok (.iinc 1 1, 3) := by decide +kernel
theorem dX1_sortByKey_72 : decode cX1_sortByKey 72 = .ok (.goto (-70), 3) := by decide +kernel
theorem dX1_sortByKey_75 : decode cX1_sortByKey 75 = .ok (.return_, 1) := by decide +kernel
theorem dX1_pairParts_0 : decode cX1_pairParts 0 = .ok (.iconst 0, 1) := by decide +kernel
theorem dX1_pairParts_1 : decode cX1_pairParts 1 = .ok (.istore_n 2, 1) := by decide +kernel
theorem dX1_pairParts_2 : decode cX1_pairParts 2 = .ok (.iload_n 2, 1) := by decide +kernel
theorem dX1_pairParts_3 : decode cX1_pairParts 3 = .ok (.aload_n 0, 1) := by decide +kernel
theorem dX1_pairParts_4 : decode cX1_pairParts 4 = .ok (.getfield 149, 3) := by decide +kernel
theorem dX1_pairParts_7 : decode cX1_pairParts 7 = .ok (.if_icmp .ge 32, 3) := by decide +kernel
theorem dX1_pairParts_10 : decode cX1_pairParts 10 = .ok (.aload_n 0, 1) := by decide +kernel
theorem dX1_pairParts_11 : decode cX1_pairParts 11 = .ok (.getfield 30, 3) := by decide +kernel
theorem dX1_pairParts_14 : decode cX1_pairParts 14 = .ok (.iload_n 2, 1) := by decide +kernel
theorem dX1_pairParts_15 : decode cX1_pairParts 15 = .ok (.aaload, 1) := by decide +kernel
theorem dX1_pairParts_16 : decode cX1_pairParts 16 = .ok (.getfield 214, 3) := by decide +kernel
theorem dX1_pairParts_19 : decode cX1_pairParts 19 = .ok (.astore_n 3, 1) := by decide +kernel
theorem dX1_pairParts_20 : decode cX1_pairParts 20 = .ok (.aload_n 3, 1) := by decide +kernel
theorem dX1_pairParts_21 : decode cX1_pairParts 21 = .ok (.getfield 269, 3) := by decide +kernel
theorem dX1_pairParts_24 : decode cX1_pairParts 24 = .ok (.iload_n 1, 1) := by decide +kernel
theorem dX1_pairParts_25 : decode cX1_pairParts 25 = .ok (.if_icmp .lt 8, 3) := by decide +kernel
theorem dX1_pairParts_28 : decode cX1_pairParts 28 = .ok (.aload_n 0, 1) := by decide +kernel
theorem dX1_pairParts_29 : decode cX1_pairParts 29 = .ok (.aload_n 3, 1) := by decide +kernel
theorem dX1_pairParts_30 : decode cX1_pairParts 30 = .ok (.invokevirtual 272, 3) := by decide +kernel
theorem dX1_pairParts_33 : decode cX1_pairParts 33 = .ok (.iinc 2 1, 3) := by decide +kernel
theorem dX1_pairParts_36 : decode cX1_pairParts 36 = .ok (.goto (-34), 3) := by decide +kernel
theorem dX1_pairParts_39 : decode cX1_pairParts 39 = .ok (.return_, 1) := by decide +kernel
theorem dX1_pair_0 : decode cX1_pair 0 = .ok (.iconst 0, 1) := by decide +kernel
theorem dX1_pair_1 : decode cX1_pair 1 = .ok (.istore_n 2, 1) := by decide +kernel
theorem dX1_pair_2 : decode cX1_pair 2 = .ok (.iload_n 2, 1) := by decide +kernel
theorem dX1_pair_3 : decode cX1_pair 3 = .ok (.aload_n 0, 1) := by decide +kernel
theorem dX1_pair_4 : decode cX1_pair 4 = .ok (.getfield 149, 3) := by decide +kernel
theorem dX1_pair_7 : decode cX1_pair 7 = .ok (.if_icmp .ge 45, 3) := by decide +kernel
theorem dX1_pair_10 : decode cX1_pair 10 = .ok (.aload_n 0, 1) := by decide +kernel
theorem dX1_pair_11 : decode cX1_pair 11 = .ok (.getfield 30, 3) := by decide +kernel
theorem dX1_pair_14 : decode cX1_pair 14 = .ok (.iload_n 2, 1) := by decide +kernel
theorem dX1_pair_15 : decode cX1_pair 15 = .ok (.aaload, 1) := by decide +kernel
theorem dX1_pair_16 : decode cX1_pair 16 = .ok (.getfield 222, 3) := by decide +kernel
theorem dX1_pair_19 : decode cX1_pair 19 = .ok (.astore_n 3, 1) := by decide +kernel
theorem dX1_pair_20 : decode cX1_pair 20 = .ok (.aload_n 3, 1) := by decide +kernel
theorem dX1_pair_21 : decode cX1_pair 21 = .ok (.getfield 276, 3) := by decide +kernel
theorem dX1_pair_24 : decode cX1_pair 24 = .ok (.ifnonnull 22, 3) := by decide +kernel
theorem dX1_pair_27 : decode cX1_pair 27 = .ok (.aload_n 3, 1) := by decide +kernel
theorem dX1_pair_28 : decode cX1_pair 28 = .ok (.aload_n 1, 1) := by decide +kernel
theorem dX1_pair_29 : decode cX1_pair 29 = .ok (.invokevirtual 279, 3) := by decide +kernel
theorem dX1_pair_32 : decode cX1_pair 32 = .ok (.ifCond .eq 14, 3) := by decide +kernel
theorem dX1_pair_35 : decode cX1_pair 35 = .ok (.aload_n 1, 1) := by decide +kernel
theorem dX1_pair_36 : decode cX1_pair 36 = .ok (.aload_n 3, 1) := by decide +kernel
theorem dX1_pair_37 : decode cX1_pair 37 = .ok (.putfield 276, 3) := by decide +kernel
theorem dX1_pair_40 : decode cX1_pair 40 = .ok (.aload_n 3, 1) := by decide +kernel
theorem dX1_pair_41 : decode cX1_pair 41 = .ok (.aload_n 1, 1) := by decide +kernel
theorem dX1_pair_42 : decode cX1_pair 42 = .ok (.putfield 276, 3) := by decide +kernel
theorem dX1_pair_45 : decode cX1_pair 45 = .ok (.return_, 1) := by decide +kernel
theorem dX1_pair_46 : decode cX1_pair 46 = .ok (.iinc 2 1, 3) := by decide +kernel
theorem dX1_pair_49 : decode cX1_pair 49 = .ok (.goto (-47), 3) := by decide +kernel
theorem dX1_pair_52 : decode cX1_pair 52 = .ok (.return_, 1) := by decide +kernel
theorem dX1_listChanges_0 : decode cX1_listChanges 0 = .ok (.aload_n 0, 1) := by decide +kernel
theorem dX1_listChanges_1 : decode cX1_listChanges 1 = .ok (.iconst 0, 1) := by decide +kernel
theorem dX1_listChanges_2 : decode cX1_listChanges 2 = .ok (.putfield 283, 3) := by decide +kernel
theorem dX1_listChanges_5 : decode cX1_listChanges 5 = .ok (.iconst 0, 1) := by decide +kernel
theorem dX1_listChanges_6 : decode cX1_listChanges 6 = .ok (.istore_n 3, 1) := by decide +kernel
theorem dX1_listChanges_7 : decode cX1_listChanges 7 = .ok (.iload_n 3, 1) := by decide +kernel
theorem dX1_listChanges_8 : decode cX1_listChanges 8 = .ok (.aload_n 0, 1) := by decide +kernel
theorem dX1_listChanges_9 : decode cX1_listChanges 9 = .ok (.getfield 149, 3) := by decide +kernel
theorem dX1_listChanges_12 : decode cX1_listChanges 12 = .ok (.if_icmp .ge 63, 3) := by decide +kernel
theorem dX1_listChanges_15 : decode cX1_listChanges 15 = .ok (.aload_n 0, 1) := by decide +kernel
theorem dX1_listChanges_16 : decode cX1_listChanges 16 = .ok (.getfield 30, 3) := by decide +kernel
theorem dX1_listChanges_19 : decode cX1_listChanges 19 = .ok (.iload_n 3, 1) := by decide +kernel
theorem dX1_listChanges_20 : decode cX1_listChanges 20 = .ok (.aaload, 1) := by decide +kernel
theorem dX1_listChanges_21 : decode cX1_listChanges 21 = .ok (.getfield 214, 3) := by decide +kernel
theorem dX1_listChanges_24 : decode cX1_listChanges 24 = .ok (.astore 4, 2) := by decide +kernel
theorem dX1_listChanges_26 : decode cX1_listChanges 26 = .ok (.aload_n 0, 1) := by decide +kernel
theorem dX1_listChanges_27 : decode cX1_listChanges 27 = .ok (.aload 4, 2) := by decide +kernel
theorem dX1_listChanges_29 : decode cX1_listChanges 29 = .ok (.iload_n 1, 1) := by decide +kernel
theorem dX1_listChanges_30 : decode cX1_listChanges 30 = .ok (.aload_n 2, 1) := by decide +kernel
theorem dX1_listChanges_31 : decode cX1_listChanges 31 = .ok (.aload_n 0, 1) := by decide +kernel
theorem dX1_listChanges_32 : decode cX1_listChanges 32 = .ok (.getfield 51, 3) := by decide +kernel
theorem dX1_listChanges_35 : decode cX1_listChanges 35 = .ok (.invokevirtual 286, 3) := by decide +kernel
theorem dX1_listChanges_38 : decode cX1_listChanges 38 = .ok (.aload_n 0, 1) := by decide +kernel
theorem dX1_listChanges_39 : decode cX1_listChanges 39 = .ok (.getfield 30, 3) := by decide +kernel
theorem dX1_listChanges_42 : decode cX1_listChanges 42 = .ok (.iload_n 3, 1) := by decide +kernel
theorem dX1_listChanges_43 : decode cX1_listChanges 43 = .ok (.aaload, 1) := by decide +kernel
theorem dX1_listChanges_44 : decode cX1_listChanges 44 = .ok (.getfield 222, 3) := by decide +kernel
theorem dX1_listChanges_47 : decode cX1_listChanges 47 = .ok (.astore 5, 2) := by decide +kernel
theorem dX1_listChanges_49 : decode cX1_listChanges 49 = .ok (.aload 5, 2) := by decide +kernel
theorem dX1_listChanges_51 : decode cX1_listChanges 51 = .ok (.getfield 276, 3) := by decide +kernel
theorem dX1_listChanges_54 : decode cX1_listChanges 54 = .ok (.ifnonnull 15, 3) := by decide +kernel
theorem dX1_listChanges_57 : decode cX1_listChanges 57 = .ok (.aload_n 0, 1) := by decide +kernel
theorem dX1_listChanges_58 : decode cX1_listChanges 58 = .ok (.aload 5, 2) := by decide +kernel
theorem dX1_listChanges_60 : decode cX1_listChanges 60 = .ok (.iload_n 1, 1) := by decide +kernel
theorem dX1_listChanges_61 : decode cX1_listChanges 61 = .ok (.aload_n 2, 1) := by decide +kernel
theorem dX1_listChanges_62 : decode cX1_listChanges 62 = .ok (.aload_n 0, 1) := by decide +kernel
theorem dX1_listChanges_63 : decode cX1_listChanges 63 = .ok (.getfield 58, 3) := by decide +kernel
theorem dX1_listChanges_66 : decode cX1_listChanges 66 = .ok (.invokevirtual 286, 3) := by decide +kernel
theorem dX1_listChanges_69 : decode cX1_listChanges 69 = .ok (.iinc 3 1, 3) := by decide +kernel
theorem dX1_listChanges_72 : decode cX1_listChanges 72 = .ok (.goto (-65), 3) := by decide +kernel
theorem dX1_listChanges_75 : decode cX1_listChanges 75 = .ok (.return_, 1) := by decide +kernel
theorem dX1_list_0 : decode cX1_list 0 = .ok (.aload_n 1, 1) := by decide +kernel
theorem dX1_list_1 : decode cX1_list 1 = .ok (.getfield 269, 3) := by decide +kernel
theorem dX1_list_4 : decode cX1_list 4 = .ok (.ifCond .eq 15, 3) := by decide +kernel
theorem dX1_list_7 : decode cX1_list 7 = .ok (.aload_n 0, 1) := by decide +kernel
theorem dX1_list_8 : decode cX1_list 8 = .ok (.getfield 283, 3) := by decide +kernel
theorem dX1_list_11 : decode cX1_list 11 = .ok (.aload_n 0, 1) := by decide +kernel
theorem dX1_list_12 : decode cX1_list 12 = .ok (.getfield 35, 3) := by decide +kernel
theorem dX1_list_15 : decode cX1_list 15 = .ok (.arraylength, 1) := by decide +kernel
theorem dX1_list_16 : decode cX1_list 16 = .ok (.if_icmp .lt 4, 3) := by decide +kernel
theorem dX1_list_19 : decode cX1_list 19 = .ok (.return_, 1) := by decide +kernel
theorem dX1_list_20 : decode cX1_list 20 = .ok (.aload_n 1, 1) := by decide +kernel
theorem dX1_list_21 : decode cX1_list 21 = .ok (.aload_n 3, 1) := by decide +kernel
theorem dX1_list_22 : decode cX1_list 22 = .ok (.aload_n 1, 1) := by decide +kernel
theorem dX1_list_23 : decode cX1_list 23 = .ok (.invokevirtual 290, 3) := by decide +kernel
theorem dX1_list_26 : decode cX1_list 26 = .ok (.putfield 296, 3) := by decide +kernel
theorem dX1_list_29 : decode cX1_list 29 = .ok (.aload_n 1, 1) := by decide +kernel
theorem dX1_list_30 : decode cX1_list 30 = .ok (.aload 4, 2) := by decide +kernel
theorem dX1_list_32 : decode cX1_list 32 = .ok (.aload_n 1, 1) := by decide +kernel
theorem dX1_list_33 : decode cX1_list 33 = .ok (.getfield 299, 3) := by decide +kernel
theorem dX1_list_36 : decode cX1_list 36 = .ok (.invokevirtual 302, 3) := by decide +kernel
theorem dX1_list_39 : decode cX1_list 39 = .ok (.iconst 1, 1) := by decide +kernel
theorem dX1_list_40 : decode cX1_list 40 = .ok (.isub, 1) := by decide +kernel
theorem dX1_list_41 : decode cX1_list 41 = .ok (.putfield 306, 3) := by decide +kernel
theorem dX1_list_44 : decode cX1_list 44 = .ok (.iload_n 2, 1) := by decide +kernel
theorem dX1_list_45 : decode cX1_list 45 = .ok (.ifCond .eq 18, 3) := by decide +kernel
theorem dX1_list_48 : decode cX1_list 48 = .ok (.aload_n 1, 1) := by decide +kernel
theorem dX1_list_49 : decode cX1_list 49 = .ok (.getfield 276, 3) := by decide +kernel
theorem dX1_list_52 : decode cX1_list 52 = .ok (.ifnonnull 11, 3) := by decide +kernel
theorem dX1_list_55 : decode cX1_list 55 = .ok (.aload_n 1, 1) := by decide +kernel
theorem dX1_list_56 : decode cX1_list 56 = .ok (.getfield 296, 3) := by decide +kernel
theorem dX1_list_59 : decode cX1_list 59 = .ok (.ifCond .lt 4, 3) := by decide +kernel
theorem dX1_list_62 : decode cX1_list 62 = .ok (.return_, 1) := by decide +kernel
theorem dX1_list_63 : decode cX1_list 63 = .ok (.aload_n 0, 1) := by decide +kernel
theorem dX1_list_64 : decode cX1_list 64 = .ok (.getfield 35, 3) := by decide +kernel
theorem dX1_list_67 : decode cX1_list 67 = .ok (.aload_n 0, 1) := by decide +kernel
theorem dX1_list_68 : decode cX1_list 68 = .ok (.getfield 283, 3) := by decide +kernel
theorem dX1_list_71 : decode cX1_list 71 = .ok (.aload_n 1, 1) := by decide +kernel
theorem dX1_list_72 : decode cX1_list 72 = .ok (.aastore, 1) := by decide +kernel
theorem dX1_list_73 : decode cX1_list 73 = .ok (.aload_n 0, 1) := by decide +kernel
theorem dX1_list_74 : decode cX1_list 74 = .ok (.dup, 1) := by decide +kernel
theorem dX1_list_75 : decode cX1_list 75 = .ok (.getfield 283, 3) := by decide +kernel
theorem dX1_list_78 : decode cX1_list 78 = .ok (.iconst 1, 1) := by decide +kernel
theorem dX1_list_79 : decode cX1_list 79 = .ok (.iadd, 1) := by decide +kernel
theorem dX1_list_80 : decode cX1_list 80 = .ok (.putfield 283, 3) := by decide +kernel
theorem dX1_list_83 : decode cX1_list 83 = .ok (.return_, 1) := by decide +kernel
theorem dX1_differenceOf_0 : decode cX1_differenceOf 0 = .ok (.iload_n 2, 1) := by decide +kernel
theorem dX1_differenceOf_1 : decode cX1_differenceOf 1 = .ok (.aload_n 0, 1) := by decide +kernel
theorem dX1_differenceOf_2 : decode cX1_differenceOf 2 = .ok (.getfield 181, 3) := by decide +kernel
theorem dX1_differenceOf_5 : decode cX1_differenceOf 5 = .ok (.imul, 1) := by decide +kernel
theorem dX1_differenceOf_6 : decode cX1_differenceOf 6 = .ok (.iload_n 1, 1) := by decide +kernel
theorem dX1_differenceOf_7 : decode cX1_differenceOf 7 = .ok (.iadd, 1) := by decide +kernel
theorem dX1_differenceOf_8 : decode cX1_differenceOf 8 = .ok (.istore_n 3, 1) := by decide +kernel
theorem dX1_differenceOf_9 : decode cX1_differenceOf 9 = .ok (.iload_n 3, 1) := by decide +kernel
theorem dX1_differenceOf_10 : decode cX1_differenceOf 10 = .ok (.ifCond .lt 21, 3) := by decide +kernel
theorem dX1_differenceOf_13 : decode cX1_differenceOf 13 = .ok (.iload_n 3, 1) := by decide +kernel
theorem dX1_differenceOf_14 : decode cX1_differenceOf 14 = .ok (.aload_n 0, 1) := by decide +kernel
theorem dX1_differenceOf_15 : decode cX1_differenceOf 15 = .ok (.getfield 9, 3) := by decide +kernel
theorem dX1_differenceOf_18 : decode cX1_differenceOf 18 = .ok (.arraylength, 1) := by decide +kernel
theorem dX1_differenceOf_19 : decode cX1_differenceOf 19 = .ok (.if_icmp .ge 12, 3) := by decide +kernel
theorem dX1_differenceOf_22 : decode cX1_differenceOf 22 = .ok (.aload_n 0, 1) := by decide +kernel
theorem dX1_differenceOf_23 : decode cX1_differenceOf 23 = .ok (.getfield 9, 3) := by decide +kernel
theorem dX1_differenceOf_26 : decode cX1_differenceOf 26 = .ok (.iload_n 3, 1) := by decide +kernel
theorem dX1_differenceOf_27 : decode cX1_differenceOf 27 = .ok (.iaload, 1) := by decide +kernel
theorem dX1_differenceOf_28 : decode cX1_differenceOf 28 = .ok (.goto 4, 3) := by decide +kernel
theorem dX1_differenceOf_31 : decode cX1_differenceOf 31 = .ok (.iconst 0, 1) := by decide +kernel
theorem dX1_differenceOf_32 : decode cX1_differenceOf 32 = .ok (.ireturn, 1) := by decide +kernel
theorem dX1_regionOfPixel_0 : decode cX1_regionOfPixel 0 = .ok (.iconst 1, 1) := by decide +kernel
theorem dX1_regionOfPixel_1 : decode cX1_regionOfPixel 1 = .ok (.aload_n 0, 1) := by decide +kernel
theorem dX1_regionOfPixel_2 : decode cX1_regionOfPixel 2 = .ok (.getfield 74, 3) := by decide +kernel
theorem dX1_regionOfPixel_5 : decode cX1_regionOfPixel 5 = .ok (.invokestatic 175, 3) := by decide +kernel
theorem dX1_regionOfPixel_8 : decode cX1_regionOfPixel 8 = .ok (.istore_n 3, 1) := by decide +kernel
theorem dX1_regionOfPixel_9 : decode cX1_regionOfPixel 9 = .ok (.iload_n 2, 1) := by decide +kernel
theorem dX1_regionOfPixel_10 : decode cX1_regionOfPixel 10 = .ok (.iload_n 3, 1) := by decide +kernel
theorem dX1_regionOfPixel_11 : decode cX1_regionOfPixel 11 = .ok (.idiv, 1) := by decide +kernel
theorem dX1_regionOfPixel_12 : decode cX1_regionOfPixel 12 = .ok (.aload_n 0, 1) := by decide +kernel
theorem dX1_regionOfPixel_13 : decode cX1_regionOfPixel 13 = .ok (.getfield 181, 3) := by decide +kernel
theorem dX1_regionOfPixel_16 : decode cX1_regionOfPixel 16 = .ok (.imul, 1) := by decide +kernel
theorem dX1_regionOfPixel_17 : decode cX1_regionOfPixel 17 = .ok (.iload_n 1, 1) := by decide +kernel
theorem dX1_regionOfPixel_18 : decode cX1_regionOfPixel 18 = .ok (.iload_n 3, 1) := by decide +kernel
theorem dX1_regionOfPixel_19 : decode cX1_regionOfPixel 19 = .ok (.idiv, 1) := by decide +kernel
theorem dX1_regionOfPixel_20 : decode cX1_regionOfPixel 20 = .ok (.iadd, 1) := by decide +kernel
theorem dX1_regionOfPixel_21 : decode cX1_regionOfPixel 21 = .ok (.istore 4, 2) := by decide +kernel
theorem dX1_regionOfPixel_23 : decode cX1_regionOfPixel 23 = .ok (.iload 4, 2) := by decide +kernel
theorem dX1_regionOfPixel_25 : decode cX1_regionOfPixel 25 = .ok (.ifCond .lt 13, 3) := by decide +kernel
theorem dX1_regionOfPixel_28 : decode cX1_regionOfPixel 28 = .ok (.iload 4, 2) := by decide +kernel
theorem dX1_regionOfPixel_30 : decode cX1_regionOfPixel 30 = .ok (.aload_n 0, 1) := by decide +kernel
theorem dX1_regionOfPixel_31 : decode cX1_regionOfPixel 31 = .ok (.getfield 15, 3) := by decide +kernel
theorem dX1_regionOfPixel_34 : decode cX1_regionOfPixel 34 = .ok (.arraylength, 1) := by decide +kernel
theorem dX1_regionOfPixel_35 : decode cX1_regionOfPixel 35 = .ok (.if_icmp .lt 5, 3) := by decide +kernel
theorem dX1_regionOfPixel_38 : decode cX1_regionOfPixel 38 = .ok (.iconst (-1), 1) := by decide +kernel
theorem dX1_regionOfPixel_39 : decode cX1_regionOfPixel 39 = .ok (.ireturn, 1) := by decide +kernel
theorem dX1_regionOfPixel_40 : decode cX1_regionOfPixel 40 = .ok (.aload_n 0, 1) := by decide +kernel
theorem dX1_regionOfPixel_41 : decode cX1_regionOfPixel 41 = .ok (.aload_n 0, 1) := by decide +kernel
theorem dX1_regionOfPixel_42 : decode cX1_regionOfPixel 42 = .ok (.getfield 15, 3) := by decide +kernel
theorem dX1_regionOfPixel_45 : decode cX1_regionOfPixel 45 = .ok (.iload 4, 2) := by decide +kernel
theorem dX1_regionOfPixel_47 : decode cX1_regionOfPixel 47 = .ok (.iaload, 1) := by decide +kernel
theorem dX1_regionOfPixel_48 : decode cX1_regionOfPixel 48 = .ok (.invokevirtual 207, 3) := by decide +kernel
theorem dX1_regionOfPixel_51 : decode cX1_regionOfPixel 51 = .ok (.astore 5, 2) := by decide +kernel
theorem dX1_regionOfPixel_53 : decode cX1_regionOfPixel 53 = .ok (.aload 5, 2) := by decide +kernel
theorem dX1_regionOfPixel_55 : decode cX1_regionOfPixel 55 = .ok (.ifnonnull 7, 3) := by decide +kernel
theorem dX1_regionOfPixel_58 : decode cX1_regionOfPixel 58 = .ok (.iconst (-1), 1) := by decide +kernel
theorem dX1_regionOfPixel_59 : decode cX1_regionOfPixel 59 = .ok (.goto 8, 3) := by decide +kernel
theorem dX1_regionOfPixel_62 : decode cX1_regionOfPixel 62 = .ok (.aload 5, 2) := by decide +kernel
theorem dX1_regionOfPixel_64 : decode cX1_regionOfPixel 64 = .ok (.getfield 211, 3) := by decide +kernel
theorem dX1_regionOfPixel_67 : decode cX1_regionOfPixel 67 = .ok (.ireturn, 1) := by decide +kernel
theorem dX1_regionNumbered_0 : decode cX1_regionNumbered 0 = .ok (.iload_n 1, 1) := by decide +kernel
theorem dX1_regionNumbered_1 : decode cX1_regionNumbered 1 = .ok (.ifCond .lt 29, 3) := by decide +kernel
theorem dX1_regionNumbered_4 : decode cX1_regionNumbered 4 = .ok (.iload_n 1, 1) := by decide +kernel
theorem dX1_regionNumbered_5 : decode cX1_regionNumbered 5 = .ok (.aload_n 0, 1) := by decide +kernel
theorem dX1_regionNumbered_6 : decode cX1_regionNumbered 6 = .ok (.getfield 149, 3) := by decide +kernel
theorem dX1_regionNumbered_9 : decode cX1_regionNumbered 9 = .ok (.if_icmp .ge 21, 3) := by decide +kernel
theorem dX1_regionNumbered_12 : decode cX1_regionNumbered 12 = .ok (.iload_n 1, 1) := by decide +kernel
theorem dX1_regionNumbered_13 : decode cX1_regionNumbered 13 = .ok (.aload_n 0, 1) := by decide +kernel
theorem dX1_regionNumbered_14 : decode cX1_regionNumbered 14 = .ok (.getfield 30, 3) := by decide +kernel
theorem dX1_regionNumbered_17 : decode cX1_regionNumbered 17 = .ok (.arraylength, 1) := by decide +kernel
theorem dX1_regionNumbered_18 : decode cX1_regionNumbered 18 = .ok (.if_icmp .ge 12, 3) := by decide +kernel
theorem dX1_regionNumbered_21 : decode cX1_regionNumbered 21 = .ok (.aload_n 0, 1) := by decide +kernel
theorem dX1_regionNumbered_22 : decode cX1_regionNumbered 22 = .ok (.getfield 30, 3) := by decide +kernel
theorem dX1_regionNumbered_25 : decode cX1_regionNumbered 25 = .ok (.iload_n 1, 1) := by decide +kernel
theorem dX1_regionNumbered_26 : decode cX1_regionNumbered 26 = .ok (.aaload, 1) := by decide +kernel
theorem dX1_regionNumbered_27 : decode cX1_regionNumbered 27 = .ok (.goto 4, 3) := by decide +kernel
theorem dX1_regionNumbered_30 : decode cX1_regionNumbered 30 = .ok (.aconst_null, 1) := by decide +kernel
theorem dX1_regionNumbered_31 : decode cX1_regionNumbered 31 = .ok (.areturn, 1) := by decide +kernel
theorem dX1_changeNumbered_0 : decode cX1_changeNumbered 0 = .ok (.iload_n 1, 1) := by decide +kernel
theorem dX1_changeNumbered_1 : decode cX1_changeNumbered 1 = .ok (.ifCond .lt 29, 3) := by decide +kernel
theorem dX1_changeNumbered_4 : decode cX1_changeNumbered 4 = .ok (.iload_n 1, 1) := by decide +kernel
theorem dX1_changeNumbered_5 : decode cX1_changeNumbered 5 = .ok (.aload_n 0, 1) := by decide +kernel
theorem dX1_changeNumbered_6 : decode cX1_changeNumbered 6 = .ok (.getfield 283, 3) := by decide +kernel
theorem dX1_changeNumbered_9 : decode cX1_changeNumbered 9 = .ok (.if_icmp .ge 21, 3) := by decide +kernel
theorem dX1_changeNumbered_12 : decode cX1_changeNumbered 12 = .ok (.iload_n 1, 1) := by decide +kernel
theorem dX1_changeNumbered_13 : decode cX1_changeNumbered 13 = .ok (.aload_n 0, 1) := by decide +kernel
theorem dX1_changeNumbered_14 : decode cX1_changeNumbered 14 = .ok (.getfield 35, 3) := by decide +kernel
theorem dX1_changeNumbered_17 : decode cX1_changeNumbered 17 = .ok (.arraylength, 1) := by decide +kernel
theorem dX1_changeNumbered_18 : decode cX1_changeNumbered 18 = .ok (.if_icmp .ge 12, 3) := by decide +kernel
theorem dX1_changeNumbered_21 : decode cX1_changeNumbered 21 = .ok (.aload_n 0, 1) := by decide +kernel
theorem dX1_changeNumbered_22 : decode cX1_changeNumbered 22 = .ok (.getfield 35, 3) := by decide +kernel
theorem dX1_changeNumbered_25 : decode cX1_changeNumbered 25 = .ok (.iload_n 1, 1) := by decide +kernel
theorem dX1_changeNumbered_26 : decode cX1_changeNumbered 26 = .ok (.aaload, 1) := by decide +kernel
theorem dX1_changeNumbered_27 : decode cX1_changeNumbered 27 = .ok (.goto 4, 3) := by decide +kernel
theorem dX1_changeNumbered_30 : decode cX1_changeNumbered 30 = .ok (.aconst_null, 1) := by decide +kernel
theorem dX1_changeNumbered_31 : decode cX1_changeNumbered 31 = .ok (.areturn, 1) := by decide +kernel
theorem dX1_report_0 : decode cX1_report 0 = .ok (.aload_n 1, 1) := by decide +kernel
theorem dX1_report_1 : decode cX1_report 1 = .ok (.ldc_w 309, 3) := by decide +kernel
theorem dX1_report_4 : decode cX1_report 4 = .ok (.invokevirtual 311, 3) := by decide +kernel
theorem dX1_report_7 : decode cX1_report 7 = .ok (.aload_n 1, 1) := by decide +kernel
theorem dX1_report_8 : decode cX1_report 8 = .ok (.aload_n 0, 1) := by decide +kernel
theorem dX1_report_9 : decode cX1_report 9 = .ok (.getfield 70, 3) := by decide +kernel
theorem dX1_report_12 : decode cX1_report 12 = .ok (.getfield 115, 3) := by decide +kernel
theorem dX1_report_15 : decode cX1_report 15 = .ok (.ldc_w 317, 3) := by decide +kernel
theorem dX1_report_18 : decode cX1_report 18 = .ok (.aload_n 0, 1) := by decide +kernel
theorem dX1_report_19 : decode cX1_report 19 = .ok (.getfield 70, 3) := by decide +kernel
theorem dX1_report_22 : decode cX1_report 22 = .ok (.getfield 118, 3) := by decide +kernel
theorem dX1_report_25 : decode cX1_report 25 = .ok (.invokevirtual 319, 3) := by decide +kernel
theorem dX1_report_28 : decode cX1_report 28 = .ok (.aload_n 1, 1) := by decide +kernel
theorem dX1_report_29 : decode cX1_report 29 = .ok (.ldc_w 323, 3) := by decide +kernel
theorem dX1_report_32 : decode cX1_report 32 = .ok (.invokevirtual 311, 3) := by decide +kernel
theorem dX1_report_35 : decode cX1_report 35 = .ok (.aload_n 1, 1) := by decide +kernel
theorem dX1_report_36 : decode cX1_report 36 = .ok (.aload_n 0, 1) := by decide +kernel
theorem dX1_report_37 : decode cX1_report 37 = .ok (.getfield 70, 3) := by decide +kernel
theorem dX1_report_40 : decode cX1_report 40 = .ok (.getfield 325, 3) := by decide +kernel
theorem dX1_report_43 : decode cX1_report 43 = .ok (.invokevirtual 328, 3) := by decide +kernel
theorem dX1_report_46 : decode cX1_report 46 = .ok (.aload_n 0, 1) := by decide +kernel
theorem dX1_report_47 : decode cX1_report 47 = .ok (.getfield 70, 3) := by decide +kernel
theorem dX1_report_50 : decode cX1_report 50 = .ok (.getfield 331, 3) := by decide +kernel
theorem dX1_report_53 : decode cX1_report 53 = .ok (.ifCond .eq 10, 3) := by decide +kernel
theorem dX1_report_56 : decode cX1_report 56 = .ok (.aload_n 1, 1) := by decide +kernel
theorem dX1_report_57 : decode cX1_report 57 = .ok (.ldc_w 335, 3) := by decide +kernel
theorem dX1_report_60 : decode cX1_report 60 = .ok (.invokevirtual 311, 3) := by decide +kernel
theorem dX1_report_63 : decode cX1_report 63 = .ok (.aload_n 1, 1) := by decide +kernel
theorem dX1_report_64 : decode cX1_report 64 = .ok (.bipush 10, 2) := by decide +kernel
theorem dX1_report_66 : decode cX1_report 66 = .ok (.invokevirtual 337, 3) := by decide +kernel
theorem dX1_report_69 : decode cX1_report 69 = .ok (.aload_n 1, 1) := by decide +kernel
theorem dX1_report_70 : decode cX1_report 70 = .ok (.aload_n 0, 1) := by decide +kernel
theorem dX1_report_71 : decode cX1_report 71 = .ok (.getfield 283, 3) := by decide +kernel
theorem dX1_report_74 : decode cX1_report 74 = .ok (.invokevirtual 328, 3) := by decide +kernel
theorem dX1_report_77 : decode cX1_report 77 = .ok (.aload_n 1, 1) := by decide +kernel
theorem dX1_report_78 : decode cX1_report 78 = .ok (.aload_n 0, 1) := by decide +kernel
theorem dX1_report_79 : decode cX1_report 79 = .ok (.getfield 283, 3) := by decide +kernel
theorem dX1_report_82 : decode cX1_report 82 = .ok (.iconst 1, 1) := by decide +kernel
theorem dX1_report_83 : decode cX1_report 83 = .ok (.if_icmp .ne 9, 3) := by decide +kernel
theorem dX1_report_86 : decode cX1_report 86 = .ok (.ldc_w 340, 3) := by decide +kernel
theorem dX1_report_89 : decode cX1_report 89 = .ok (.goto 6, 3) := by decide +kernel
theorem dX1_report_92 : decode cX1_report 92 = .ok (.ldc_w 342, 3) := by decide +kernel
theorem dX1_report_95 : decode cX1_report 95 = .ok (.invokevirtual 311, 3) := by decide +kernel
theorem dX1_report_98 : decode cX1_report 98 = .ok (.aload_n 1, 1) := by decide +kernel
theorem dX1_report_99 : decode cX1_report 99 = .ok (.bipush 10, 2) := by decide +kernel
theorem dX1_report_101 : decode cX1_report 101 = .ok (.invokevirtual 337, 3) := by decide +kernel
theorem dX1_report_104 : decode cX1_report 104 = .ok (.iconst 0, 1) := by decide +kernel
theorem dX1_report_105 : decode cX1_report 105 = .ok (.istore_n 2, 1) := by decide +kernel
theorem dX1_report_106 : decode cX1_report 106 = .ok (.iload_n 2, 1) := by decide +kernel
theorem dX1_report_107 : decode cX1_report 107 = .ok (.aload_n 0, 1) := by decide +kernel
theorem dX1_report_108 : decode cX1_report 108 = .ok (.getfield 283, 3) := by decide +kernel
theorem dX1_report_111 : decode cX1_report 111 = .ok (.if_icmp .ge 28, 3) := by decide +kernel
theorem dX1_report_114 : decode cX1_report 114 = .ok (.iload_n 2, 1) := by decide +kernel
theorem dX1_report_115 : decode cX1_report 115 = .ok (.aload_n 0, 1) := by decide +kernel
theorem dX1_report_116 : decode cX1_report 116 = .ok (.getfield 35, 3) := by decide +kernel
theorem dX1_report_119 : decode cX1_report 119 = .ok (.arraylength, 1) := by decide +kernel
theorem dX1_report_120 : decode cX1_report 120 = .ok (.if_icmp .ge 19, 3) := by decide +kernel
theorem dX1_report_123 : decode cX1_report 123 = .ok (.aload_n 0, 1) := by decide +kernel
theorem dX1_report_124 : decode cX1_report 124 = .ok (.getfield 35, 3) := by decide +kernel
theorem dX1_report_127 : decode cX1_report 127 = .ok (.iload_n 2, 1) := by decide +kernel
theorem dX1_report_128 : decode cX1_report 128 = .ok (.aaload, 1) := by decide +kernel
theorem dX1_report_129 : decode cX1_report 129 = .ok (.aload_n 1, 1) := by decide +kernel
theorem dX1_report_130 : decode cX1_report 130 = .ok (.invokevirtual 344, 3) := by decide +kernel
theorem dX1_report_133 : decode cX1_report 133 = .ok (.iinc 2 1, 3) := by decide +kernel
theorem dX1_report_136 : decode cX1_report 136 = .ok (.goto (-30), 3) := by decide +kernel
theorem dX1_report_139 : decode cX1_report 139 = .ok (.return_, 1) := by decide +kernel
theorem dX1_noiseFor_0 : decode cX1_noiseFor 0 = .ok (.iconst 0, 1) := by decide +kernel
theorem dX1_noiseFor_1 : decode cX1_noiseFor 1 = .ok (.istore_n 2, 1) := by decide +kernel
theorem dX1_noiseFor_2 : decode cX1_noiseFor 2 = .ok (.iload_n 2, 1) := by decide +kernel
theorem dX1_noiseFor_3 : decode cX1_noiseFor 3 = .ok (.sipush 256, 3) := by decide +kernel
theorem dX1_noiseFor_6 : decode cX1_noiseFor 6 = .ok (.if_icmp .ge 22, 3) := by decide +kernel
theorem dX1_noiseFor_9 : decode cX1_noiseFor 9 = .ok (.aload_n 0, 1) := by decide +kernel
theorem dX1_noiseFor_10 : decode cX1_noiseFor 10 = .ok (.iload_n 2, 1) := by decide +kernel
theorem dX1_noiseFor_11 : decode cX1_noiseFor 11 = .ok (.aload_n 0, 1) := by decide +kernel
theorem dX1_noiseFor_12 : decode cX1_noiseFor 12 = .ok (.getfield 18, 3) := by decide +kernel
theorem dX1_noiseFor_15 : decode cX1_noiseFor 15 = .ok (.invokevirtual 145, 3) := by decide +kernel
theorem dX1_noiseFor_18 : decode cX1_noiseFor 18 = .ok (.iload_n 1, 1) := by decide +kernel
theorem dX1_noiseFor_19 : decode cX1_noiseFor 19 = .ok (.if_icmp .le 9, 3) := by decide +kernel
theorem dX1_noiseFor_22 : decode cX1_noiseFor 22 = .ok (.iinc 2 1, 3) := by decide +kernel
theorem dX1_noiseFor_25 : decode cX1_noiseFor 25 = .ok (.goto (-23), 3) := by decide +kernel
theorem dX1_noiseFor_28 : decode cX1_noiseFor 28 = .ok (.iload_n 2, 1) := by decide +kernel
theorem dX1_noiseFor_29 : decode cX1_noiseFor 29 = .ok (.ireturn, 1) := by decide +kernel
theorem dX12_init_0 : decode cX12_init 0 = .ok (.aload_n 0, 1) := by decide +kernel
theorem dX12_init_1 : decode cX12_init 1 = .ok (.invokespecial 1, 3) := by decide +kernel
theorem dX12_init_4 : decode cX12_init 4 = .ok (.aload_n 0, 1) := by decide +kernel
theorem dX12_init_5 : decode cX12_init 5 = .ok (.bipush 8, 2) := by decide +kernel
theorem dX12_init_7 : decode cX12_init 7 = .ok (.bipush 64, 2) := by decide +kernel
theorem dX12_init_9 : decode cX12_init 9 = .ok (.iload_n 1, 1) := by decide +kernel
theorem dX12_init_10 : decode cX12_init 10 = .ok (.invokestatic 9, 3) := by decide +kernel
theorem dX12_init_13 : decode cX12_init 13 = .ok (.invokestatic 15, 3) := by decide +kernel
theorem dX12_init_16 : decode cX12_init 16 = .ok (.putfield 18, 3) := by decide +kernel
theorem dX12_init_19 : decode cX12_init 19 = .ok (.aload_n 0, 1) := by decide +kernel
theorem dX12_init_20 : decode cX12_init 20 = .ok (.bipush 8, 2) := by decide +kernel
theorem dX12_init_22 : decode cX12_init 22 = .ok (.bipush 64, 2) := by decide +kernel
theorem dX12_init_24 : decode cX12_init 24 = .ok (.iload_n 2, 1) := by decide +kernel
theorem dX12_init_25 : decode cX12_init 25 = .ok (.invokestatic 9, 3) := by decide +kernel
theorem dX12_init_28 : decode cX12_init 28 = .ok (.invokestatic 15, 3) := by decide +kernel
theorem dX12_init_31 : decode cX12_init 31 = .ok (.putfield 22, 3) := by decide +kernel
theorem dX12_init_34 : decode cX12_init 34 = .ok (.aload_n 0, 1) := by decide +kernel
theorem dX12_init_35 : decode cX12_init 35 = .ok (.iconst 4, 1) := by decide +kernel
theorem dX12_init_36 : decode cX12_init 36 = .ok (.anewarray 25, 3) := by decide +kernel
theorem dX12_init_39 : decode cX12_init 39 = .ok (.putfield 27, 3) := by decide +kernel
theorem dX12_init_42 : decode cX12_init 42 = .ok (.iconst 0, 1) := by decide +kernel
theorem dX12_init_43 : decode cX12_init 43 = .ok (.istore_n 3, 1) := by decide +kernel
theorem dX12_init_44 : decode cX12_init 44 = .ok (.iload_n 3, 1) := by decide +kernel
theorem dX12_init_45 : decode cX12_init 45 = .ok (.iconst 4, 1) := by decide +kernel
theorem dX12_init_46 : decode cX12_init 46 = .ok (.if_icmp .ge 30, 3) := by decide +kernel
theorem dX12_init_49 : decode cX12_init 49 = .ok (.aload_n 0, 1) := by decide +kernel
theorem dX12_init_50 : decode cX12_init 50 = .ok (.getfield 27, 3) := by decide +kernel
theorem dX12_init_53 : decode cX12_init 53 = .ok (.iload_n 3, 1) := by decide +kernel
theorem dX12_init_54 : decode cX12_init 54 = .ok (.new 25, 3) := by decide +kernel
theorem dX12_init_57 : decode cX12_init 57 = .ok (.dup, 1) := by decide +kernel
theorem dX12_init_58 : decode cX12_init 58 = .ok (.aload_n 0, 1) := by decide +kernel
theorem dX12_init_59 : decode cX12_init 59 = .ok (.getfield 18, 3) := by decide +kernel
theorem dX12_init_62 : decode cX12_init 62 = .ok (.aload_n 0, 1) := by decide +kernel
theorem dX12_init_63 : decode cX12_init 63 = .ok (.getfield 22, 3) := by decide +kernel
theorem dX12_init_66 : decode cX12_init 66 = .ok (.invokespecial 31, 3) := by decide +kernel
theorem dX12_init_69 : decode cX12_init 69 = .ok (.aastore, 1) := by decide +kernel
theorem dX12_init_70 : decode cX12_init 70 = .ok (.iinc 3 1, 3) := by decide +kernel
theorem dX12_init_73 : decode cX12_init 73 = .ok (.goto (-29), 3) := by decide +kernel
theorem dX12_init_76 : decode cX12_init 76 = .ok (.aload_n 0, 1) := by decide +kernel
theorem dX12_init_77 : decode cX12_init 77 = .ok (.new 34, 3) := by decide +kernel
theorem dX12_init_80 : decode cX12_init 80 = .ok (.dup, 1) := by decide +kernel
theorem dX12_init_81 : decode cX12_init 81 = .ok (.aload_n 0, 1) := by decide +kernel
theorem dX12_init_82 : decode cX12_init 82 = .ok (.getfield 18, 3) := by decide +kernel
theorem dX12_init_85 : decode cX12_init 85 = .ok (.aload_n 0, 1) := by decide +kernel
theorem dX12_init_86 : decode cX12_init 86 = .ok (.getfield 22, 3) := by decide +kernel
theorem dX12_init_89 : decode cX12_init 89 = .ok (.invokespecial 36, 3) := by decide +kernel
theorem dX12_init_92 : decode cX12_init 92 = .ok (.putfield 37, 3) := by decide +kernel
theorem dX12_init_95 : decode cX12_init 95 = .ok (.aload_n 0, 1) := by decide +kernel
theorem dX12_init_96 : decode cX12_init 96 = .ok (.new 41, 3) := by decide +kernel
theorem dX12_init_99 : decode cX12_init 99 = .ok (.dup, 1) := by decide +kernel
theorem dX12_init_100 : decode cX12_init 100 = .ok (.aload_n 0, 1) := by decide +kernel
theorem dX12_init_101 : decode cX12_init 101 = .ok (.getfield 18, 3) := by decide +kernel
theorem dX12_init_104 : decode cX12_init 104 = .ok (.aload_n 0, 1) := by decide +kernel
theorem dX12_init_105 : decode cX12_init 105 = .ok (.getfield 22, 3) := by decide +kernel
theorem dX12_init_108 : decode cX12_init 108 = .ok (.invokespecial 43, 3) := by decide +kernel
theorem dX12_init_111 : decode cX12_init 111 = .ok (.putfield 44, 3) := by decide +kernel
theorem dX12_init_114 : decode cX12_init 114 = .ok (.aload_n 0, 1) := by decide +kernel
theorem dX12_init_115 : decode cX12_init 115 = .ok (.new 48, 3) := by decide +kernel
theorem dX12_init_118 : decode cX12_init 118 = .ok (.dup, 1) := by decide +kernel
theorem dX12_init_119 : decode cX12_init 119 = .ok (.invokespecial 50, 3) := by decide +kernel
theorem dX12_init_122 : decode cX12_init 122 = .ok (.putfield 51, 3) := by decide +kernel
theorem dX12_init_125 : decode cX12_init 125 = .ok (.aload_n 0, 1) := by decide +kernel
theorem dX12_init_126 : decode cX12_init 126 = .ok (.new 55, 3) := by decide +kernel
theorem dX12_init_129 : decode cX12_init 129 = .ok (.dup, 1) := by decide +kernel
theorem dX12_init_130 : decode cX12_init 130 = .ok (.invokespecial 57, 3) := by decide +kernel
theorem dX12_init_133 : decode cX12_init 133 = .ok (.putfield 58, 3) := by decide +kernel
theorem dX12_init_136 : decode cX12_init 136 = .ok (.aload_n 0, 1) := by decide +kernel
theorem dX12_init_137 : decode cX12_init 137 = .ok (.bipush 6, 2) := by decide +kernel
theorem dX12_init_139 : decode cX12_init 139 = .ok (.iconst 4, 1) := by decide +kernel
theorem dX12_init_140 : decode cX12_init 140 = .ok (.multianewarray 62 2, 4) := by decide +kernel
theorem dX12_init_144 : decode cX12_init 144 = .ok (.putfield 64, 3) := by decide +kernel
theorem dX12_init_147 : decode cX12_init 147 = .ok (.aload_n 0, 1) := by decide +kernel
theorem dX12_init_148 : decode cX12_init 148 = .ok (.new 25, 3) := by decide +kernel
theorem dX12_init_151 : decode cX12_init 151 = .ok (.dup, 1) := by decide +kernel
theorem dX12_init_152 : decode cX12_init 152 = .ok (.aload_n 0, 1) := by decide +kernel
theorem dX12_init_153 : decode cX12_init 153 = .ok (.getfield 18, 3) := by decide +kernel
theorem dX12_init_156 : decode cX12_init 156 = .ok (.aload_n 0, 1) := by decide +kernel
theorem dX12_init_157 : decode cX12_init 157 = .ok (.getfield 22, 3) := by decide +kernel
theorem dX12_init_160 : decode cX12_init 160 = .ok (.invokespecial 31, 3) := by decide +kernel
theorem dX12_init_163 : decode cX12_init 163 = .ok (.putfield 67, 3) := by decide +kernel
theorem dX12_init_166 : decode cX12_init 166 = .ok (.aload_n 0, 1) := by decide +kernel
theorem dX12_init_167 : decode cX12_init 167 = .ok (.new 71, 3) := by decide +kernel
theorem dX12_init_170 : decode cX12_init 170 = .ok (.dup, 1) := by decide +kernel
theorem dX12_init_171 : decode cX12_init 171 = .ok (.invokespecial 73, 3) := by decide +kernel
theorem dX12_init_174 : decode cX12_init 174 = .ok (.putfield 74, 3) := by decide +kernel
theorem dX12_init_177 : decode cX12_init 177 = .ok (.aload_n 0, 1) := by decide +kernel
theorem dX12_init_178 : decode cX12_init 178 = .ok (.new 78, 3) := by decide +kernel
theorem dX12_init_181 : decode cX12_init 181 = .ok (.dup, 1) := by decide +kernel
theorem dX12_init_182 : decode cX12_init 182 = .ok (.aload_n 0, 1) := by decide +kernel
theorem dX12_init_183 : decode cX12_init 183 = .ok (.getfield 18, 3) := by decide +kernel
theorem dX12_init_186 : decode cX12_init 186 = .ok (.aload_n 0, 1) := by decide +kernel
theorem dX12_init_187 : decode cX12_init 187 = .ok (.getfield 22, 3) := by decide +kernel
theorem dX12_init_190 : decode cX12_init 190 = .ok (.invokespecial 80, 3) := by decide +kernel
theorem dX12_init_193 : decode cX12_init 193 = .ok (.putfield 81, 3) := by decide +kernel
theorem dX12_init_196 : decode cX12_init 196 = .ok (.aload_n 0, 1) := by decide +kernel
theorem dX12_init_197 : decode cX12_init 197 = .ok (.new 85, 3) := by decide +kernel
theorem dX12_init_200 : decode cX12_init 200 = .ok (.dup, 1) := by decide +kernel
theorem dX12_init_201 : decode cX12_init 201 = .ok (.invokespecial 87, 3) := by decide +kernel
theorem dX12_init_204 : decode cX12_init 204 = .ok (.putfield 88, 3) := by decide +kernel
theorem dX12_init_207 : decode cX12_init 207 = .ok (.return_, 1) := by decide +kernel
theorem dX12_clearText_0 : decode cX12_clearText 0 = .ok (.aload_n 0, 1) := by decide +kernel
theorem dX12_clearText_1 : decode cX12_clearText 1 = .ok (.getfield 51, 3) := by decide +kernel
theorem dX12_clearText_4 : decode cX12_clearText 4 = .ok (.invokevirtual 155, 3) := by decide +kernel
theorem dX12_clearText_7 : decode cX12_clearText 7 = .ok (.ireturn, 1) := by decide +kernel
theorem dX12_configure_0 : decode cX12_configure 0 = .ok (.aload_n 0, 1) := by decide +kernel
theorem dX12_configure_1 : decode cX12_configure 1 = .ok (.getfield 58, 3) := by decide +kernel
theorem dX12_configure_4 : decode cX12_configure 4 = .ok (.aload_n 0, 1) := by decide +kernel
theorem dX12_configure_5 : decode cX12_configure 5 = .ok (.getfield 51, 3) := by decide +kernel
theorem dX12_configure_8 : decode cX12_configure 8 = .ok (.invokevirtual 207, 3) := by decide +kernel
theorem dX12_configure_11 : decode cX12_configure 11 = .ok (.istore_n 1, 1) := by decide +kernel
theorem dX12_configure_12 : decode cX12_configure 12 = .ok (.iload_n 1, 1) := by decide +kernel
theorem dX12_configure_13 : decode cX12_configure 13 = .ok (.ifCond .lt 18, 3) := by decide +kernel
theorem dX12_configure_16 : decode cX12_configure 16 = .ok (.aload_n 0, 1) := by decide +kernel
theorem dX12_configure_17 : decode cX12_configure 17 = .ok (.getfield 58, 3) := by decide +kernel
theorem dX12_configure_20 : decode cX12_configure 20 = .ok (.invokevirtual 211, 3) := by decide +kernel
theorem dX12_configure_23 : decode cX12_configure 23 = .ok (.aload_n 0, 1) := by decide +kernel
theorem dX12_configure_24 : decode cX12_configure 24 = .ok (.getfield 51, 3) := by decide +kernel
theorem dX12_configure_27 : decode cX12_configure 27 = .ok (.invokevirtual 155, 3) := by decide +kernel
theorem dX12_configure_30 : decode cX12_configure 30 = .ok (.pop, 1) := by decide +kernel
theorem dX12_configure_31 : decode cX12_configure 31 = .ok (.iload_n 1, 1) := by decide +kernel
theorem dX12_configure_32 : decode cX12_configure 32 = .ok (.ireturn, 1) := by decide +kernel
theorem dX12_compare_0 : decode cX12_compare 0 = .ok (.aload_n 0, 1) := by decide +kernel
theorem dX12_compare_1 : decode cX12_compare 1 = .ok (.getfield 67, 3) := by decide +kernel
theorem dX12_compare_4 : decode cX12_compare 4 = .ok (.lconst 0, 1) := by decide +kernel
theorem dX12_compare_5 : decode cX12_compare 5 = .ok (.lconst 0, 1) := by decide +kernel
theorem dX12_compare_6 : decode cX12_compare 6 = .ok (.aload_n 0, 1) := by decide +kernel
theorem dX12_compare_7 : decode cX12_compare 7 = .ok (.getfield 18, 3) := by decide +kernel
theorem dX12_compare_10 : decode cX12_compare 10 = .ok (.aload_n 0, 1) := by decide +kernel
theorem dX12_compare_11 : decode cX12_compare 11 = .ok (.getfield 22, 3) := by decide +kernel
theorem dX12_compare_14 : decode cX12_compare 14 = .ok (.iconst 1, 1) := by decide +kernel
theorem dX12_compare_15 : decode cX12_compare 15 = .ok (.invokevirtual 119, 3) := by decide +kernel
theorem dX12_compare_18 : decode cX12_compare 18 = .ok (.iconst 0, 1) := by decide +kernel
theorem dX12_compare_19 : decode cX12_compare 19 = .ok (.istore_n 1, 1) := by decide +kernel
theorem dX12_compare_20 : decode cX12_compare 20 = .ok (.iload_n 1, 1) := by decide +kernel
theorem dX12_compare_21 : decode cX12_compare 21 = .ok (.aload_n 0, 1) := by decide +kernel
theorem dX12_compare_22 : decode cX12_compare 22 = .ok (.getfield 245, 3) := by decide +kernel
theorem dX12_compare_25 : decode cX12_compare 25 = .ok (.if_icmp .ge 38, 3) := by decide +kernel
theorem dX12_compare_28 : decode cX12_compare 28 = .ok (.aload_n 0, 1) := by decide +kernel
theorem dX12_compare_29 : decode cX12_compare 29 = .ok (.getfield 64, 3) := by decide +kernel
theorem dX12_compare_32 : decode cX12_compare 32 = .ok (.iload_n 1, 1) := by decide +kernel
theorem dX12_compare_33 : decode cX12_compare 33 = .ok (.aaload, 1) := by decide +kernel
theorem dX12_compare_34 : decode cX12_compare 34 = .ok (.astore_n 2, 1) := by decide +kernel
theorem dX12_compare_35 : decode cX12_compare 35 = .ok (.aload_n 0, 1) := by decide +kernel
theorem dX12_compare_36 : decode cX12_compare 36 = .ok (.getfield 67, 3) := by decide +kernel
theorem dX12_compare_39 : decode cX12_compare 39 = .ok (.aload_n 2, 1) := by decide +kernel
theorem dX12_compare_40 : decode cX12_compare 40 = .ok (.iconst 0, 1) := by decide +kernel
theorem dX12_compare_41 : decode cX12_compare 41 = .ok (.iaload, 1) := by decide +kernel
theorem dX12_compare_42 : decode cX12_compare 42 = .ok (.i2l, 1) := by decide +kernel
theorem dX12_compare_43 : decode cX12_compare 43 = .ok (.aload_n 2, 1) := by decide +kernel
theorem dX12_compare_44 : decode cX12_compare 44 = .ok (.iconst 1, 1) := by decide +kernel
theorem dX12_compare_45 : decode cX12_compare 45 = .ok (.iaload, 1) := by decide +kernel
theorem dX12_compare_46 : decode cX12_compare 46 = .ok (.i2l, 1) := by decide +kernel
theorem dX12_compare_47 : decode cX12_compare 47 = .ok (.aload_n 2, 1) := by decide +kernel
theorem dX12_compare_48 : decode cX12_compare 48 = .ok (.iconst 2, 1) := by decide +kernel
theorem dX12_compare_49 : decode cX12_compare 49 = .ok (.iaload, 1) := by decide +kernel
theorem dX12_compare_50 : decode cX12_compare 50 = .ok (.aload_n 2, 1) := by decide +kernel
theorem dX12_compare_51 : decode cX12_compare 51 = .ok (.iconst 3, 1) := by decide +kernel
theorem dX12_compare_52 : decode cX12_compare 52 = .ok (.iaload, 1) := by decide +kernel
theorem dX12_compare_53 : decode cX12_compare 53 = .ok (.iconst 0, 1) := by decide +kernel
theorem dX12_compare_54 : decode cX12_compare 54 = .ok (.invokevirtual 119, 3) := by decide +kernel
theorem dX12_compare_57 : decode cX12_compare 57 = .ok (.iinc 1 1, 3) := by decide +kernel
theorem dX12_compare_60 : decode cX12_compare 60 = .ok (.goto (-40), 3) := by decide +kernel
theorem dX12_compare_63 : decode cX12_compare 63 = .ok (.aload_n 0, 1) := by decide +kernel
theorem dX12_compare_64 : decode cX12_compare 64 = .ok (.getfield 81, 3) := by decide +kernel
theorem dX12_compare_67 : decode cX12_compare 67 = .ok (.aload_n 0, 1) := by decide +kernel
theorem dX12_compare_68 : decode cX12_compare 68 = .ok (.getfield 27, 3) := by decide +kernel
theorem dX12_compare_71 : decode cX12_compare 71 = .ok (.iconst 0, 1) := by decide +kernel
theorem dX12_compare_72 : decode cX12_compare 72 = .ok (.aaload, 1) := by decide +kernel
theorem dX12_compare_73 : decode cX12_compare 73 = .ok (.aload_n 0, 1) := by decide +kernel
theorem dX12_compare_74 : decode cX12_compare 74 = .ok (.getfield 27, 3) := by decide +kernel
theorem dX12_compare_77 : decode cX12_compare 77 = .ok (.iconst 1, 1) := by decide +kernel
theorem dX12_compare_78 : decode cX12_compare 78 = .ok (.aaload, 1) := by decide +kernel
theorem dX12_compare_79 : decode cX12_compare 79 = .ok (.aload_n 0, 1) := by decide +kernel
theorem dX12_compare_80 : decode cX12_compare 80 = .ok (.getfield 44, 3) := by decide +kernel
theorem dX12_compare_83 : decode cX12_compare 83 = .ok (.aload_n 0, 1) := by decide +kernel
theorem dX12_compare_84 : decode cX12_compare 84 = .ok (.getfield 58, 3) := by decide +kernel
theorem dX12_compare_87 : decode cX12_compare 87 = .ok (.invokevirtual 258, 3) := by decide +kernel
theorem dX12_compare_90 : decode cX12_compare 90 = .ok (.aload_n 0, 1) := by decide +kernel
theorem dX12_compare_91 : decode cX12_compare 91 = .ok (.getfield 81, 3) := by decide +kernel
theorem dX12_compare_94 : decode cX12_compare 94 = .ok (.aload_n 0, 1) := by decide +kernel
theorem dX12_compare_95 : decode cX12_compare 95 = .ok (.getfield 67, 3) := by decide +kernel
theorem dX12_compare_98 : decode cX12_compare 98 = .ok (.aload_n 0, 1) := by decide +kernel
theorem dX12_compare_99 : decode cX12_compare 99 = .ok (.getfield 58, 3) := by decide +kernel
theorem dX12_compare_102 : decode cX12_compare 102 = .ok (.aload_n 0, 1) := by decide +kernel
theorem dX12_compare_103 : decode cX12_compare 103 = .ok (.getfield 74, 3) := by decide +kernel
theorem dX12_compare_106 : decode cX12_compare 106 = .ok (.invokevirtual 262, 3) := by decide +kernel
theorem dX12_compare_109 : decode cX12_compare 109 = .ok (.aload_n 0, 1) := by decide +kernel
theorem dX12_compare_110 : decode cX12_compare 110 = .ok (.iconst 1, 1) := by decide +kernel
theorem dX12_compare_111 : decode cX12_compare 111 = .ok (.putfield 266, 3) := by decide +kernel
theorem dX12_compare_114 : decode cX12_compare 114 = .ok (.aload_n 0, 1) := by decide +kernel
theorem dX12_compare_115 : decode cX12_compare 115 = .ok (.getfield 81, 3) := by decide +kernel
theorem dX12_compare_118 : decode cX12_compare 118 = .ok (.getfield 270, 3) := by decide +kernel
theorem dX12_compare_121 : decode cX12_compare 121 = .ok (.ireturn, 1) := by decide +kernel
theorem dX12_row_0 : decode cX12_row 0 = .ok (.aload_n 0, 1) := by decide +kernel
theorem dX12_row_1 : decode cX12_row 1 = .ok (.iload_n 1, 1) := by decide +kernel
theorem dX12_row_2 : decode cX12_row 2 = .ok (.invokevirtual 92, 3) := by decide +kernel
theorem dX12_row_5 : decode cX12_row 5 = .ok (.astore_n 3, 1) := by decide +kernel
theorem dX12_row_6 : decode cX12_row 6 = .ok (.aload_n 0, 1) := by decide +kernel
theorem dX12_row_7 : decode cX12_row 7 = .ok (.iload_n 2, 1) := by decide +kernel
theorem dX12_row_8 : decode cX12_row 8 = .ok (.invokevirtual 96, 3) := by decide +kernel
theorem dX12_row_11 : decode cX12_row 11 = .ok (.aload_n 3, 1) := by decide +kernel
theorem dX12_row_12 : decode cX12_row 12 = .ok (.iload_n 2, 1) := by decide +kernel
theorem dX12_row_13 : decode cX12_row 13 = .ok (.invokevirtual 100, 3) := by decide +kernel
theorem dX12_row_16 : decode cX12_row 16 = .ok (.lreturn, 1) := by decide +kernel
theorem dX12_pageAt_0 : decode cX12_pageAt 0 = .ok (.iload_n 1, 1) := by decide +kernel
theorem dX12_pageAt_1 : decode cX12_pageAt 1 = .ok (.ifCond .lt 12, 3) := by decide +kernel
theorem dX12_pageAt_4 : decode cX12_pageAt 4 = .ok (.iload_n 1, 1) := by decide +kernel
theorem dX12_pageAt_5 : decode cX12_pageAt 5 = .ok (.aload_n 0, 1) := by decide +kernel
theorem dX12_pageAt_6 : decode cX12_pageAt 6 = .ok (.getfield 27, 3) := by decide +kernel
theorem dX12_pageAt_9 : decode cX12_pageAt 9 = .ok (.arraylength, 1) := by decide +kernel
theorem dX12_pageAt_10 : decode cX12_pageAt 10 = .ok (.if_icmp .lt 14, 3) := by decide +kernel
theorem dX12_pageAt_13 : decode cX12_pageAt 13 = .ok (.new 218, 3) := by decide +kernel
theorem dX12_pageAt_16 : decode cX12_pageAt 16 = .ok (.dup, 1) := by decide +kernel
theorem dX12_pageAt_17 : decode cX12_pageAt 17 = .ok (.ldc_w 404, 3) := by decide +kernel
theorem dX12_pageAt_20 : decode cX12_pageAt 20 = .ok (.invokespecial 222, 3) := by decide +kernel
theorem dX12_pageAt_23 : decode cX12_pageAt 23 = .ok (.athrow, 1) := by decide +kernel
theorem dX12_pageAt_24 : decode cX12_pageAt 24 = .ok (.aload_n 0, 1) := by decide +kernel
theorem dX12_pageAt_25 : decode cX12_pageAt 25 = .ok (.getfield 27, 3) := by decide +kernel
theorem dX12_pageAt_28 : decode cX12_pageAt 28 = .ok (.iload_n 1, 1) := by decide +kernel
theorem dX12_pageAt_29 : decode cX12_pageAt 29 = .ok (.aaload, 1) := by decide +kernel
theorem dX12_pageAt_30 : decode cX12_pageAt 30 = .ok (.areturn, 1) := by decide +kernel
theorem dX12_requireRow_0 : decode cX12_requireRow 0 = .ok (.iload_n 1, 1) := by decide +kernel
theorem dX12_requireRow_1 : decode cX12_requireRow 1 = .ok (.ifCond .lt 11, 3) := by decide +kernel
theorem dX12_requireRow_4 : decode cX12_requireRow 4 = .ok (.iload_n 1, 1) := by decide +kernel
theorem dX12_requireRow_5 : decode cX12_requireRow 5 = .ok (.aload_n 0, 1) := by decide +kernel
theorem dX12_requireRow_6 : decode cX12_requireRow 6 = .ok (.getfield 22, 3) := by decide +kernel
theorem dX12_requireRow_9 : decode cX12_requireRow 9 = .ok (.if_icmp .lt 14, 3) := by decide +kernel
theorem dX12_requireRow_12 : decode cX12_requireRow 12 = .ok (.new 218, 3) := by decide +kernel
theorem dX12_requireRow_15 : decode cX12_requireRow 15 = .ok (.dup, 1) := by decide +kernel
theorem dX12_requireRow_16 : decode cX12_requireRow 16 = .ok (.ldc_w 406, 3) := by decide +kernel
theorem dX12_requireRow_19 : decode cX12_requireRow 19 = .ok (.invokespecial 222, 3) := by decide +kernel
theorem dX12_requireRow_22 : decode cX12_requireRow 22 = .ok (.athrow, 1) := by decide +kernel
theorem dX12_requireRow_23 : decode cX12_requireRow 23 = .ok (.return_, 1) := by decide +kernel
theorem dX12_setRow_0 : decode cX12_setRow 0 = .ok (.aload_n 0, 1) := by decide +kernel
theorem dX12_setRow_1 : decode cX12_setRow 1 = .ok (.iload_n 1, 1) := by decide +kernel
theorem dX12_setRow_2 : decode cX12_setRow 2 = .ok (.invokevirtual 92, 3) := by decide +kernel
theorem dX12_setRow_5 : decode cX12_setRow 5 = .ok (.astore 5, 2) := by decide +kernel
theorem dX12_setRow_7 : decode cX12_setRow 7 = .ok (.aload_n 0, 1) := by decide +kernel
theorem dX12_setRow_8 : decode cX12_setRow 8 = .ok (.iload_n 2, 1) := by decide +kernel
theorem dX12_setRow_9 : decode cX12_setRow 9 = .ok (.invokevirtual 96, 3) := by decide +kernel
theorem dX12_setRow_12 : decode cX12_setRow 12 = .ok (.aload_n 0, 1) := by decide +kernel
theorem dX12_setRow_13 : decode cX12_setRow 13 = .ok (.getfield 37, 3) := by decide +kernel
theorem dX12_setRow_16 : decode cX12_setRow 16 = .ok (.iload_n 1, 1) := by decide +kernel
theorem dX12_setRow_17 : decode cX12_setRow 17 = .ok (.aload 5, 2) := by decide +kernel
theorem dX12_setRow_19 : decode cX12_setRow 19 = .ok (.invokevirtual 104, 3) := by decide +kernel
theorem dX12_setRow_22 : decode cX12_setRow 22 = .ok (.astore 6, 2) := by decide +kernel
theorem dX12_setRow_24 : decode cX12_setRow 24 = .ok (.aload 5, 2) := by decide +kernel
theorem dX12_setRow_26 : decode cX12_setRow 26 = .ok (.iload_n 2, 1) := by decide +kernel
theorem dX12_setRow_27 : decode cX12_setRow 27 = .ok (.lload_n 3, 1) := by decide +kernel
theorem dX12_setRow_28 : decode cX12_setRow 28 = .ok (.invokevirtual 108, 3) := by decide +kernel
theorem dX12_setRow_31 : decode cX12_setRow 31 = .ok (.aload 5, 2) := by decide +kernel
theorem dX12_setRow_33 : decode cX12_setRow 33 = .ok (.aload 6, 2) := by decide +kernel
theorem dX12_setRow_35 : decode cX12_setRow 35 = .ok (.invokevirtual 112, 3) := by decide +kernel
theorem dX12_setRow_38 : decode cX12_setRow 38 = .ok (.ireturn, 1) := by decide +kernel
theorem dX12_fill_0 : decode cX12_fill 0 = .ok (.aload_n 0, 1) := by decide +kernel
theorem dX12_fill_1 : decode cX12_fill 1 = .ok (.iload_n 1, 1) := by decide +kernel
theorem dX12_fill_2 : decode cX12_fill 2 = .ok (.invokevirtual 92, 3) := by decide +kernel
theorem dX12_fill_5 : decode cX12_fill 5 = .ok (.astore 7, 2) := by decide +kernel
theorem dX12_fill_7 : decode cX12_fill 7 = .ok (.iload 4, 2) := by decide +kernel
theorem dX12_fill_9 : decode cX12_fill 9 = .ok (.iload 5, 2) := by decide +kernel
theorem dX12_fill_11 : decode cX12_fill 11 = .ok (.invokestatic 116, 3) := by decide +kernel
theorem dX12_fill_14 : decode cX12_fill 14 = .ok (.aload_n 0, 1) := by decide +kernel
theorem dX12_fill_15 : decode cX12_fill 15 = .ok (.getfield 37, 3) := by decide +kernel
theorem dX12_fill_18 : decode cX12_fill 18 = .ok (.iload_n 1, 1) := by decide +kernel
theorem dX12_fill_19 : decode cX12_fill 19 = .ok (.aload 7, 2) := by decide +kernel
theorem dX12_fill_21 : decode cX12_fill 21 = .ok (.invokevirtual 104, 3) := by decide +kernel
theorem dX12_fill_24 : decode cX12_fill 24 = .ok (.astore 8, 2) := by decide +kernel
theorem dX12_fill_26 : decode cX12_fill 26 = .ok (.aload 7, 2) := by decide +kernel
theorem dX12_fill_28 : decode cX12_fill 28 = .ok (.iload_n 2, 1) := by decide +kernel
theorem dX12_fill_29 : decode cX12_fill 29 = .ok (.i2l, 1) := by decide +kernel
theorem dX12_fill_30 : decode cX12_fill 30 = .ok (.iload_n 3, 1) := by decide +kernel
theorem dX12_fill_31 : decode cX12_fill 31 = .ok (.i2l, 1) := by decide +kernel
theorem dX12_fill_32 : decode cX12_fill 32 = .ok (.iload 4, 2) := by decide +kernel
theorem dX12_fill_34 : decode cX12_fill 34 = .ok (.iload 5, 2) := by decide +kernel
theorem dX12_fill_36 : decode cX12_fill 36 = .ok (.iload 6, 2) := by decide +kernel
theorem dX12_fill_38 : decode cX12_fill 38 = .ok (.invokevirtual 119, 3) := by decide +kernel
theorem dX12_fill_41 : decode cX12_fill 41 = .ok (.aload 7, 2) := by decide +kernel
theorem dX12_fill_43 : decode cX12_fill 43 = .ok (.aload 8, 2) := by decide +kernel
theorem dX12_fill_45 : decode cX12_fill 45 = .ok (.invokevirtual 112, 3) := by decide +kernel
theorem dX12_fill_48 : decode cX12_fill 48 = .ok (.ireturn, 1) := by decide +kernel
theorem dX12_requireSize_0 : decode cX12_requireSize 0 = .ok (.iload_n 0, 1) := by decide +kernel
theorem dX12_requireSize_1 : decode cX12_requireSize 1 = .ok (.ifCond .lt 7, 3) := by decide +kernel
theorem dX12_requireSize_4 : decode cX12_requireSize 4 = .ok (.iload_n 1, 1) := by decide +kernel
theorem dX12_requireSize_5 : decode cX12_requireSize 5 = .ok (.ifCond .ge 14, 3) := by decide +kernel
theorem dX12_requireSize_8 : decode cX12_requireSize 8 = .ok (.new 131, 3) := by decide +kernel
theorem dX12_requireSize_11 : decode cX12_requireSize 11 = .ok (.dup, 1) := by decide +kernel
theorem dX12_requireSize_12 : decode cX12_requireSize 12 = .ok (.ldc_w 408, 3) := by decide +kernel
theorem dX12_requireSize_15 : decode cX12_requireSize 15 = .ok (.invokespecial 135, 3) := by decide +kernel
theorem dX12_requireSize_18 : decode cX12_requireSize 18 = .ok (.athrow, 1) := by decide +kernel
theorem dX12_requireSize_19 : decode cX12_requireSize 19 = .ok (.return_, 1) := by decide +kernel
theorem dX12_copy_0 : decode cX12_copy 0 = .ok (.aload_n 0, 1) := by decide +kernel
theorem dX12_copy_1 : decode cX12_copy 1 = .ok (.iload_n 1, 1) := by decide +kernel
theorem dX12_copy_2 : decode cX12_copy 2 = .ok (.invokevirtual 92, 3) := by decide +kernel
theorem dX12_copy_5 : decode cX12_copy 5 = .ok (.astore 5, 2) := by decide +kernel
theorem dX12_copy_7 : decode cX12_copy 7 = .ok (.aload_n 0, 1) := by decide +kernel
theorem dX12_copy_8 : decode cX12_copy 8 = .ok (.iload_n 2, 1) := by decide +kernel
theorem dX12_copy_9 : decode cX12_copy 9 = .ok (.invokevirtual 92, 3) := by decide +kernel
theorem dX12_copy_12 : decode cX12_copy 12 = .ok (.astore 6, 2) := by decide +kernel
theorem dX12_copy_14 : decode cX12_copy 14 = .ok (.aload_n 0, 1) := by decide +kernel
theorem dX12_copy_15 : decode cX12_copy 15 = .ok (.getfield 37, 3) := by decide +kernel
theorem dX12_copy_18 : decode cX12_copy 18 = .ok (.iload_n 2, 1) := by decide +kernel
theorem dX12_copy_19 : decode cX12_copy 19 = .ok (.aload 6, 2) := by decide +kernel
theorem dX12_copy_21 : decode cX12_copy 21 = .ok (.invokevirtual 104, 3) := by decide +kernel
theorem dX12_copy_24 : decode cX12_copy 24 = .ok (.astore 7, 2) := by decide +kernel
theorem dX12_copy_26 : decode cX12_copy 26 = .ok (.aload 6, 2) := by decide +kernel
theorem dX12_copy_28 : decode cX12_copy 28 = .ok (.iload_n 1, 1) := by decide +kernel
theorem dX12_copy_29 : decode cX12_copy 29 = .ok (.iload_n 2, 1) := by decide +kernel
theorem dX12_copy_30 : decode cX12_copy 30 = .ok (.if_icmp .ne 8, 3) := by decide +kernel
theorem dX12_copy_33 : decode cX12_copy 33 = .ok (.aload 7, 2) := by decide +kernel
theorem dX12_copy_35 : decode cX12_copy 35 = .ok (.goto 5, 3) := by decide +kernel
theorem dX12_copy_38 : decode cX12_copy 38 = .ok (.aload 5, 2) := by decide +kernel
theorem dX12_copy_40 : decode cX12_copy 40 = .ok (.iload_n 3, 1) := by decide +kernel
theorem dX12_copy_41 : decode cX12_copy 41 = .ok (.iload 4, 2) := by decide +kernel
theorem dX12_copy_43 : decode cX12_copy 43 = .ok (.invokevirtual 123, 3) := by decide +kernel
theorem dX12_copy_46 : decode cX12_copy 46 = .ok (.aload 6, 2) := by decide +kernel
theorem dX12_copy_48 : decode cX12_copy 48 = .ok (.aload 7, 2) := by decide +kernel
theorem dX12_copy_50 : decode cX12_copy 50 = .ok (.invokevirtual 112, 3) := by decide +kernel
theorem dX12_copy_53 : decode cX12_copy 53 = .ok (.ireturn, 1) := by decide +kernel
theorem dX12_merge_0 : decode cX12_merge 0 = .ok (.aload_n 0, 1) := by decide +kernel
theorem dX12_merge_1 : decode cX12_merge 1 = .ok (.iload_n 1, 1) := by decide +kernel
theorem dX12_merge_2 : decode cX12_merge 2 = .ok (.invokevirtual 92, 3) := by decide +kernel
theorem dX12_merge_5 : decode cX12_merge 5 = .ok (.astore_n 2, 1) := by decide +kernel
theorem dX12_merge_6 : decode cX12_merge 6 = .ok (.aload_n 0, 1) := by decide +kernel
theorem dX12_merge_7 : decode cX12_merge 7 = .ok (.getfield 37, 3) := by decide +kernel
theorem dX12_merge_10 : decode cX12_merge 10 = .ok (.iload_n 1, 1) := by decide +kernel
theorem dX12_merge_11 : decode cX12_merge 11 = .ok (.aload_n 2, 1) := by decide +kernel
theorem dX12_merge_12 : decode cX12_merge 12 = .ok (.invokevirtual 104, 3) := by decide +kernel
theorem dX12_merge_15 : decode cX12_merge 15 = .ok (.astore_n 3, 1) := by decide +kernel
theorem dX12_merge_16 : decode cX12_merge 16 = .ok (.aload_n 2, 1) := by decide +kernel
theorem dX12_merge_17 : decode cX12_merge 17 = .ok (.aload_n 0, 1) := by decide +kernel
theorem dX12_merge_18 : decode cX12_merge 18 = .ok (.getfield 27, 3) := by decide +kernel
theorem dX12_merge_21 : decode cX12_merge 21 = .ok (.iconst 1, 1) := by decide +kernel
theorem dX12_merge_22 : decode cX12_merge 22 = .ok (.aaload, 1) := by decide +kernel
theorem dX12_merge_23 : decode cX12_merge 23 = .ok (.aload_n 0, 1) := by decide +kernel
theorem dX12_merge_24 : decode cX12_merge 24 = .ok (.getfield 27, 3) := by decide +kernel
theorem dX12_merge_27 : decode cX12_merge 27 = .ok (.iconst 2, 1) := by decide +kernel
theorem dX12_merge_28 : decode cX12_merge 28 = .ok (.aaload, 1) := by decide +kernel
theorem dX12_merge_29 : decode cX12_merge 29 = .ok (.aload_n 0, 1) := by decide +kernel
theorem dX12_merge_30 : decode cX12_merge 30 = .ok (.getfield 27, 3) := by decide +kernel
theorem dX12_merge_33 : decode cX12_merge 33 = .ok (.iconst 3, 1) := by decide +kernel
theorem dX12_merge_34 : decode cX12_merge 34 = .ok (.aaload, 1) := by decide +kernel
theorem dX12_merge_35 : decode cX12_merge 35 = .ok (.invokevirtual 127, 3) := by decide +kernel
theorem dX12_merge_38 : decode cX12_merge 38 = .ok (.aload_n 2, 1) := by decide +kernel
theorem dX12_merge_39 : decode cX12_merge 39 = .ok (.aload_n 3, 1) := by decide +kernel
theorem dX12_merge_40 : decode cX12_merge 40 = .ok (.invokevirtual 112, 3) := by decide +kernel
theorem dX12_merge_43 : decode cX12_merge 43 = .ok (.ireturn, 1) := by decide +kernel
theorem dX12_flip_0 : decode cX12_flip 0 = .ok (.aload_n 0, 1) := by decide +kernel
theorem dX12_flip_1 : decode cX12_flip 1 = .ok (.iload_n 1, 1) := by decide +kernel
theorem dX12_flip_2 : decode cX12_flip 2 = .ok (.invokevirtual 92, 3) := by decide +kernel
theorem dX12_flip_5 : decode cX12_flip 5 = .ok (.astore_n 3, 1) := by decide +kernel
theorem dX12_flip_6 : decode cX12_flip 6 = .ok (.iload_n 2, 1) := by decide +kernel
theorem dX12_flip_7 : decode cX12_flip 7 = .ok (.ifCond .lt 8, 3) := by decide +kernel
theorem dX12_flip_10 : decode cX12_flip 10 = .ok (.iload_n 2, 1) := by decide +kernel
theorem dX12_flip_11 : decode cX12_flip 11 = .ok (.iconst 2, 1) := by decide +kernel
theorem dX12_flip_12 : decode cX12_flip 12 = .ok (.if_icmp .le 13, 3) := by decide +kernel
theorem dX12_flip_15 : decode cX12_flip 15 = .ok (.new 131, 3) := by decide +kernel
theorem dX12_flip_18 : decode cX12_flip 18 = .ok (.dup, 1) := by decide +kernel
theorem dX12_flip_19 : decode cX12_flip 19 = .ok (.ldc 133, 2) := by decide +kernel
theorem dX12_flip_21 : decode cX12_flip 21 = .ok (.invokespecial 135, 3) := by decide +kernel
theorem dX12_flip_24 : decode cX12_flip 24 = .ok (.athrow, 1) := by decide +kernel
theorem dX12_flip_25 : decode cX12_flip 25 = .ok (.aload_n 0, 1) := by decide +kernel
theorem dX12_flip_26 : decode cX12_flip 26 = .ok (.getfield 37, 3) := by decide +kernel
theorem dX12_flip_29 : decode cX12_flip 29 = .ok (.iload_n 1, 1) := by decide +kernel
theorem dX12_flip_30 : decode cX12_flip 30 = .ok (.aload_n 3, 1) := by decide +kernel
theorem dX12_flip_31 : decode cX12_flip 31 = .ok (.invokevirtual 104, 3) := by decide +kernel
theorem dX12_flip_34 : decode cX12_flip 34 = .ok (.astore 4, 2) := by decide +kernel
theorem dX12_flip_36 : decode cX12_flip 36 = .ok (.aload_n 3, 1) := by decide +kernel
theorem dX12_flip_37 : decode cX12_flip 37 = .ok (.aload 4, 2) := by decide +kernel
theorem dX12_flip_39 : decode cX12_flip 39 = .ok (.iload_n 2, 1) := by decide +kernel
theorem dX12_flip_40 : decode cX12_flip 40 = .ok (.iconst 1, 1) := by decide +kernel
theorem dX12_flip_41 : decode cX12_flip 41 = .ok (.if_icmp .eq 7, 3) := by decide +kernel
theorem dX12_flip_44 : decode cX12_flip 44 = .ok (.iconst 1, 1) := by decide +kernel
theorem dX12_flip_45 : decode cX12_flip 45 = .ok (.goto 4, 3) := by decide +kernel
theorem dX12_flip_48 : decode cX12_flip 48 = .ok (.iconst 0, 1) := by decide +kernel
theorem dX12_flip_49 : decode cX12_flip 49 = .ok (.iload_n 2, 1) := by decide +kernel
theorem dX12_flip_50 : decode cX12_flip 50 = .ok (.ifCond .eq 7, 3) := by decide +kernel
theorem dX12_flip_53 : decode cX12_flip 53 = .ok (.iconst 1, 1) := by decide +kernel
theorem dX12_flip_54 : decode cX12_flip 54 = .ok (.goto 4, 3) := by decide +kernel
theorem dX12_flip_57 : decode cX12_flip 57 = .ok (.iconst 0, 1) := by decide +kernel
theorem dX12_flip_58 : decode cX12_flip 58 = .ok (.invokevirtual 138, 3) := by decide +kernel
theorem dX12_flip_61 : decode cX12_flip 61 = .ok (.aload_n 3, 1) := by decide +kernel
theorem dX12_flip_62 : decode cX12_flip 62 = .ok (.aload 4, 2) := by decide +kernel
theorem dX12_flip_64 : decode cX12_flip 64 = .ok (.invokevirtual 112, 3) := by decide +kernel
theorem dX12_flip_67 : decode cX12_flip 67 = .ok (.ireturn, 1) := by decide +kernel
theorem dX12_despeckle_0 : decode cX12_despeckle 0 = .ok (.aload_n 0, 1) := by decide +kernel
theorem dX12_despeckle_1 : decode cX12_despeckle 1 = .ok (.iload_n 1, 1) := by decide +kernel
theorem dX12_despeckle_2 : decode cX12_despeckle 2 = .ok (.invokevirtual 92, 3) := by decide +kernel
theorem dX12_despeckle_5 : decode cX12_despeckle 5 = .ok (.astore_n 3, 1) := by decide +kernel
theorem dX12_despeckle_6 : decode cX12_despeckle 6 = .ok (.iload_n 2, 1) := by decide +kernel
theorem dX12_despeckle_7 : decode cX12_despeckle 7 = .ok (.ifCond .lt 9, 3) := by decide +kernel
theorem dX12_despeckle_10 : decode cX12_despeckle 10 = .ok (.iload_n 2, 1) := by decide +kernel
theorem dX12_despeckle_11 : decode cX12_despeckle 11 = .ok (.bipush 64, 2) := by decide +kernel
theorem dX12_despeckle_13 : decode cX12_despeckle 13 = .ok (.if_icmp .le 13, 3) := by decide +kernel
theorem dX12_despeckle_16 : decode cX12_despeckle 16 = .ok (.new 131, 3) := by decide +kernel
theorem dX12_despeckle_19 : decode cX12_despeckle 19 = .ok (.dup, 1) := by decide +kernel
theorem dX12_despeckle_20 : decode cX12_despeckle 20 = .ok (.ldc 142, 2) := by decide +kernel
theorem dX12_despeckle_22 : decode cX12_despeckle 22 = .ok (.invokespecial 135, 3) := by decide +kernel
theorem dX12_despeckle_25 : decode cX12_despeckle 25 = .ok (.athrow, 1) := by decide +kernel
theorem dX12_despeckle_26 : decode cX12_despeckle 26 = .ok (.aload_n 0, 1) := by decide +kernel
theorem dX12_despeckle_27 : decode cX12_despeckle 27 = .ok (.getfield 37, 3) := by decide +kernel
theorem dX12_despeckle_30 : decode cX12_despeckle 30 = .ok (.iload_n 1, 1) := by decide +kernel
theorem dX12_despeckle_31 : decode cX12_despeckle 31 = .ok (.aload_n 3, 1) := by decide +kernel
theorem dX12_despeckle_32 : decode cX12_despeckle 32 = .ok (.invokevirtual 104, 3) := by decide +kernel
theorem dX12_despeckle_35 : decode cX12_despeckle 35 = .ok (.pop, 1) := by decide +kernel
theorem dX12_despeckle_36 : decode cX12_despeckle 36 = .ok (.aload_n 0, 1) := by decide +kernel
theorem dX12_despeckle_37 : decode cX12_despeckle 37 = .ok (.getfield 44, 3) := by decide +kernel
theorem dX12_despeckle_40 : decode cX12_despeckle 40 = .ok (.aload_n 3, 1) := by decide +kernel
theorem dX12_despeckle_41 : decode cX12_despeckle 41 = .ok (.iload_n 2, 1) := by decide +kernel
theorem dX12_despeckle_42 : decode cX12_despeckle 42 = .ok (.invokevirtual 144, 3) := by decide +kernel
theorem dX12_despeckle_45 : decode cX12_despeckle 45 = .ok (.ireturn, 1) := by decide +kernel
theorem dX12_paste_0 : decode cX12_paste 0 = .ok (.aload_n 0, 1) := by decide +kernel
theorem dX12_paste_1 : decode cX12_paste 1 = .ok (.iload_n 1, 1) := by decide +kernel
theorem dX12_paste_2 : decode cX12_paste 2 = .ok (.invokevirtual 92, 3) := by decide +kernel
theorem dX12_paste_5 : decode cX12_paste 5 = .ok (.astore 4, 2) := by decide +kernel
theorem dX12_paste_7 : decode cX12_paste 7 = .ok (.aload_n 0, 1) := by decide +kernel
theorem dX12_paste_8 : decode cX12_paste 8 = .ok (.getfield 51, 3) := by decide +kernel
theorem dX12_paste_11 : decode cX12_paste 11 = .ok (.invokevirtual 148, 3) := by decide +kernel
theorem dX12_paste_14 : decode cX12_paste 14 = .ok (.istore 5, 2) := by decide +kernel
theorem dX12_paste_16 : decode cX12_paste 16 = .ok (.iload 5, 2) := by decide +kernel
theorem dX12_paste_18 : decode cX12_paste 18 = .ok (.ifCond .lt 8, 3) := by decide +kernel
theorem dX12_paste_21 : decode cX12_paste 21 = .ok (.iconst (-1), 1) := by decide +kernel
theorem dX12_paste_22 : decode cX12_paste 22 = .ok (.iload 5, 2) := by decide +kernel
theorem dX12_paste_24 : decode cX12_paste 24 = .ok (.isub, 1) := by decide +kernel
theorem dX12_paste_25 : decode cX12_paste 25 = .ok (.ireturn, 1) := by decide +kernel
theorem dX12_paste_26 : decode cX12_paste 26 = .ok (.aload_n 0, 1) := by decide +kernel
theorem dX12_paste_27 : decode cX12_paste 27 = .ok (.getfield 37, 3) := by decide +kernel
theorem dX12_paste_30 : decode cX12_paste 30 = .ok (.iload_n 1, 1) := by decide +kernel
theorem dX12_paste_31 : decode cX12_paste 31 = .ok (.aload 4, 2) := by decide +kernel
theorem dX12_paste_33 : decode cX12_paste 33 = .ok (.invokevirtual 104, 3) := by decide +kernel
theorem dX12_paste_36 : decode cX12_paste 36 = .ok (.astore 6, 2) := by decide +kernel
theorem dX12_paste_38 : decode cX12_paste 38 = .ok (.aload_n 0, 1) := by decide +kernel
theorem dX12_paste_39 : decode cX12_paste 39 = .ok (.getfield 51, 3) := by decide +kernel
theorem dX12_paste_42 : decode cX12_paste 42 = .ok (.aload 4, 2) := by decide +kernel
theorem dX12_paste_44 : decode cX12_paste 44 = .ok (.iload_n 2, 1) := by decide +kernel
theorem dX12_paste_45 : decode cX12_paste 45 = .ok (.iload_n 3, 1) := by decide +kernel
theorem dX12_paste_46 : decode cX12_paste 46 = .ok (.invokevirtual 152, 3) := by decide +kernel
theorem dX12_paste_49 : decode cX12_paste 49 = .ok (.aload_n 0, 1) := by decide +kernel
theorem dX12_paste_50 : decode cX12_paste 50 = .ok (.getfield 51, 3) := by decide +kernel
theorem dX12_paste_53 : decode cX12_paste 53 = .ok (.invokevirtual 155, 3) := by decide +kernel
theorem dX12_paste_56 : decode cX12_paste 56 = .ok (.pop, 1) := by decide +kernel
theorem dX12_paste_57 : decode cX12_paste 57 = .ok (.aload 4, 2) := by decide +kernel
theorem dX12_paste_59 : decode cX12_paste 59 = .ok (.aload 6, 2) := by decide +kernel
theorem dX12_paste_61 : decode cX12_paste 61 = .ok (.invokevirtual 112, 3) := by decide +kernel
theorem dX12_paste_64 : decode cX12_paste 64 = .ok (.ireturn, 1) := by decide +kernel
theorem dX12_components_0 : decode cX12_components 0 = .ok (.aload_n 0, 1) := by decide +kernel
theorem dX12_components_1 : decode cX12_components 1 = .ok (.getfield 44, 3) := by decide +kernel
theorem dX12_components_4 : decode cX12_components 4 = .ok (.aload_n 0, 1) := by decide +kernel
theorem dX12_components_5 : decode cX12_components 5 = .ok (.iload_n 1, 1) := by decide +kernel
theorem dX12_components_6 : decode cX12_components 6 = .ok (.invokevirtual 92, 3) := by decide +kernel
theorem dX12_components_9 : decode cX12_components 9 = .ok (.invokevirtual 158, 3) := by decide +kernel
theorem dX12_components_12 : decode cX12_components 12 = .ok (.ireturn, 1) := by decide +kernel
theorem dX12_lines_0 : decode cX12_lines 0 = .ok (.aload_n 0, 1) := by decide +kernel
theorem dX12_lines_1 : decode cX12_lines 1 = .ok (.iload_n 1, 1) := by decide +kernel
theorem dX12_lines_2 : decode cX12_lines 2 = .ok (.invokevirtual 92, 3) := by decide +kernel
theorem dX12_lines_5 : decode cX12_lines 5 = .ok (.invokevirtual 161, 3) := by decide +kernel
theorem dX12_lines_8 : decode cX12_lines 8 = .ok (.ireturn, 1) := by decide +kernel
theorem dX12_lineTop_0 : decode cX12_lineTop 0 = .ok (.aload_n 0, 1) := by decide +kernel
theorem dX12_lineTop_1 : decode cX12_lineTop 1 = .ok (.iload_n 1, 1) := by decide +kernel
theorem dX12_lineTop_2 : decode cX12_lineTop 2 = .ok (.invokevirtual 92, 3) := by decide +kernel
theorem dX12_lineTop_5 : decode cX12_lineTop 5 = .ok (.iload_n 2, 1) := by decide +kernel
theorem dX12_lineTop_6 : decode cX12_lineTop 6 = .ok (.invokestatic 164, 3) := by decide +kernel
theorem dX12_lineTop_9 : decode cX12_lineTop 9 = .ok (.ireturn, 1) := by decide +kernel
theorem dX12_topOfLine_0 : decode cX12_topOfLine 0 = .ok (.aload_n 0, 1) := by decide +kernel
theorem dX12_topOfLine_1 : decode cX12_topOfLine 1 = .ok (.iload_n 1, 1) := by decide +kernel
theorem dX12_topOfLine_2 : decode cX12_topOfLine 2 = .ok (.invokevirtual 410, 3) := by decide +kernel
theorem dX12_topOfLine_5 : decode cX12_topOfLine 5 = .ok (.istore_n 2, 1) := by decide +kernel
theorem dX12_topOfLine_6 : decode cX12_topOfLine 6 = .ok (.iload_n 2, 1) := by decide +kernel
theorem dX12_topOfLine_7 : decode cX12_topOfLine 7 = .ok (.ifCond .ge 14, 3) := by decide +kernel
theorem dX12_topOfLine_10 : decode cX12_topOfLine 10 = .ok (.new 218, 3) := by decide +kernel
theorem dX12_topOfLine_13 : decode cX12_topOfLine 13 = .ok (.dup, 1) := by decide +kernel
theorem dX12_topOfLine_14 : decode cX12_topOfLine 14 = .ok (.ldc_w 413, 3) := by decide +kernel
theorem dX12_topOfLine_17 : decode cX12_topOfLine 17 = .ok (.invokespecial 222, 3) := by decide +kernel
theorem dX12_topOfLine_20 : decode cX12_topOfLine 20 = .ok (.athrow, 1) := by decide +kernel
theorem dX12_topOfLine_21 : decode cX12_topOfLine 21 = .ok (.iload_n 2, 1) := by decide +kernel
theorem dX12_topOfLine_22 : decode cX12_topOfLine 22 = .ok (.ireturn, 1) := by decide +kernel
theorem dX12_lineBottom_0 : decode cX12_lineBottom 0 = .ok (.aload_n 0, 1) := by decide +kernel
theorem dX12_lineBottom_1 : decode cX12_lineBottom 1 = .ok (.iload_n 1, 1) := by decide +kernel
theorem dX12_lineBottom_2 : decode cX12_lineBottom 2 = .ok (.invokevirtual 92, 3) := by decide +kernel
theorem dX12_lineBottom_5 : decode cX12_lineBottom 5 = .ok (.astore_n 3, 1) := by decide +kernel
theorem dX12_lineBottom_6 : decode cX12_lineBottom 6 = .ok (.aload_n 3, 1) := by decide +kernel
theorem dX12_lineBottom_7 : decode cX12_lineBottom 7 = .ok (.aload_n 3, 1) := by decide +kernel
theorem dX12_lineBottom_8 : decode cX12_lineBottom 8 = .ok (.iload_n 2, 1) := by decide +kernel
theorem dX12_lineBottom_9 : decode cX12_lineBottom 9 = .ok (.invokestatic 164, 3) := by decide +kernel
theorem dX12_lineBottom_12 : decode cX12_lineBottom 12 = .ok (.invokevirtual 167, 3) := by decide +kernel
theorem dX12_lineBottom_15 : decode cX12_lineBottom 15 = .ok (.ireturn, 1) := by decide +kernel
theorem dX12_words_0 : decode cX12_words 0 = .ok (.aload_n 0, 1) := by decide +kernel
theorem dX12_words_1 : decode cX12_words 1 = .ok (.iload_n 1, 1) := by decide +kernel
theorem dX12_words_2 : decode cX12_words 2 = .ok (.invokevirtual 92, 3) := by decide +kernel
theorem dX12_words_5 : decode cX12_words 5 = .ok (.astore 4, 2) := by decide +kernel
theorem dX12_words_7 : decode cX12_words 7 = .ok (.aload 4, 2) := by decide +kernel
theorem dX12_words_9 : decode cX12_words 9 = .ok (.iload_n 2, 1) := by decide +kernel
theorem dX12_words_10 : decode cX12_words 10 = .ok (.invokestatic 164, 3) := by decide +kernel
theorem dX12_words_13 : decode cX12_words 13 = .ok (.istore 5, 2) := by decide +kernel
theorem dX12_words_15 : decode cX12_words 15 = .ok (.iload_n 3, 1) := by decide +kernel
theorem dX12_words_16 : decode cX12_words 16 = .ok (.iconst 1, 1) := by decide +kernel
theorem dX12_words_17 : decode cX12_words 17 = .ok (.if_icmp .lt 9, 3) := by decide +kernel
theorem dX12_words_20 : decode cX12_words 20 = .ok (.iload_n 3, 1) := by decide +kernel
theorem dX12_words_21 : decode cX12_words 21 = .ok (.bipush 64, 2) := by decide +kernel
theorem dX12_words_23 : decode cX12_words 23 = .ok (.if_icmp .le 13, 3) := by decide +kernel
theorem dX12_words_26 : decode cX12_words 26 = .ok (.new 131, 3) := by decide +kernel
theorem dX12_words_29 : decode cX12_words 29 = .ok (.dup, 1) := by decide +kernel
theorem dX12_words_30 : decode cX12_words 30 = .ok (.ldc 171, 2) := by decide +kernel
theorem dX12_words_32 : decode cX12_words 32 = .ok (.invokespecial 135, 3) := by decide +kernel
theorem dX12_words_35 : decode cX12_words 35 = .ok (.athrow, 1) := by decide +kernel
theorem dX12_words_36 : decode cX12_words 36 = .ok (.aload 4, 2) := by decide +kernel
theorem dX12_words_38 : decode cX12_words 38 = .ok (.iload 5, 2) := by decide +kernel
theorem dX12_words_40 : decode cX12_words 40 = .ok (.iload_n 3, 1) := by decide +kernel
theorem dX12_words_41 : decode cX12_words 41 = .ok (.invokevirtual 173, 3) := by decide +kernel
theorem dX12_words_44 : decode cX12_words 44 = .ok (.ireturn, 1) := by decide +kernel
theorem dX12_ink_0 : decode cX12_ink 0 = .ok (.aload_n 0, 1) := by decide +kernel
theorem dX12_ink_1 : decode cX12_ink 1 = .ok (.iload_n 1, 1) := by decide +kernel
theorem dX12_ink_2 : decode cX12_ink 2 = .ok (.invokevirtual 92, 3) := by decide +kernel
theorem dX12_ink_5 : decode cX12_ink 5 = .ok (.astore 6, 2) := by decide +kernel
theorem dX12_ink_7 : decode cX12_ink 7 = .ok (.iload 4, 2) := by decide +kernel
theorem dX12_ink_9 : decode cX12_ink 9 = .ok (.iload 5, 2) := by decide +kernel
theorem dX12_ink_11 : decode cX12_ink 11 = .ok (.invokestatic 116, 3) := by decide +kernel
theorem dX12_ink_14 : decode cX12_ink 14 = .ok (.aload 6, 2) := by decide +kernel
theorem dX12_ink_16 : decode cX12_ink 16 = .ok (.iload_n 2, 1) := by decide +kernel
theorem dX12_ink_17 : decode cX12_ink 17 = .ok (.i2l, 1) := by decide +kernel
theorem dX12_ink_18 : decode cX12_ink 18 = .ok (.iload_n 3, 1) := by decide +kernel
theorem dX12_ink_19 : decode cX12_ink 19 = .ok (.i2l, 1) := by decide +kernel
theorem dX12_ink_20 : decode cX12_ink 20 = .ok (.iload 4, 2) := by decide +kernel
theorem dX12_ink_22 : decode cX12_ink 22 = .ok (.iload 5, 2) := by decide +kernel
theorem dX12_ink_24 : decode cX12_ink 24 = .ok (.invokevirtual 176, 3) := by decide +kernel
theorem dX12_ink_27 : decode cX12_ink 27 = .ok (.ireturn, 1) := by decide +kernel
theorem dX12_fingerprint_0 : decode cX12_fingerprint 0 = .ok (.aload_n 0, 1) := by decide +kernel
theorem dX12_fingerprint_1 : decode cX12_fingerprint 1 = .ok (.iload_n 1, 1) := by decide +kernel
theorem dX12_fingerprint_2 : decode cX12_fingerprint 2 = .ok (.invokevirtual 92, 3) := by decide +kernel
theorem dX12_fingerprint_5 : decode cX12_fingerprint 5 = .ok (.astore_n 2, 1) := by decide +kernel
theorem dX12_fingerprint_6 : decode cX12_fingerprint 6 = .ok (.ldc2_w 180, 3) := by decide +kernel
theorem dX12_fingerprint_9 : decode cX12_fingerprint 9 = .ok (.lstore_n 3, 1) := by decide +kernel
theorem dX12_fingerprint_10 : decode cX12_fingerprint 10 = .ok (.ldc2_w 182, 3) := by decide +kernel
theorem dX12_fingerprint_13 : decode cX12_fingerprint 13 = .ok (.lload_n 3, 1) := by decide +kernel
theorem dX12_fingerprint_14 : decode cX12_fingerprint 14 = .ok (.lmul, 1) := by decide +kernel
theorem dX12_fingerprint_15 : decode cX12_fingerprint 15 = .ok (.aload_n 0, 1) := by decide +kernel
theorem dX12_fingerprint_16 : decode cX12_fingerprint 16 = .ok (.getfield 18, 3) := by decide +kernel
theorem dX12_fingerprint_19 : decode cX12_fingerprint 19 = .ok (.i2l, 1) := by decide +kernel
theorem dX12_fingerprint_20 : decode cX12_fingerprint 20 = .ok (.ladd, 1) := by decide +kernel
theorem dX12_fingerprint_21 : decode cX12_fingerprint 21 = .ok (.lstore_n 3, 1) := by decide +kernel
theorem dX12_fingerprint_22 : decode cX12_fingerprint 22 = .ok (.ldc2_w 182, 3) := by decide +kernel
theorem dX12_fingerprint_25 : decode cX12_fingerprint 25 = .ok (.lload_n 3, 1) := by decide +kernel
theorem dX12_fingerprint_26 : decode cX12_fingerprint 26 = .ok (.lmul, 1) := by decide +kernel
theorem dX12_fingerprint_27 : decode cX12_fingerprint 27 = .ok (.aload_n 0, 1) := by decide +kernel
theorem dX12_fingerprint_28 : decode cX12_fingerprint 28 = .ok (.getfield 22, 3) := by decide +kernel
theorem dX12_fingerprint_31 : decode cX12_fingerprint 31 = .ok (.i2l, 1) := by decide +kernel
theorem dX12_fingerprint_32 : decode cX12_fingerprint 32 = .ok (.ladd, 1) := by decide +kernel
theorem dX12_fingerprint_33 : decode cX12_fingerprint 33 = .ok (.lstore_n 3, 1) := by decide +kernel
theorem dX12_fingerprint_34 : decode cX12_fingerprint 34 = .ok (.iconst 0, 1) := by decide +kernel
theorem dX12_fingerprint_35 : decode cX12_fingerprint 35 = .ok (.istore 5, 2) := by decide +kernel
theorem dX12_fingerprint_37 : decode cX12_fingerprint 37 = .ok (.iload 5, 2) := by decide +kernel
theorem dX12_fingerprint_39 : decode cX12_fingerprint 39 = .ok (.aload_n 0, 1) := by decide +kernel
theorem dX12_fingerprint_40 : decode cX12_fingerprint 40 = .ok (.getfield 22, 3) := by decide +kernel
theorem dX12_fingerprint_43 : decode cX12_fingerprint 43 = .ok (.if_icmp .ge 22, 3) := by decide +kernel
theorem dX12_fingerprint_46 : decode cX12_fingerprint 46 = .ok (.ldc2_w 182, 3) := by decide +kernel
theorem dX12_fingerprint_49 : decode cX12_fingerprint 49 = .ok (.lload_n 3, 1) := by decide +kernel
theorem dX12_fingerprint_50 : decode cX12_fingerprint 50 = .ok (.lmul, 1) := by decide +kernel
theorem dX12_fingerprint_51 : decode cX12_fingerprint 51 = .ok (.aload_n 2, 1) := by decide +kernel
theorem dX12_fingerprint_52 : decode cX12_fingerprint 52 = .ok (.iload 5, 2) := by decide +kernel
theorem dX12_fingerprint_54 : decode cX12_fingerprint 54 = .ok (.invokevirtual 100, 3) := by decide +kernel
theorem dX12_fingerprint_57 : decode cX12_fingerprint 57 = .ok (.ladd, 1) := by decide +kernel
theorem dX12_fingerprint_58 : decode cX12_fingerprint 58 = .ok (.lstore_n 3, 1) := by decide +kernel
theorem dX12_fingerprint_59 : decode cX12_fingerprint 59 = .ok (.iinc 5 1, 3) := by decide +kernel
theorem dX12_fingerprint_62 : decode cX12_fingerprint 62 = .ok (.goto (-25), 3) := by decide +kernel
theorem dX12_fingerprint_65 : decode cX12_fingerprint 65 = .ok (.lload_n 3, 1) := by decide +kernel
theorem dX12_fingerprint_66 : decode cX12_fingerprint 66 = .ok (.lreturn, 1) := by decide +kernel
theorem dX12_undo_0 : decode cX12_undo 0 = .ok (.aload_n 0, 1) := by decide +kernel
theorem dX12_undo_1 : decode cX12_undo 1 = .ok (.getfield 37, 3) := by decide +kernel
theorem dX12_undo_4 : decode cX12_undo 4 = .ok (.invokevirtual 184, 3) := by decide +kernel
theorem dX12_undo_7 : decode cX12_undo 7 = .ok (.ifCond .eq 13, 3) := by decide +kernel
theorem dX12_undo_10 : decode cX12_undo 10 = .ok (.new 188, 3) := by decide +kernel
theorem dX12_undo_13 : decode cX12_undo 13 = .ok (.dup, 1) := by decide +kernel
theorem dX12_undo_14 : decode cX12_undo 14 = .ok (.ldc 190, 2) := by decide +kernel
theorem dX12_undo_16 : decode cX12_undo 16 = .ok (.invokespecial 192, 3) := by decide +kernel
theorem dX12_undo_19 : decode cX12_undo 19 = .ok (.athrow, 1) := by decide +kernel
theorem dX12_undo_20 : decode cX12_undo 20 = .ok (.aload_n 0, 1) := by decide +kernel
theorem dX12_undo_21 : decode cX12_undo 21 = .ok (.getfield 37, 3) := by decide +kernel
theorem dX12_undo_24 : decode cX12_undo 24 = .ok (.aload_n 0, 1) := by decide +kernel
theorem dX12_undo_25 : decode cX12_undo 25 = .ok (.getfield 27, 3) := by decide +kernel
theorem dX12_undo_28 : decode cX12_undo 28 = .ok (.invokevirtual 193, 3) := by decide +kernel
theorem dX12_undo_31 : decode cX12_undo 31 = .ok (.ireturn, 1) := by decide +kernel
theorem dX12_type_0 : decode cX12_type 0 = .ok (.iload_n 1, 1) := by decide +kernel
theorem dX12_type_1 : decode cX12_type 1 = .ok (.bipush 32, 2) := by decide +kernel
theorem dX12_type_3 : decode cX12_type 3 = .ok (.if_icmp .lt 9, 3) := by decide +kernel
theorem dX12_type_6 : decode cX12_type 6 = .ok (.iload_n 1, 1) := by decide +kernel
theorem dX12_type_7 : decode cX12_type 7 = .ok (.bipush 126, 2) := by decide +kernel
theorem dX12_type_9 : decode cX12_type 9 = .ok (.if_icmp .le 13, 3) := by decide +kernel
theorem dX12_type_12 : decode cX12_type 12 = .ok (.new 131, 3) := by decide +kernel
theorem dX12_type_15 : decode cX12_type 15 = .ok (.dup, 1) := by decide +kernel
theorem dX12_type_16 : decode cX12_type 16 = .ok (.ldc 197, 2) := by decide +kernel
theorem dX12_type_18 : decode cX12_type 18 = .ok (.invokespecial 135, 3) := by decide +kernel
theorem dX12_type_21 : decode cX12_type 21 = .ok (.athrow, 1) := by decide +kernel
theorem dX12_type_22 : decode cX12_type 22 = .ok (.aload_n 0, 1) := by decide +kernel
theorem dX12_type_23 : decode cX12_type 23 = .ok (.getfield 51, 3) := by decide +kernel
theorem dX12_type_26 : decode cX12_type 26 = .ok (.invokevirtual 199, 3) := by decide +kernel
theorem dX12_type_29 : decode cX12_type 29 = .ok (.ifCond .eq 13, 3) := by decide +kernel
theorem dX12_type_32 : decode cX12_type 32 = .ok (.new 188, 3) := by decide +kernel
theorem dX12_type_35 : decode cX12_type 35 = .ok (.dup, 1) := by decide +kernel
theorem dX12_type_36 : decode cX12_type 36 = .ok (.ldc 202, 2) := by decide +kernel
theorem dX12_type_38 : decode cX12_type 38 = .ok (.invokespecial 192, 3) := by decide +kernel
theorem dX12_type_41 : decode cX12_type 41 = .ok (.athrow, 1) := by decide +kernel
theorem dX12_type_42 : decode cX12_type 42 = .ok (.aload_n 0, 1) := by decide +kernel
theorem dX12_type_43 : decode cX12_type 43 = .ok (.getfield 51, 3) := by decide +kernel
theorem dX12_type_46 : decode cX12_type 46 = .ok (.iload_n 1, 1) := by decide +kernel
theorem dX12_type_47 : decode cX12_type 47 = .ok (.invokevirtual 204, 3) := by decide +kernel
theorem dX12_type_50 : decode cX12_type 50 = .ok (.ireturn, 1) := by decide +kernel
theorem dX12_setting_0 : decode cX12_setting 0 = .ok (.iload_n 1, 1) := by decide +kernel
theorem dX12_setting_1 : decode cX12_setting 1 = .ok (.ifCond .lt 11, 3) := by decide +kernel
theorem dX12_setting_4 : decode cX12_setting 4 = .ok (.iload_n 1, 1) := by decide +kernel
theorem dX12_setting_5 : decode cX12_setting 5 = .ok (.getstatic 214, 3) := by decide +kernel
theorem dX12_setting_8 : decode cX12_setting 8 = .ok (.arraylength, 1) := by decide +kernel
theorem dX12_setting_9 : decode cX12_setting 9 = .ok (.if_icmp .lt 13, 3) := by decide +kernel
theorem dX12_setting_12 : decode cX12_setting 12 = .ok (.new 218, 3) := by decide +kernel
theorem dX12_setting_15 : decode cX12_setting 15 = .ok (.dup, 1) := by decide +kernel
theorem dX12_setting_16 : decode cX12_setting 16 = .ok (.ldc 220, 2) := by decide +kernel
theorem dX12_setting_18 : decode cX12_setting 18 = .ok (.invokespecial 222, 3) := by decide +kernel
theorem dX12_setting_21 : decode cX12_setting 21 = .ok (.athrow, 1) := by decide +kernel
theorem dX12_setting_22 : decode cX12_setting 22 = .ok (.aload_n 0, 1) := by decide +kernel
theorem dX12_setting_23 : decode cX12_setting 23 = .ok (.getfield 58, 3) := by decide +kernel
theorem dX12_setting_26 : decode cX12_setting 26 = .ok (.getstatic 214, 3) := by decide +kernel
theorem dX12_setting_29 : decode cX12_setting 29 = .ok (.iload_n 1, 1) := by decide +kernel
theorem dX12_setting_30 : decode cX12_setting 30 = .ok (.aaload, 1) := by decide +kernel
theorem dX12_setting_31 : decode cX12_setting 31 = .ok (.invokevirtual 223, 3) := by decide +kernel
theorem dX12_setting_34 : decode cX12_setting 34 = .ok (.ireturn, 1) := by decide +kernel
theorem dX12_configChar_0 : decode cX12_configChar 0 = .ok (.iload_n 1, 1) := by decide +kernel
theorem dX12_configChar_1 : decode cX12_configChar 1 = .ok (.ifCond .ge 13, 3) := by decide +kernel
theorem dX12_configChar_4 : decode cX12_configChar 4 = .ok (.new 218, 3) := by decide +kernel
theorem dX12_configChar_7 : decode cX12_configChar 7 = .ok (.dup, 1) := by decide +kernel
theorem dX12_configChar_8 : decode cX12_configChar 8 = .ok (.ldc 227, 2) := by decide +kernel
theorem dX12_configChar_10 : decode cX12_configChar 10 = .ok (.invokespecial 222, 3) := by decide +kernel
theorem dX12_configChar_13 : decode cX12_configChar 13 = .ok (.athrow, 1) := by decide +kernel
theorem dX12_configChar_14 : decode cX12_configChar 14 = .ok (.aload_n 0, 1) := by decide +kernel
theorem dX12_configChar_15 : decode cX12_configChar 15 = .ok (.getfield 88, 3) := by decide +kernel
theorem dX12_configChar_18 : decode cX12_configChar 18 = .ok (.iload_n 1, 1) := by decide +kernel
theorem dX12_configChar_19 : decode cX12_configChar 19 = .ok (.invokevirtual 229, 3) := by decide +kernel
theorem dX12_configChar_22 : decode cX12_configChar 22 = .ok (.aload_n 0, 1) := by decide +kernel
theorem dX12_configChar_23 : decode cX12_configChar 23 = .ok (.getfield 58, 3) := by decide +kernel
theorem dX12_configChar_26 : decode cX12_configChar 26 = .ok (.aload_n 0, 1) := by decide +kernel
theorem dX12_configChar_27 : decode cX12_configChar 27 = .ok (.getfield 88, 3) := by decide +kernel
theorem dX12_configChar_30 : decode cX12_configChar 30 = .ok (.invokevirtual 232, 3) := by decide +kernel
theorem dX12_configChar_33 : decode cX12_configChar 33 = .ok (.aload_n 0, 1) := by decide +kernel
theorem dX12_configChar_34 : decode cX12_configChar 34 = .ok (.getfield 88, 3) := by decide +kernel
theorem dX12_configChar_37 : decode cX12_configChar 37 = .ok (.invokevirtual 236, 3) := by decide +kernel
theorem dX12_configChar_40 : decode cX12_configChar 40 = .ok (.ireturn, 1) := by decide +kernel
theorem dX12_addMask_0 : decode cX12_addMask 0 = .ok (.iload_n 1, 1) := by decide +kernel
theorem dX12_addMask_1 : decode cX12_addMask 1 = .ok (.iload_n 3, 1) := by decide +kernel
theorem dX12_addMask_2 : decode cX12_addMask 2 = .ok (.aload_n 0, 1) := by decide +kernel
theorem dX12_addMask_3 : decode cX12_addMask 3 = .ok (.getfield 18, 3) := by decide +kernel
theorem dX12_addMask_6 : decode cX12_addMask 6 = .ok (.invokestatic 239, 3) := by decide +kernel
theorem dX12_addMask_9 : decode cX12_addMask 9 = .ok (.ifCond .eq 16, 3) := by decide +kernel
theorem dX12_addMask_12 : decode cX12_addMask 12 = .ok (.iload_n 2, 1) := by decide +kernel
theorem dX12_addMask_13 : decode cX12_addMask 13 = .ok (.iload 4, 2) := by decide +kernel
theorem dX12_addMask_15 : decode cX12_addMask 15 = .ok (.aload_n 0, 1) := by decide +kernel
theorem dX12_addMask_16 : decode cX12_addMask 16 = .ok (.getfield 22, 3) := by decide +kernel
theorem dX12_addMask_19 : decode cX12_addMask 19 = .ok (.invokestatic 239, 3) := by decide +kernel
theorem dX12_addMask_22 : decode cX12_addMask 22 = .ok (.ifCond .ne 13, 3) := by decide +kernel
theorem dX12_addMask_25 : decode cX12_addMask 25 = .ok (.new 131, 3) := by decide +kernel
theorem dX12_addMask_28 : decode cX12_addMask 28 = .ok (.dup, 1) := by decide +kernel
theorem dX12_addMask_29 : decode cX12_addMask 29 = .ok (.ldc 243, 2) := by decide +kernel
theorem dX12_addMask_31 : decode cX12_addMask 31 = .ok (.invokespecial 135, 3) := by decide +kernel
theorem dX12_addMask_34 : decode cX12_addMask 34 = .ok (.athrow, 1) := by decide +kernel
theorem dX12_addMask_35 : decode cX12_addMask 35 = .ok (.aload_n 0, 1) := by decide +kernel
theorem dX12_addMask_36 : decode cX12_addMask 36 = .ok (.getfield 245, 3) := by decide +kernel
theorem dX12_addMask_39 : decode cX12_addMask 39 = .ok (.bipush 6, 2) := by decide +kernel
theorem dX12_addMask_41 : decode cX12_addMask 41 = .ok (.if_icmp .lt 13, 3) := by decide +kernel
theorem dX12_addMask_44 : decode cX12_addMask 44 = .ok (.new 188, 3) := by decide +kernel
theorem dX12_addMask_47 : decode cX12_addMask 47 = .ok (.dup, 1) := by decide +kernel
theorem dX12_addMask_48 : decode cX12_addMask 48 = .ok (.ldc 248, 2) := by decide +kernel
theorem dX12_addMask_50 : decode cX12_addMask 50 = .ok (.invokespecial 192, 3) := by decide +kernel
theorem dX12_addMask_53 : decode cX12_addMask 53 = .ok (.athrow, 1) := by decide +kernel
theorem dX12_addMask_54 : decode cX12_addMask 54 = .ok (.aload_n 0, 1) := by decide +kernel
theorem dX12_addMask_55 : decode cX12_addMask 55 = .ok (.getfield 64, 3) := by decide +kernel
theorem dX12_addMask_58 : decode cX12_addMask 58 = .ok (.aload_n 0, 1) := by decide +kernel
theorem dX12_addMask_59 : decode cX12_addMask 59 = .ok (.getfield 245, 3) := by decide +kernel
theorem dX12_addMask_62 : decode cX12_addMask 62 = .ok (.aaload, 1) := by decide +kernel
theorem dX12_addMask_63 : decode cX12_addMask 63 = .ok (.astore 5, 2) := by decide +kernel
theorem dX12_addMask_65 : decode cX12_addMask 65 = .ok (.aload 5, 2) := by decide +kernel
theorem dX12_addMask_67 : decode cX12_addMask 67 = .ok (.iconst 0, 1) := by decide +kernel
theorem dX12_addMask_68 : decode cX12_addMask 68 = .ok (.iload_n 1, 1) := by decide +kernel
theorem dX12_addMask_69 : decode cX12_addMask 69 = .ok (.iastore, 1) := by decide +kernel
theorem dX12_addMask_70 : decode cX12_addMask 70 = .ok (.aload 5, 2) := by decide +kernel
theorem dX12_addMask_72 : decode cX12_addMask 72 = .ok (.iconst 1, 1) := by decide +kernel
theorem dX12_addMask_73 : decode cX12_addMask 73 = .ok (.iload_n 2, 1) := by decide +kernel
theorem dX12_addMask_74 : decode cX12_addMask 74 = .ok (.iastore, 1) := by decide +kernel
theorem dX12_addMask_75 : decode cX12_addMask 75 = .ok (.aload 5, 2) := by decide +kernel
theorem dX12_addMask_77 : decode cX12_addMask 77 = .ok (.iconst 2, 1) := by decide +kernel
theorem dX12_addMask_78 : decode cX12_addMask 78 = .ok (.iload_n 3, 1) := by decide +kernel
theorem dX12_addMask_79 : decode cX12_addMask 79 = .ok (.iastore, 1) := by decide +kernel
theorem dX12_addMask_80 : decode cX12_addMask 80 = .ok (.aload 5, 2) := by decide +kernel
theorem dX12_addMask_82 : decode cX12_addMask 82 = .ok (.iconst 3, 1) := by decide +kernel
theorem dX12_addMask_83 : decode cX12_addMask 83 = .ok (.iload 4, 2) := by decide +kernel
theorem dX12_addMask_85 : decode cX12_addMask 85 = .ok (.iastore, 1) := by decide +kernel
theorem dX12_addMask_86 : decode cX12_addMask 86 = .ok (.aload_n 0, 1) := by decide +kernel
theorem dX12_addMask_87 : decode cX12_addMask 87 = .ok (.dup, 1) := by decide +kernel
theorem dX12_addMask_88 : decode cX12_addMask 88 = .ok (.getfield 245, 3) := by decide +kernel
theorem dX12_addMask_91 : decode cX12_addMask 91 = .ok (.iconst 1, 1) := by decide +kernel
theorem dX12_addMask_92 : decode cX12_addMask 92 = .ok (.iadd, 1) := by decide +kernel
theorem dX12_addMask_93 : decode cX12_addMask 93 = .ok (.putfield 245, 3) := by decide +kernel
theorem dX12_addMask_96 : decode cX12_addMask 96 = .ok (.aload_n 0, 1) := by decide +kernel
theorem dX12_addMask_97 : decode cX12_addMask 97 = .ok (.getfield 245, 3) := by decide +kernel
theorem dX12_addMask_100 : decode cX12_addMask 100 = .ok (.ireturn, 1) := by decide +kernel
theorem dX12_isWithin_0 : decode cX12_isWithin 0 = .ok (.iload_n 0, 1) := by decide +kernel
theorem dX12_isWithin_1 : decode cX12_isWithin 1 = .ok (.ifCond .lt 24, 3) := by decide +kernel
theorem dX12_isWithin_4 : decode cX12_isWithin 4 = .ok (.iload_n 0, 1) := by decide +kernel
theorem dX12_isWithin_5 : decode cX12_isWithin 5 = .ok (.iload_n 2, 1) := by decide +kernel
theorem dX12_isWithin_6 : decode cX12_isWithin 6 = .ok (.if_icmp .ge 19, 3) := by decide +kernel
theorem dX12_isWithin_9 : decode cX12_isWithin 9 = .ok (.iload_n 1, 1) := by decide +kernel
theorem dX12_isWithin_10 : decode cX12_isWithin 10 = .ok (.iconst 1, 1) := by decide +kernel
theorem dX12_isWithin_11 : decode cX12_isWithin 11 = .ok (.if_icmp .lt 14, 3) := by decide +kernel
theorem dX12_isWithin_14 : decode cX12_isWithin 14 = .ok (.iload_n 1, 1) := by decide +kernel
theorem dX12_isWithin_15 : decode cX12_isWithin 15 = .ok (.iload_n 2, 1) := by decide +kernel
theorem dX12_isWithin_16 : decode cX12_isWithin 16 = .ok (.iload_n 0, 1) := by decide +kernel
theorem dX12_isWithin_17 : decode cX12_isWithin 17 = .ok (.isub, 1) := by decide +kernel
theorem dX12_isWithin_18 : decode cX12_isWithin 18 = .ok (.if_icmp .gt 7, 3) := by decide +kernel
theorem dX12_isWithin_21 : decode cX12_isWithin 21 = .ok (.iconst 1, 1) := by decide +kernel
theorem dX12_isWithin_22 : decode cX12_isWithin 22 = .ok (.goto 4, 3) := by decide +kernel
theorem dX12_isWithin_25 : decode cX12_isWithin 25 = .ok (.iconst 0, 1) := by decide +kernel
theorem dX12_isWithin_26 : decode cX12_isWithin 26 = .ok (.ireturn, 1) := by decide +kernel
theorem dX12_removeMask_0 : decode cX12_removeMask 0 = .ok (.iload_n 1, 1) := by decide +kernel
theorem dX12_removeMask_1 : decode cX12_removeMask 1 = .ok (.ifCond .lt 11, 3) := by decide +kernel
theorem dX12_removeMask_4 : decode cX12_removeMask 4 = .ok (.iload_n 1, 1) := by decide +kernel
theorem dX12_removeMask_5 : decode cX12_removeMask 5 = .ok (.aload_n 0, 1) := by decide +kernel
theorem dX12_removeMask_6 : decode cX12_removeMask 6 = .ok (.getfield 245, 3) := by decide +kernel
theorem dX12_removeMask_9 : decode cX12_removeMask 9 = .ok (.if_icmp .lt 13, 3) := by decide +kernel
theorem dX12_removeMask_12 : decode cX12_removeMask 12 = .ok (.new 218, 3) := by decide +kernel
theorem dX12_removeMask_15 : decode cX12_removeMask 15 = .ok (.dup, 1) := by decide +kernel
theorem dX12_removeMask_16 : decode cX12_removeMask 16 = .ok (.ldc 250, 2) := by decide +kernel
theorem dX12_removeMask_18 : decode cX12_removeMask 18 = .ok (.invokespecial 222, 3) := by decide +kernel
theorem dX12_removeMask_21 : decode cX12_removeMask 21 = .ok (.athrow, 1) := by decide +kernel
theorem dX12_removeMask_22 : decode cX12_removeMask 22 = .ok (.iload_n 1, 1) := by decide +kernel
theorem dX12_removeMask_23 : decode cX12_removeMask 23 = .ok (.istore_n 2, 1) := by decide +kernel
theorem dX12_removeMask_24 : decode cX12_removeMask 24 = .ok (.iload_n 2, 1) := by decide +kernel
theorem dX12_removeMask_25 : decode cX12_removeMask 25 = .ok (.iconst 1, 1) := by decide +kernel
theorem dX12_removeMask_26 : decode cX12_removeMask 26 = .ok (.iadd, 1) := by decide +kernel
theorem dX12_removeMask_27 : decode cX12_removeMask 27 = .ok (.aload_n 0, 1) := by decide +kernel
theorem dX12_removeMask_28 : decode cX12_removeMask 28 = .ok (.getfield 245, 3) := by decide +kernel
theorem dX12_removeMask_31 : decode cX12_removeMask 31 = .ok (.if_icmp .ge 29, 3) := by decide +kernel
theorem dX12_removeMask_34 : decode cX12_removeMask 34 = .ok (.aload_n 0, 1) := by decide +kernel
theorem dX12_removeMask_35 : decode cX12_removeMask 35 = .ok (.getfield 64, 3) := by decide +kernel
theorem dX12_removeMask_38 : decode cX12_removeMask 38 = .ok (.iload_n 2, 1) := by decide +kernel
theorem dX12_removeMask_39 : decode cX12_removeMask 39 = .ok (.iconst 1, 1) := by decide +kernel
theorem dX12_removeMask_40 : decode cX12_removeMask 40 = .ok (.iadd, 1) := by decide +kernel
theorem dX12_removeMask_41 : decode cX12_removeMask 41 = .ok (.aaload, 1) := by decide +kernel
theorem dX12_removeMask_42 : decode cX12_removeMask 42 = .ok (.iconst 0, 1) := by decide +kernel
theorem dX12_removeMask_43 : decode cX12_removeMask 43 = .ok (.aload_n 0, 1) := by decide +kernel
theorem dX12_removeMask_44 : decode cX12_removeMask 44 = .ok (.getfield 64, 3) := by decide +kernel
theorem dX12_removeMask_47 : decode cX12_removeMask 47 = .ok (.iload_n 2, 1) := by decide +kernel
theorem dX12_removeMask_48 : decode cX12_removeMask 48 = .ok (.aaload, 1) := by decide +kernel
theorem dX12_removeMask_49 : decode cX12_removeMask 49 = .ok (.iconst 0, 1) := by decide +kernel
theorem dX12_removeMask_50 : decode cX12_removeMask 50 = .ok (.iconst 4, 1) := by decide +kernel
theorem dX12_removeMask_51 : decode cX12_removeMask 51 = .ok (.invokestatic 252, 3) := by decide +kernel
theorem dX12_removeMask_54 : decode cX12_removeMask 54 = .ok (.iinc 2 1, 3) := by decide +kernel
theorem dX12_removeMask_57 : decode cX12_removeMask 57 = .ok (.goto (-33), 3) := by decide +kernel
theorem dX12_removeMask_60 : decode cX12_removeMask 60 = .ok (.aload_n 0, 1) := by decide +kernel
theorem dX12_removeMask_61 : decode cX12_removeMask 61 = .ok (.dup, 1) := by decide +kernel
theorem dX12_removeMask_62 : decode cX12_removeMask 62 = .ok (.getfield 245, 3) := by decide +kernel
theorem dX12_removeMask_65 : decode cX12_removeMask 65 = .ok (.iconst 1, 1) := by decide +kernel
theorem dX12_removeMask_66 : decode cX12_removeMask 66 = .ok (.isub, 1) := by decide +kernel
theorem dX12_removeMask_67 : decode cX12_removeMask 67 = .ok (.putfield 245, 3) := by decide +kernel
theorem dX12_removeMask_70 : decode cX12_removeMask 70 = .ok (.aload_n 0, 1) := by decide +kernel
theorem dX12_removeMask_71 : decode cX12_removeMask 71 = .ok (.getfield 245, 3) := by decide +kernel
theorem dX12_removeMask_74 : decode cX12_removeMask 74 = .ok (.ireturn, 1) := by decide +kernel
theorem dX12_shiftX_0 : decode cX12_shiftX 0 = .ok (.aload_n 0, 1) := by decide +kernel
theorem dX12_shiftX_1 : decode cX12_shiftX 1 = .ok (.invokevirtual 273, 3) := by decide +kernel
theorem dX12_shiftX_4 : decode cX12_shiftX 4 = .ok (.getfield 277, 3) := by decide +kernel
theorem dX12_shiftX_7 : decode cX12_shiftX 7 = .ok (.ireturn, 1) := by decide +kernel
theorem dX12_registration_0 : decode cX12_registration 0 = .ok (.aload_n 0, 1) := by decide +kernel
theorem dX12_registration_1 : decode cX12_registration 1 = .ok (.invokevirtual 303, 3) := by decide +kernel
theorem dX12_registration_4 : decode cX12_registration 4 = .ok (.aload_n 0, 1) := by decide +kernel
theorem dX12_registration_5 : decode cX12_registration 5 = .ok (.getfield 81, 3) := by decide +kernel
theorem dX12_registration_8 : decode cX12_registration 8 = .ok (.getfield 415, 3) := by decide +kernel
theorem dX12_registration_11 : decode cX12_registration 11 = .ok (.areturn, 1) := by decide +kernel
theorem dX12_requireComparison_0 : decode cX12_requireComparison 0 = .ok (.aload_n 0, 1) := by decide +kernel
theorem dX12_requireComparison_1 : decode cX12_requireComparison 1 = .ok (.getfield 266, 3) := by decide +kernel
theorem dX12_requireComparison_4 : decode cX12_requireComparison 4 = .ok (.ifCond .ne 14, 3) := by decide +kernel
theorem dX12_requireComparison_7 : decode cX12_requireComparison 7 = .ok (.new 188, 3) := by decide +kernel
theorem dX12_requireComparison_10 : decode cX12_requireComparison 10 = .ok (.dup, 1) := by decide +kernel
theorem dX12_requireComparison_11 : decode cX12_requireComparison 11 = .ok (.ldc_w 376, 3) := by decide +kernel
theorem dX12_requireComparison_14 : decode cX12_requireComparison 14 = .ok (.invokespecial 192, 3) := by decide +kernel
theorem dX12_requireComparison_17 : decode cX12_requireComparison 17 = .ok (.athrow, 1) := by decide +kernel
theorem dX12_requireComparison_18 : decode cX12_requireComparison 18 = .ok (.return_, 1) := by decide +kernel
theorem dX12_shiftY_0 : decode cX12_shiftY 0 = .ok (.aload_n 0, 1) := by decide +kernel
theorem dX12_shiftY_1 : decode cX12_shiftY 1 = .ok (.invokevirtual 273, 3) := by decide +kernel
theorem dX12_shiftY_4 : decode cX12_shiftY 4 = .ok (.getfield 282, 3) := by decide +kernel
theorem dX12_shiftY_7 : decode cX12_shiftY 7 = .ok (.ireturn, 1) := by decide +kernel
theorem dX12_skew_0 : decode cX12_skew 0 = .ok (.aload_n 0, 1) := by decide +kernel
theorem dX12_skew_1 : decode cX12_skew 1 = .ok (.invokevirtual 273, 3) := by decide +kernel
theorem dX12_skew_4 : decode cX12_skew 4 = .ok (.getfield 285, 3) := by decide +kernel
theorem dX12_skew_7 : decode cX12_skew 7 = .ok (.ireturn, 1) := by decide +kernel
theorem dX12_turned_0 : decode cX12_turned 0 = .ok (.aload_n 0, 1) := by decide +kernel
theorem dX12_turned_1 : decode cX12_turned 1 = .ok (.invokevirtual 273, 3) := by decide +kernel
theorem dX12_turned_4 : decode cX12_turned 4 = .ok (.getfield 288, 3) := by decide +kernel
theorem dX12_turned_7 : decode cX12_turned 7 = .ok (.ireturn, 1) := by decide +kernel
theorem dX12_mismatch_0 : decode cX12_mismatch 0 = .ok (.aload_n 0, 1) := by decide +kernel
theorem dX12_mismatch_1 : decode cX12_mismatch 1 = .ok (.invokevirtual 273, 3) := by decide +kernel
theorem dX12_mismatch_4 : decode cX12_mismatch 4 = .ok (.getfield 291, 3) := by decide +kernel
theorem dX12_mismatch_7 : decode cX12_mismatch 7 = .ok (.ireturn, 1) := by decide +kernel
theorem dX12_similarity_0 : decode cX12_similarity 0 = .ok (.aload_n 0, 1) := by decide +kernel
theorem dX12_similarity_1 : decode cX12_similarity 1 = .ok (.getfield 18, 3) := by decide +kernel
theorem dX12_similarity_4 : decode cX12_similarity 4 = .ok (.aload_n 0, 1) := by decide +kernel
theorem dX12_similarity_5 : decode cX12_similarity 5 = .ok (.getfield 22, 3) := by decide +kernel
theorem dX12_similarity_8 : decode cX12_similarity 8 = .ok (.imul, 1) := by decide +kernel
theorem dX12_similarity_9 : decode cX12_similarity 9 = .ok (.istore_n 1, 1) := by decide +kernel
theorem dX12_similarity_10 : decode cX12_similarity 10 = .ok (.iload_n 1, 1) := by decide +kernel
theorem dX12_similarity_11 : decode cX12_similarity 11 = .ok (.aload_n 0, 1) := by decide +kernel
theorem dX12_similarity_12 : decode cX12_similarity 12 = .ok (.invokevirtual 273, 3) := by decide +kernel
theorem dX12_similarity_15 : decode cX12_similarity 15 = .ok (.getfield 291, 3) := by decide +kernel
theorem dX12_similarity_18 : decode cX12_similarity 18 = .ok (.isub, 1) := by decide +kernel
theorem dX12_similarity_19 : decode cX12_similarity 19 = .ok (.istore_n 2, 1) := by decide +kernel
theorem dX12_similarity_20 : decode cX12_similarity 20 = .ok (.iload_n 1, 1) := by decide +kernel
theorem dX12_similarity_21 : decode cX12_similarity 21 = .ok (.iconst 1, 1) := by decide +kernel
theorem dX12_similarity_22 : decode cX12_similarity 22 = .ok (.if_icmp .ge 7, 3) := by decide +kernel
theorem dX12_similarity_25 : decode cX12_similarity 25 = .ok (.iconst 0, 1) := by decide +kernel
theorem dX12_similarity_26 : decode cX12_similarity 26 = .ok (.goto 10, 3) := by decide +kernel
theorem dX12_similarity_29 : decode cX12_similarity 29 = .ok (.iload_n 2, 1) := by decide +kernel
theorem dX12_similarity_30 : decode cX12_similarity 30 = .ok (.sipush 1000, 3) := by decide +kernel
theorem dX12_similarity_33 : decode cX12_similarity 33 = .ok (.imul, 1) := by decide +kernel
theorem dX12_similarity_34 : decode cX12_similarity 34 = .ok (.iload_n 1, 1) := by decide +kernel
theorem dX12_similarity_35 : decode cX12_similarity 35 = .ok (.idiv, 1) := by decide +kernel
theorem dX12_similarity_36 : decode cX12_similarity 36 = .ok (.ireturn, 1) := by decide +kernel
theorem dX12_mismatchAt_0 : decode cX12_mismatchAt 0 = .ok (.aload_n 0, 1) := by decide +kernel
theorem dX12_mismatchAt_1 : decode cX12_mismatchAt 1 = .ok (.invokevirtual 273, 3) := by decide +kernel
theorem dX12_mismatchAt_4 : decode cX12_mismatchAt 4 = .ok (.astore_n 3, 1) := by decide +kernel
theorem dX12_mismatchAt_5 : decode cX12_mismatchAt 5 = .ok (.iload_n 1, 1) := by decide +kernel
theorem dX12_mismatchAt_6 : decode cX12_mismatchAt 6 = .ok (.iload_n 2, 1) := by decide +kernel
theorem dX12_mismatchAt_7 : decode cX12_mismatchAt 7 = .ok (.invokestatic 15, 3) := by decide +kernel
theorem dX12_mismatchAt_10 : decode cX12_mismatchAt 10 = .ok (.bipush 16, 2) := by decide +kernel
theorem dX12_mismatchAt_12 : decode cX12_mismatchAt 12 = .ok (.if_icmp .gt 13, 3) := by decide +kernel
theorem dX12_mismatchAt_15 : decode cX12_mismatchAt 15 = .ok (.iload_n 1, 1) := by decide +kernel
theorem dX12_mismatchAt_16 : decode cX12_mismatchAt 16 = .ok (.iload_n 2, 1) := by decide +kernel
theorem dX12_mismatchAt_17 : decode cX12_mismatchAt 17 = .ok (.invokestatic 9, 3) := by decide +kernel
theorem dX12_mismatchAt_20 : decode cX12_mismatchAt 20 = .ok (.bipush (-16), 2) := by decide +kernel
theorem dX12_mismatchAt_22 : decode cX12_mismatchAt 22 = .ok (.if_icmp .ge 14, 3) := by decide +kernel
theorem dX12_mismatchAt_25 : decode cX12_mismatchAt 25 = .ok (.new 131, 3) := by decide +kernel
theorem dX12_mismatchAt_28 : decode cX12_mismatchAt 28 = .ok (.dup, 1) := by decide +kernel
theorem dX12_mismatchAt_29 : decode cX12_mismatchAt 29 = .ok (.ldc_w 294, 3) := by decide +kernel
theorem dX12_mismatchAt_32 : decode cX12_mismatchAt 32 = .ok (.invokespecial 135, 3) := by decide +kernel
theorem dX12_mismatchAt_35 : decode cX12_mismatchAt 35 = .ok (.athrow, 1) := by decide +kernel
theorem dX12_mismatchAt_36 : decode cX12_mismatchAt 36 = .ok (.aload_n 3, 1) := by decide +kernel
theorem dX12_mismatchAt_37 : decode cX12_mismatchAt 37 = .ok (.aload_n 0, 1) := by decide +kernel
theorem dX12_mismatchAt_38 : decode cX12_mismatchAt 38 = .ok (.getfield 81, 3) := by decide +kernel
theorem dX12_mismatchAt_41 : decode cX12_mismatchAt 41 = .ok (.getfield 296, 3) := by decide +kernel
theorem dX12_mismatchAt_44 : decode cX12_mismatchAt 44 = .ok (.iload_n 1, 1) := by decide +kernel
theorem dX12_mismatchAt_45 : decode cX12_mismatchAt 45 = .ok (.iload_n 2, 1) := by decide +kernel
theorem dX12_mismatchAt_46 : decode cX12_mismatchAt 46 = .ok (.invokevirtual 299, 3) := by decide +kernel
theorem dX12_mismatchAt_49 : decode cX12_mismatchAt 49 = .ok (.ireturn, 1) := by decide +kernel
theorem dX12_blockDifference_0 : decode cX12_blockDifference 0 = .ok (.aload_n 0, 1) := by decide +kernel
theorem dX12_blockDifference_1 : decode cX12_blockDifference 1 = .ok (.invokevirtual 303, 3) := by decide +kernel
theorem dX12_blockDifference_4 : decode cX12_blockDifference 4 = .ok (.iload_n 1, 1) := by decide +kernel
theorem dX12_blockDifference_5 : decode cX12_blockDifference 5 = .ok (.ifCond .lt 29, 3) := by decide +kernel
theorem dX12_blockDifference_8 : decode cX12_blockDifference 8 = .ok (.iload_n 1, 1) := by decide +kernel
theorem dX12_blockDifference_9 : decode cX12_blockDifference 9 = .ok (.aload_n 0, 1) := by decide +kernel
theorem dX12_blockDifference_10 : decode cX12_blockDifference 10 = .ok (.getfield 81, 3) := by decide +kernel
theorem dX12_blockDifference_13 : decode cX12_blockDifference 13 = .ok (.getfield 306, 3) := by decide +kernel
theorem dX12_blockDifference_16 : decode cX12_blockDifference 16 = .ok (.if_icmp .ge 18, 3) := by decide +kernel
theorem dX12_blockDifference_19 : decode cX12_blockDifference 19 = .ok (.iload_n 2, 1) := by decide +kernel
theorem dX12_blockDifference_20 : decode cX12_blockDifference 20 = .ok (.ifCond .lt 14, 3) := by decide +kernel
theorem dX12_blockDifference_23 : decode cX12_blockDifference 23 = .ok (.iload_n 2, 1) := by decide +kernel
theorem dX12_blockDifference_24 : decode cX12_blockDifference 24 = .ok (.aload_n 0, 1) := by decide +kernel
theorem dX12_blockDifference_25 : decode cX12_blockDifference 25 = .ok (.getfield 81, 3) := by decide +kernel
theorem dX12_blockDifference_28 : decode cX12_blockDifference 28 = .ok (.getfield 309, 3) := by decide +kernel
theorem dX12_blockDifference_31 : decode cX12_blockDifference 31 = .ok (.if_icmp .lt 14, 3) := by decide +kernel
theorem dX12_blockDifference_34 : decode cX12_blockDifference 34 = .ok (.new 218, 3) := by decide +kernel
theorem dX12_blockDifference_37 : decode cX12_blockDifference 37 = .ok (.dup, 1) := by decide +kernel
theorem dX12_blockDifference_38 : decode cX12_blockDifference 38 = .ok (.ldc_w 312, 3) := by decide +kernel
theorem dX12_blockDifference_41 : decode cX12_blockDifference 41 = .ok (.invokespecial 222, 3) := by decide +kernel
theorem dX12_blockDifference_44 : decode cX12_blockDifference 44 = .ok (.athrow, 1) := by decide +kernel
theorem dX12_blockDifference_45 : decode cX12_blockDifference 45 = .ok (.aload_n 0, 1) := by decide +kernel
theorem dX12_blockDifference_46 : decode cX12_blockDifference 46 = .ok (.getfield 81, 3) := by decide +kernel
theorem dX12_blockDifference_49 : decode cX12_blockDifference 49 = .ok (.iload_n 1, 1) := by decide +kernel
theorem dX12_blockDifference_50 : decode cX12_blockDifference 50 = .ok (.iload_n 2, 1) := by decide +kernel
theorem dX12_blockDifference_51 : decode cX12_blockDifference 51 = .ok (.invokevirtual 314, 3) := by decide +kernel
theorem dX12_blockDifference_54 : decode cX12_blockDifference 54 = .ok (.ireturn, 1) := by decide +kernel
theorem dX12_regions_0 : decode cX12_regions 0 = .ok (.aload_n 0, 1) := by decide +kernel
theorem dX12_regions_1 : decode cX12_regions 1 = .ok (.invokevirtual 303, 3) := by decide +kernel
theorem dX12_regions_4 : decode cX12_regions 4 = .ok (.aload_n 0, 1) := by decide +kernel
theorem dX12_regions_5 : decode cX12_regions 5 = .ok (.getfield 81, 3) := by decide +kernel
theorem dX12_regions_8 : decode cX12_regions 8 = .ok (.getfield 317, 3) := by decide +kernel
theorem dX12_regions_11 : decode cX12_regions 11 = .ok (.ireturn, 1) := by decide +kernel
theorem dX12_regionAt_0 : decode cX12_regionAt 0 = .ok (.aload_n 0, 1) := by decide +kernel
theorem dX12_regionAt_1 : decode cX12_regionAt 1 = .ok (.invokevirtual 303, 3) := by decide +kernel
theorem dX12_regionAt_4 : decode cX12_regionAt 4 = .ok (.iload_n 1, 1) := by decide +kernel
theorem dX12_regionAt_5 : decode cX12_regionAt 5 = .ok (.ifCond .lt 23, 3) := by decide +kernel
theorem dX12_regionAt_8 : decode cX12_regionAt 8 = .ok (.iload_n 1, 1) := by decide +kernel
theorem dX12_regionAt_9 : decode cX12_regionAt 9 = .ok (.aload_n 0, 1) := by decide +kernel
theorem dX12_regionAt_10 : decode cX12_regionAt 10 = .ok (.getfield 18, 3) := by decide +kernel
theorem dX12_regionAt_13 : decode cX12_regionAt 13 = .ok (.if_icmp .ge 15, 3) := by decide +kernel
theorem dX12_regionAt_16 : decode cX12_regionAt 16 = .ok (.iload_n 2, 1) := by decide +kernel
theorem dX12_regionAt_17 : decode cX12_regionAt 17 = .ok (.ifCond .lt 11, 3) := by decide +kernel
theorem dX12_regionAt_20 : decode cX12_regionAt 20 = .ok (.iload_n 2, 1) := by decide +kernel
theorem dX12_regionAt_21 : decode cX12_regionAt 21 = .ok (.aload_n 0, 1) := by decide +kernel
theorem dX12_regionAt_22 : decode cX12_regionAt 22 = .ok (.getfield 22, 3) := by decide +kernel
theorem dX12_regionAt_25 : decode cX12_regionAt 25 = .ok (.if_icmp .lt 14, 3) := by decide +kernel
theorem dX12_regionAt_28 : decode cX12_regionAt 28 = .ok (.new 218, 3) := by decide +kernel
theorem dX12_regionAt_31 : decode cX12_regionAt 31 = .ok (.dup, 1) := by decide +kernel
theorem dX12_regionAt_32 : decode cX12_regionAt 32 = .ok (.ldc_w 320, 3) := by decide +kernel
theorem dX12_regionAt_35 : decode cX12_regionAt 35 = .ok (.invokespecial 222, 3) := by decide +kernel
theorem dX12_regionAt_38 : decode cX12_regionAt 38 = .ok (.athrow, 1) := by decide +kernel
theorem dX12_regionAt_39 : decode cX12_regionAt 39 = .ok (.aload_n 0, 1) := by decide +kernel
theorem dX12_regionAt_40 : decode cX12_regionAt 40 = .ok (.getfield 81, 3) := by decide +kernel
theorem dX12_regionAt_43 : decode cX12_regionAt 43 = .ok (.iload_n 1, 1) := by decide +kernel
theorem dX12_regionAt_44 : decode cX12_regionAt 44 = .ok (.iload_n 2, 1) := by decide +kernel
theorem dX12_regionAt_45 : decode cX12_regionAt 45 = .ok (.invokevirtual 322, 3) := by decide +kernel
theorem dX12_regionAt_48 : decode cX12_regionAt 48 = .ok (.ireturn, 1) := by decide +kernel
theorem dX12_regionLeft_0 : decode cX12_regionLeft 0 = .ok (.aload_n 0, 1) := by decide +kernel
theorem dX12_regionLeft_1 : decode cX12_regionLeft 1 = .ok (.iload_n 1, 1) := by decide +kernel
theorem dX12_regionLeft_2 : decode cX12_regionLeft 2 = .ok (.invokevirtual 325, 3) := by decide +kernel
theorem dX12_regionLeft_5 : decode cX12_regionLeft 5 = .ok (.getfield 329, 3) := by decide +kernel
theorem dX12_regionLeft_8 : decode cX12_regionLeft 8 = .ok (.ireturn, 1) := by decide +kernel
theorem dX12_regionOf_0 : decode cX12_regionOf 0 = .ok (.aload_n 0, 1) := by decide +kernel
theorem dX12_regionOf_1 : decode cX12_regionOf 1 = .ok (.invokevirtual 303, 3) := by decide +kernel
theorem dX12_regionOf_4 : decode cX12_regionOf 4 = .ok (.aload_n 0, 1) := by decide +kernel
theorem dX12_regionOf_5 : decode cX12_regionOf 5 = .ok (.getfield 81, 3) := by decide +kernel
theorem dX12_regionOf_8 : decode cX12_regionOf 8 = .ok (.iload_n 1, 1) := by decide +kernel
theorem dX12_regionOf_9 : decode cX12_regionOf 9 = .ok (.invokevirtual 418, 3) := by decide +kernel
theorem dX12_regionOf_12 : decode cX12_regionOf 12 = .ok (.astore_n 2, 1) := by decide +kernel
theorem dX12_regionOf_13 : decode cX12_regionOf 13 = .ok (.aload_n 2, 1) := by decide +kernel
theorem dX12_regionOf_14 : decode cX12_regionOf 14 = .ok (.ifnonnull 14, 3) := by decide +kernel
theorem dX12_regionOf_17 : decode cX12_regionOf 17 = .ok (.new 218, 3) := by decide +kernel
theorem dX12_regionOf_20 : decode cX12_regionOf 20 = .ok (.dup, 1) := by decide +kernel
theorem dX12_regionOf_21 : decode cX12_regionOf 21 = .ok (.ldc_w 421, 3) := by decide +kernel
theorem dX12_regionOf_24 : decode cX12_regionOf 24 = .ok (.invokespecial 222, 3) := by decide +kernel
theorem dX12_regionOf_27 : decode cX12_regionOf 27 = .ok (.athrow, 1) := by decide +kernel
theorem dX12_regionOf_28 : decode cX12_regionOf 28 = .ok (.aload_n 2, 1) := by decide +kernel
theorem dX12_regionOf_29 : decode cX12_regionOf 29 = .ok (.areturn, 1) := by decide +kernel
theorem dX12_regionTop_0 : decode cX12_regionTop 0 = .ok (.aload_n 0, 1) := by decide +kernel
theorem dX12_regionTop_1 : decode cX12_regionTop 1 = .ok (.iload_n 1, 1) := by decide +kernel
theorem dX12_regionTop_2 : decode cX12_regionTop 2 = .ok (.invokevirtual 325, 3) := by decide +kernel
theorem dX12_regionTop_5 : decode cX12_regionTop 5 = .ok (.getfield 334, 3) := by decide +kernel
theorem dX12_regionTop_8 : decode cX12_regionTop 8 = .ok (.ireturn, 1) := by decide +kernel
theorem dX12_regionRight_0 : decode cX12_regionRight 0 = .ok (.aload_n 0, 1) := by decide +kernel
theorem dX12_regionRight_1 : decode cX12_regionRight 1 = .ok (.iload_n 1, 1) := by decide +kernel
theorem dX12_regionRight_2 : decode cX12_regionRight 2 = .ok (.invokevirtual 325, 3) := by decide +kernel
theorem dX12_regionRight_5 : decode cX12_regionRight 5 = .ok (.getfield 337, 3) := by decide +kernel
theorem dX12_regionRight_8 : decode cX12_regionRight 8 = .ok (.ireturn, 1) := by decide +kernel
theorem dX12_regionBottom_0 : decode cX12_regionBottom 0 = .ok (.aload_n 0, 1) := by decide +kernel
theorem dX12_regionBottom_1 : decode cX12_regionBottom 1 = .ok (.iload_n 1, 1) := by decide +kernel
theorem dX12_regionBottom_2 : decode cX12_regionBottom 2 = .ok (.invokevirtual 325, 3) := by decide +kernel
theorem dX12_regionBottom_5 : decode cX12_regionBottom 5 = .ok (.getfield 340, 3) := by decide +kernel
theorem dX12_regionBottom_8 : decode cX12_regionBottom 8 = .ok (.ireturn, 1) := by decide +kernel
theorem dX12_missingPixels_0 : decode cX12_missingPixels 0 = .ok (.aload_n 0, 1) := by decide +kernel
theorem dX12_missingPixels_1 : decode cX12_missingPixels 1 = .ok (.iload_n 1, 1) := by decide +kernel
theorem dX12_missingPixels_2 : decode cX12_missingPixels 2 = .ok (.invokevirtual 325, 3) := by decide +kernel
theorem dX12_missingPixels_5 : decode cX12_missingPixels 5 = .ok (.getfield 343, 3) := by decide +kernel
theorem dX12_missingPixels_8 : decode cX12_missingPixels 8 = .ok (.getfield 347, 3) := by decide +kernel
theorem dX12_missingPixels_11 : decode cX12_missingPixels 11 = .ok (.ireturn, 1) := by decide +kernel
theorem dX12_addedPixels_0 : decode cX12_addedPixels 0 = .ok (.aload_n 0, 1) := by decide +kernel
theorem dX12_addedPixels_1 : decode cX12_addedPixels 1 = .ok (.iload_n 1, 1) := by decide +kernel
theorem dX12_addedPixels_2 : decode cX12_addedPixels 2 = .ok (.invokevirtual 325, 3) := by decide +kernel
theorem dX12_addedPixels_5 : decode cX12_addedPixels 5 = .ok (.getfield 352, 3) := by decide +kernel
theorem dX12_addedPixels_8 : decode cX12_addedPixels 8 = .ok (.getfield 347, 3) := by decide +kernel
theorem dX12_addedPixels_11 : decode cX12_addedPixels 11 = .ok (.ireturn, 1) := by decide +kernel
theorem dX12_changes_0 : decode cX12_changes 0 = .ok (.aload_n 0, 1) := by decide +kernel
theorem dX12_changes_1 : decode cX12_changes 1 = .ok (.invokevirtual 303, 3) := by decide +kernel
theorem dX12_changes_4 : decode cX12_changes 4 = .ok (.aload_n 0, 1) := by decide +kernel
theorem dX12_changes_5 : decode cX12_changes 5 = .ok (.getfield 81, 3) := by decide +kernel
theorem dX12_changes_8 : decode cX12_changes 8 = .ok (.getfield 270, 3) := by decide +kernel
theorem dX12_changes_11 : decode cX12_changes 11 = .ok (.ireturn, 1) := by decide +kernel
theorem dX12_changeKind_0 : decode cX12_changeKind 0 = .ok (.aload_n 0, 1) := by decide +kernel
theorem dX12_changeKind_1 : decode cX12_changeKind 1 = .ok (.iload_n 1, 1) := by decide +kernel
theorem dX12_changeKind_2 : decode cX12_changeKind 2 = .ok (.invokevirtual 355, 3) := by decide +kernel
theorem dX12_changeKind_5 : decode cX12_changeKind 5 = .ok (.invokevirtual 359, 3) := by decide +kernel
theorem dX12_changeKind_8 : decode cX12_changeKind 8 = .ok (.ireturn, 1) := by decide +kernel
theorem dX12_changeOf_0 : decode cX12_changeOf 0 = .ok (.aload_n 0, 1) := by decide +kernel
theorem dX12_changeOf_1 : decode cX12_changeOf 1 = .ok (.invokevirtual 303, 3) := by decide +kernel
theorem dX12_changeOf_4 : decode cX12_changeOf 4 = .ok (.aload_n 0, 1) := by decide +kernel
theorem dX12_changeOf_5 : decode cX12_changeOf 5 = .ok (.getfield 81, 3) := by decide +kernel
theorem dX12_changeOf_8 : decode cX12_changeOf 8 = .ok (.iload_n 1, 1) := by decide +kernel
theorem dX12_changeOf_9 : decode cX12_changeOf 9 = .ok (.invokevirtual 423, 3) := by decide +kernel
theorem dX12_changeOf_12 : decode cX12_changeOf 12 = .ok (.astore_n 2, 1) := by decide +kernel
theorem dX12_changeOf_13 : decode cX12_changeOf 13 = .ok (.aload_n 2, 1) := by decide +kernel
theorem dX12_changeOf_14 : decode cX12_changeOf 14 = .ok (.ifnonnull 14, 3) := by decide +kernel
theorem dX12_changeOf_17 : decode cX12_changeOf 17 = .ok (.new 218, 3) := by decide +kernel
theorem dX12_changeOf_20 : decode cX12_changeOf 20 = .ok (.dup, 1) := by decide +kernel
theorem dX12_changeOf_21 : decode cX12_changeOf 21 = .ok (.ldc_w 426, 3) := by decide +kernel
theorem dX12_changeOf_24 : decode cX12_changeOf 24 = .ok (.invokespecial 222, 3) := by decide +kernel
theorem dX12_changeOf_27 : decode cX12_changeOf 27 = .ok (.athrow, 1) := by decide +kernel
theorem dX12_changeOf_28 : decode cX12_changeOf 28 = .ok (.aload_n 2, 1) := by decide +kernel
theorem dX12_changeOf_29 : decode cX12_changeOf 29 = .ok (.areturn, 1) := by decide +kernel
theorem dX12_changeRegion_0 : decode cX12_changeRegion 0 = .ok (.aload_n 0, 1) := by decide +kernel
theorem dX12_changeRegion_1 : decode cX12_changeRegion 1 = .ok (.iload_n 1, 1) := by decide +kernel
theorem dX12_changeRegion_2 : decode cX12_changeRegion 2 = .ok (.invokevirtual 355, 3) := by decide +kernel
theorem dX12_changeRegion_5 : decode cX12_changeRegion 5 = .ok (.getfield 362, 3) := by decide +kernel
theorem dX12_changeRegion_8 : decode cX12_changeRegion 8 = .ok (.ireturn, 1) := by decide +kernel
theorem dX12_changeTarget_0 : decode cX12_changeTarget 0 = .ok (.aload_n 0, 1) := by decide +kernel
theorem dX12_changeTarget_1 : decode cX12_changeTarget 1 = .ok (.iload_n 1, 1) := by decide +kernel
theorem dX12_changeTarget_2 : decode cX12_changeTarget 2 = .ok (.invokevirtual 355, 3) := by decide +kernel
theorem dX12_changeTarget_5 : decode cX12_changeTarget 5 = .ok (.getfield 365, 3) := by decide +kernel
theorem dX12_changeTarget_8 : decode cX12_changeTarget 8 = .ok (.astore_n 2, 1) := by decide +kernel
theorem dX12_changeTarget_9 : decode cX12_changeTarget 9 = .ok (.aload_n 2, 1) := by decide +kernel
theorem dX12_changeTarget_10 : decode cX12_changeTarget 10 = .ok (.ifnonnull 7, 3) := by decide +kernel
theorem dX12_changeTarget_13 : decode cX12_changeTarget 13 = .ok (.iconst (-1), 1) := by decide +kernel
theorem dX12_changeTarget_14 : decode cX12_changeTarget 14 = .ok (.goto 7, 3) := by decide +kernel
theorem dX12_changeTarget_17 : decode cX12_changeTarget 17 = .ok (.aload_n 2, 1) := by decide +kernel
theorem dX12_changeTarget_18 : decode cX12_changeTarget 18 = .ok (.getfield 362, 3) := by decide +kernel
theorem dX12_changeTarget_21 : decode cX12_changeTarget 21 = .ok (.ireturn, 1) := by decide +kernel
theorem dX12_moveX_0 : decode cX12_moveX 0 = .ok (.aload_n 0, 1) := by decide +kernel
theorem dX12_moveX_1 : decode cX12_moveX 1 = .ok (.iload_n 1, 1) := by decide +kernel
theorem dX12_moveX_2 : decode cX12_moveX 2 = .ok (.invokevirtual 355, 3) := by decide +kernel
theorem dX12_moveX_5 : decode cX12_moveX 5 = .ok (.astore_n 2, 1) := by decide +kernel
theorem dX12_moveX_6 : decode cX12_moveX 6 = .ok (.aload_n 2, 1) := by decide +kernel
theorem dX12_moveX_7 : decode cX12_moveX 7 = .ok (.getfield 365, 3) := by decide +kernel
theorem dX12_moveX_10 : decode cX12_moveX 10 = .ok (.astore_n 3, 1) := by decide +kernel
theorem dX12_moveX_11 : decode cX12_moveX 11 = .ok (.aload_n 3, 1) := by decide +kernel
theorem dX12_moveX_12 : decode cX12_moveX 12 = .ok (.ifnonnull 7, 3) := by decide +kernel
theorem dX12_moveX_15 : decode cX12_moveX 15 = .ok (.iconst 0, 1) := by decide +kernel
theorem dX12_moveX_16 : decode cX12_moveX 16 = .ok (.goto 12, 3) := by decide +kernel
theorem dX12_moveX_19 : decode cX12_moveX 19 = .ok (.aload_n 3, 1) := by decide +kernel
theorem dX12_moveX_20 : decode cX12_moveX 20 = .ok (.getfield 368, 3) := by decide +kernel
theorem dX12_moveX_23 : decode cX12_moveX 23 = .ok (.aload_n 2, 1) := by decide +kernel
theorem dX12_moveX_24 : decode cX12_moveX 24 = .ok (.getfield 368, 3) := by decide +kernel
theorem dX12_moveX_27 : decode cX12_moveX 27 = .ok (.isub, 1) := by decide +kernel
theorem dX12_moveX_28 : decode cX12_moveX 28 = .ok (.ireturn, 1) := by decide +kernel
theorem dX12_moveY_0 : decode cX12_moveY 0 = .ok (.aload_n 0, 1) := by decide +kernel
theorem dX12_moveY_1 : decode cX12_moveY 1 = .ok (.iload_n 1, 1) := by decide +kernel
theorem dX12_moveY_2 : decode cX12_moveY 2 = .ok (.invokevirtual 355, 3) := by decide +kernel
theorem dX12_moveY_5 : decode cX12_moveY 5 = .ok (.astore_n 2, 1) := by decide +kernel
theorem dX12_moveY_6 : decode cX12_moveY 6 = .ok (.aload_n 2, 1) := by decide +kernel
theorem dX12_moveY_7 : decode cX12_moveY 7 = .ok (.getfield 365, 3) := by decide +kernel
theorem dX12_moveY_10 : decode cX12_moveY 10 = .ok (.astore_n 3, 1) := by decide +kernel
theorem dX12_moveY_11 : decode cX12_moveY 11 = .ok (.aload_n 3, 1) := by decide +kernel
theorem dX12_moveY_12 : decode cX12_moveY 12 = .ok (.ifnonnull 7, 3) := by decide +kernel
theorem dX12_moveY_15 : decode cX12_moveY 15 = .ok (.iconst 0, 1) := by decide +kernel
theorem dX12_moveY_16 : decode cX12_moveY 16 = .ok (.goto 12, 3) := by decide +kernel
theorem dX12_moveY_19 : decode cX12_moveY 19 = .ok (.aload_n 3, 1) := by decide +kernel
theorem dX12_moveY_20 : decode cX12_moveY 20 = .ok (.getfield 369, 3) := by decide +kernel
theorem dX12_moveY_23 : decode cX12_moveY 23 = .ok (.aload_n 2, 1) := by decide +kernel
theorem dX12_moveY_24 : decode cX12_moveY 24 = .ok (.getfield 369, 3) := by decide +kernel
theorem dX12_moveY_27 : decode cX12_moveY 27 = .ok (.isub, 1) := by decide +kernel
theorem dX12_moveY_28 : decode cX12_moveY 28 = .ok (.ireturn, 1) := by decide +kernel
theorem dX12_changePixels_0 : decode cX12_changePixels 0 = .ok (.aload_n 0, 1) := by decide +kernel
theorem dX12_changePixels_1 : decode cX12_changePixels 1 = .ok (.iload_n 1, 1) := by decide +kernel
theorem dX12_changePixels_2 : decode cX12_changePixels 2 = .ok (.invokevirtual 355, 3) := by decide +kernel
theorem dX12_changePixels_5 : decode cX12_changePixels 5 = .ok (.getfield 347, 3) := by decide +kernel
theorem dX12_changePixels_8 : decode cX12_changePixels 8 = .ok (.ireturn, 1) := by decide +kernel
theorem dX12_changeLine_0 : decode cX12_changeLine 0 = .ok (.aload_n 0, 1) := by decide +kernel
theorem dX12_changeLine_1 : decode cX12_changeLine 1 = .ok (.iload_n 1, 1) := by decide +kernel
theorem dX12_changeLine_2 : decode cX12_changeLine 2 = .ok (.invokevirtual 355, 3) := by decide +kernel
theorem dX12_changeLine_5 : decode cX12_changeLine 5 = .ok (.getfield 370, 3) := by decide +kernel
theorem dX12_changeLine_8 : decode cX12_changeLine 8 = .ok (.ireturn, 1) := by decide +kernel
theorem dX12_reportChar_0 : decode cX12_reportChar 0 = .ok (.aload_n 0, 1) := by decide +kernel
theorem dX12_reportChar_1 : decode cX12_reportChar 1 = .ok (.invokevirtual 303, 3) := by decide +kernel
theorem dX12_reportChar_4 : decode cX12_reportChar 4 = .ok (.iload_n 1, 1) := by decide +kernel
theorem dX12_reportChar_5 : decode cX12_reportChar 5 = .ok (.ifCond .ge 13, 3) := by decide +kernel
theorem dX12_reportChar_8 : decode cX12_reportChar 8 = .ok (.new 218, 3) := by decide +kernel
theorem dX12_reportChar_11 : decode cX12_reportChar 11 = .ok (.dup, 1) := by decide +kernel
theorem dX12_reportChar_12 : decode cX12_reportChar 12 = .ok (.ldc 227, 2) := by decide +kernel
theorem dX12_reportChar_14 : decode cX12_reportChar 14 = .ok (.invokespecial 222, 3) := by decide +kernel
theorem dX12_reportChar_17 : decode cX12_reportChar 17 = .ok (.athrow, 1) := by decide +kernel
theorem dX12_reportChar_18 : decode cX12_reportChar 18 = .ok (.aload_n 0, 1) := by decide +kernel
theorem dX12_reportChar_19 : decode cX12_reportChar 19 = .ok (.getfield 88, 3) := by decide +kernel
theorem dX12_reportChar_22 : decode cX12_reportChar 22 = .ok (.iload_n 1, 1) := by decide +kernel
theorem dX12_reportChar_23 : decode cX12_reportChar 23 = .ok (.invokevirtual 229, 3) := by decide +kernel
theorem dX12_reportChar_26 : decode cX12_reportChar 26 = .ok (.aload_n 0, 1) := by decide +kernel
theorem dX12_reportChar_27 : decode cX12_reportChar 27 = .ok (.getfield 81, 3) := by decide +kernel
theorem dX12_reportChar_30 : decode cX12_reportChar 30 = .ok (.aload_n 0, 1) := by decide +kernel
theorem dX12_reportChar_31 : decode cX12_reportChar 31 = .ok (.getfield 88, 3) := by decide +kernel
theorem dX12_reportChar_34 : decode cX12_reportChar 34 = .ok (.invokevirtual 373, 3) := by decide +kernel
theorem dX12_reportChar_37 : decode cX12_reportChar 37 = .ok (.aload_n 0, 1) := by decide +kernel
theorem dX12_reportChar_38 : decode cX12_reportChar 38 = .ok (.getfield 88, 3) := by decide +kernel
theorem dX12_reportChar_41 : decode cX12_reportChar 41 = .ok (.invokevirtual 236, 3) := by decide +kernel
theorem dX12_reportChar_44 : decode cX12_reportChar 44 = .ok (.ireturn, 1) := by decide +kernel
theorem dX12_learn_0 : decode cX12_learn 0 = .ok (.aload_n 0, 1) := by decide +kernel
theorem dX12_learn_1 : decode cX12_learn 1 = .ok (.getfield 266, 3) := by decide +kernel
theorem dX12_learn_4 : decode cX12_learn 4 = .ok (.ifCond .ne 14, 3) := by decide +kernel
theorem dX12_learn_7 : decode cX12_learn 7 = .ok (.new 218, 3) := by decide +kernel
theorem dX12_learn_10 : decode cX12_learn 10 = .ok (.dup, 1) := by decide +kernel
theorem dX12_learn_11 : decode cX12_learn 11 = .ok (.ldc_w 376, 3) := by decide +kernel
theorem dX12_learn_14 : decode cX12_learn 14 = .ok (.invokespecial 222, 3) := by decide +kernel
theorem dX12_learn_17 : decode cX12_learn 17 = .ok (.athrow, 1) := by decide +kernel
theorem dX12_learn_18 : decode cX12_learn 18 = .ok (.aload_n 0, 1) := by decide +kernel
theorem dX12_learn_19 : decode cX12_learn 19 = .ok (.iload_n 1, 1) := by decide +kernel
theorem dX12_learn_20 : decode cX12_learn 20 = .ok (.invokevirtual 355, 3) := by decide +kernel
theorem dX12_learn_23 : decode cX12_learn 23 = .ok (.astore_n 2, 1) := by decide +kernel
theorem dX12_learn_24 : decode cX12_learn 24 = .ok (.aload_n 0, 1) := by decide +kernel
theorem dX12_learn_25 : decode cX12_learn 25 = .ok (.getfield 74, 3) := by decide +kernel
theorem dX12_learn_28 : decode cX12_learn 28 = .ok (.aload_n 2, 1) := by decide +kernel
theorem dX12_learn_29 : decode cX12_learn 29 = .ok (.invokevirtual 378, 3) := by decide +kernel
theorem dX12_learn_32 : decode cX12_learn 32 = .ok (.istore_n 3, 1) := by decide +kernel
theorem dX12_learn_33 : decode cX12_learn 33 = .ok (.iload_n 3, 1) := by decide +kernel
theorem dX12_learn_34 : decode cX12_learn 34 = .ok (.ifCond .lt 5, 3) := by decide +kernel
theorem dX12_learn_37 : decode cX12_learn 37 = .ok (.iload_n 3, 1) := by decide +kernel
theorem dX12_learn_38 : decode cX12_learn 38 = .ok (.ireturn, 1) := by decide +kernel
theorem dX12_learn_39 : decode cX12_learn 39 = .ok (.aload_n 0, 1) := by decide +kernel
theorem dX12_learn_40 : decode cX12_learn 40 = .ok (.getfield 74, 3) := by decide +kernel
theorem dX12_learn_43 : decode cX12_learn 43 = .ok (.invokevirtual 382, 3) := by decide +kernel
theorem dX12_learn_46 : decode cX12_learn 46 = .ok (.ifCond .eq 14, 3) := by decide +kernel
theorem dX12_learn_49 : decode cX12_learn 49 = .ok (.new 188, 3) := by decide +kernel
theorem dX12_learn_52 : decode cX12_learn 52 = .ok (.dup, 1) := by decide +kernel
theorem dX12_learn_53 : decode cX12_learn 53 = .ok (.ldc_w 383, 3) := by decide +kernel
theorem dX12_learn_56 : decode cX12_learn 56 = .ok (.invokespecial 192, 3) := by decide +kernel
theorem dX12_learn_59 : decode cX12_learn 59 = .ok (.athrow, 1) := by decide +kernel
theorem dX12_learn_60 : decode cX12_learn 60 = .ok (.aload_n 0, 1) := by decide +kernel
theorem dX12_learn_61 : decode cX12_learn 61 = .ok (.getfield 74, 3) := by decide +kernel
theorem dX12_learn_64 : decode cX12_learn 64 = .ok (.aload_n 2, 1) := by decide +kernel
theorem dX12_learn_65 : decode cX12_learn 65 = .ok (.invokevirtual 385, 3) := by decide +kernel
theorem dX12_learn_68 : decode cX12_learn 68 = .ok (.ireturn, 1) := by decide +kernel
theorem dX12_stampOf_0 : decode cX12_stampOf 0 = .ok (.aload_n 0, 1) := by decide +kernel
theorem dX12_stampOf_1 : decode cX12_stampOf 1 = .ok (.getfield 74, 3) := by decide +kernel
theorem dX12_stampOf_4 : decode cX12_stampOf 4 = .ok (.aload_n 0, 1) := by decide +kernel
theorem dX12_stampOf_5 : decode cX12_stampOf 5 = .ok (.iload_n 1, 1) := by decide +kernel
theorem dX12_stampOf_6 : decode cX12_stampOf 6 = .ok (.invokevirtual 355, 3) := by decide +kernel
theorem dX12_stampOf_9 : decode cX12_stampOf 9 = .ok (.invokevirtual 378, 3) := by decide +kernel
theorem dX12_stampOf_12 : decode cX12_stampOf 12 = .ok (.ireturn, 1) := by decide +kernel
theorem dX12_forgetStamp_0 : decode cX12_forgetStamp 0 = .ok (.iload_n 1, 1) := by decide +kernel
theorem dX12_forgetStamp_1 : decode cX12_forgetStamp 1 = .ok (.ifCond .lt 14, 3) := by decide +kernel
theorem dX12_forgetStamp_4 : decode cX12_forgetStamp 4 = .ok (.iload_n 1, 1) := by decide +kernel
theorem dX12_forgetStamp_5 : decode cX12_forgetStamp 5 = .ok (.aload_n 0, 1) := by decide +kernel
theorem dX12_forgetStamp_6 : decode cX12_forgetStamp 6 = .ok (.getfield 74, 3) := by decide +kernel
theorem dX12_forgetStamp_9 : decode cX12_forgetStamp 9 = .ok (.getfield 387, 3) := by decide +kernel
theorem dX12_forgetStamp_12 : decode cX12_forgetStamp 12 = .ok (.if_icmp .lt 14, 3) := by decide +kernel
theorem dX12_forgetStamp_15 : decode cX12_forgetStamp 15 = .ok (.new 218, 3) := by decide +kernel
theorem dX12_forgetStamp_18 : decode cX12_forgetStamp 18 = .ok (.dup, 1) := by decide +kernel
theorem dX12_forgetStamp_19 : decode cX12_forgetStamp 19 = .ok (.ldc_w 390, 3) := by decide +kernel
theorem dX12_forgetStamp_22 : decode cX12_forgetStamp 22 = .ok (.invokespecial 222, 3) := by decide +kernel
theorem dX12_forgetStamp_25 : decode cX12_forgetStamp 25 = .ok (.athrow, 1) := by decide +kernel
theorem dX12_forgetStamp_26 : decode cX12_forgetStamp 26 = .ok (.aload_n 0, 1) := by decide +kernel
theorem dX12_forgetStamp_27 : decode cX12_forgetStamp 27 = .ok (.getfield 74, 3) := by decide +kernel
theorem dX12_forgetStamp_30 : decode cX12_forgetStamp 30 = .ok (.iload_n 1, 1) := by decide +kernel
theorem dX12_forgetStamp_31 : decode cX12_forgetStamp 31 = .ok (.invokevirtual 392, 3) := by decide +kernel
theorem dX12_forgetStamp_34 : decode cX12_forgetStamp 34 = .ok (.ireturn, 1) := by decide +kernel
theorem dX12_accept_0 : decode cX12_accept 0 = .ok (.aload_n 0, 1) := by decide +kernel
theorem dX12_accept_1 : decode cX12_accept 1 = .ok (.iload_n 1, 1) := by decide +kernel
theorem dX12_accept_2 : decode cX12_accept 2 = .ok (.invokevirtual 355, 3) := by decide +kernel
theorem dX12_accept_5 : decode cX12_accept 5 = .ok (.astore_n 2, 1) := by decide +kernel
theorem dX12_accept_6 : decode cX12_accept 6 = .ok (.aload_n 0, 1) := by decide +kernel
theorem dX12_accept_7 : decode cX12_accept 7 = .ok (.getfield 27, 3) := by decide +kernel
theorem dX12_accept_10 : decode cX12_accept 10 = .ok (.iconst 0, 1) := by decide +kernel
theorem dX12_accept_11 : decode cX12_accept 11 = .ok (.aaload, 1) := by decide +kernel
theorem dX12_accept_12 : decode cX12_accept 12 = .ok (.astore_n 3, 1) := by decide +kernel
theorem dX12_accept_13 : decode cX12_accept 13 = .ok (.aload_n 0, 1) := by decide +kernel
theorem dX12_accept_14 : decode cX12_accept 14 = .ok (.getfield 37, 3) := by decide +kernel
theorem dX12_accept_17 : decode cX12_accept 17 = .ok (.iconst 0, 1) := by decide +kernel
theorem dX12_accept_18 : decode cX12_accept 18 = .ok (.aload_n 3, 1) := by decide +kernel
theorem dX12_accept_19 : decode cX12_accept 19 = .ok (.invokevirtual 104, 3) := by decide +kernel
theorem dX12_accept_22 : decode cX12_accept 22 = .ok (.astore 4, 2) := by decide +kernel
theorem dX12_accept_24 : decode cX12_accept 24 = .ok (.aload_n 3, 1) := by decide +kernel
theorem dX12_accept_25 : decode cX12_accept 25 = .ok (.aload_n 2, 1) := by decide +kernel
theorem dX12_accept_26 : decode cX12_accept 26 = .ok (.invokevirtual 395, 3) := by decide +kernel
theorem dX12_accept_29 : decode cX12_accept 29 = .ok (.aload_n 2, 1) := by decide +kernel
theorem dX12_accept_30 : decode cX12_accept 30 = .ok (.getfield 365, 3) := by decide +kernel
theorem dX12_accept_33 : decode cX12_accept 33 = .ok (.ifnull 11, 3) := by decide +kernel
theorem dX12_accept_36 : decode cX12_accept 36 = .ok (.aload_n 3, 1) := by decide +kernel
theorem dX12_accept_37 : decode cX12_accept 37 = .ok (.aload_n 2, 1) := by decide +kernel
theorem dX12_accept_38 : decode cX12_accept 38 = .ok (.getfield 365, 3) := by decide +kernel
theorem dX12_accept_41 : decode cX12_accept 41 = .ok (.invokevirtual 395, 3) := by decide +kernel
theorem dX12_accept_44 : decode cX12_accept 44 = .ok (.aload_n 3, 1) := by decide +kernel
theorem dX12_accept_45 : decode cX12_accept 45 = .ok (.aload 4, 2) := by decide +kernel
theorem dX12_accept_47 : decode cX12_accept 47 = .ok (.invokevirtual 112, 3) := by decide +kernel
theorem dX12_accept_50 : decode cX12_accept 50 = .ok (.ireturn, 1) := by decide +kernel
theorem dX12_leastNoise_0 : decode cX12_leastNoise 0 = .ok (.aload_n 0, 1) := by decide +kernel
theorem dX12_leastNoise_1 : decode cX12_leastNoise 1 = .ok (.invokevirtual 303, 3) := by decide +kernel
theorem dX12_leastNoise_4 : decode cX12_leastNoise 4 = .ok (.iload_n 1, 1) := by decide +kernel
theorem dX12_leastNoise_5 : decode cX12_leastNoise 5 = .ok (.ifCond .ge 14, 3) := by decide +kernel
theorem dX12_leastNoise_8 : decode cX12_leastNoise 8 = .ok (.new 131, 3) := by decide +kernel
theorem dX12_leastNoise_11 : decode cX12_leastNoise 11 = .ok (.dup, 1) := by decide +kernel
theorem dX12_leastNoise_12 : decode cX12_leastNoise 12 = .ok (.ldc_w 399, 3) := by decide +kernel
theorem dX12_leastNoise_15 : decode cX12_leastNoise 15 = .ok (.invokespecial 135, 3) := by decide +kernel
theorem dX12_leastNoise_18 : decode cX12_leastNoise 18 = .ok (.athrow, 1) := by decide +kernel
theorem dX12_leastNoise_19 : decode cX12_leastNoise 19 = .ok (.aload_n 0, 1) := by decide +kernel
theorem dX12_leastNoise_20 : decode cX12_leastNoise 20 = .ok (.getfield 81, 3) := by decide +kernel
theorem dX12_leastNoise_23 : decode cX12_leastNoise 23 = .ok (.iload_n 1, 1) := by decide +kernel
theorem dX12_leastNoise_24 : decode cX12_leastNoise 24 = .ok (.invokevirtual 401, 3) := by decide +kernel
theorem dX12_leastNoise_27 : decode cX12_leastNoise 27 = .ok (.ireturn, 1) := by decide +kernel
