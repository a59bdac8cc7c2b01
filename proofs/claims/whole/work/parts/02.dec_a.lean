theorem dJ0_length_8abf5_0 : decode cJ0_length_8abf5 0 = .ok (.aload_n 0, 1) := by decide +kernel
theorem dJ0_length_8abf5_1 : decode cJ0_length_8abf5 1 = .ok (.getfield 9, 3) := by decide +kernel
theorem dJ0_length_8abf5_4 : decode cJ0_length_8abf5 4 = .ok (.arraylength, 1) := by decide +kernel
theorem dJ0_length_8abf5_5 : decode cJ0_length_8abf5 5 = .ok (.aload_n 0, 1) := by decide +kernel
theorem dJ0_length_8abf5_6 : decode cJ0_length_8abf5 6 = .ok (.invokevirtual 335, 3) := by decide +kernel
theorem dJ0_length_8abf5_9 : decode cJ0_length_8abf5 9 = .ok (.ishr, 1) := by decide +kernel
theorem dJ0_length_8abf5_10 : decode cJ0_length_8abf5 10 = .ok (.ireturn, 1) := by decide +kernel
theorem dJ0_charAt_5068e_0 : decode cJ0_charAt_5068e 0 = .ok (.aload_n 0, 1) := by decide +kernel
theorem dJ0_charAt_5068e_1 : decode cJ0_charAt_5068e 1 = .ok (.invokevirtual 492, 3) := by decide +kernel
theorem dJ0_charAt_5068e_4 : decode cJ0_charAt_5068e 4 = .ok (.ifCond .eq 12, 3) := by decide +kernel
theorem dJ0_charAt_5068e_7 : decode cJ0_charAt_5068e 7 = .ok (.aload_n 0, 1) := by decide +kernel
theorem dJ0_charAt_5068e_8 : decode cJ0_charAt_5068e 8 = .ok (.getfield 9, 3) := by decide +kernel
theorem dJ0_charAt_5068e_11 : decode cJ0_charAt_5068e 11 = .ok (.iload_n 1, 1) := by decide +kernel
theorem dJ0_charAt_5068e_12 : decode cJ0_charAt_5068e 12 = .ok (.invokestatic 495, 3) := by decide +kernel
theorem dJ0_charAt_5068e_15 : decode cJ0_charAt_5068e 15 = .ok (.ireturn, 1) := by decide +kernel
theorem dJ0_charAt_5068e_16 : decode cJ0_charAt_5068e 16 = .ok (.aload_n 0, 1) := by decide +kernel
theorem dJ0_charAt_5068e_17 : decode cJ0_charAt_5068e 17 = .ok (.getfield 9, 3) := by decide +kernel
theorem dJ0_charAt_5068e_20 : decode cJ0_charAt_5068e 20 = .ok (.iload_n 1, 1) := by decide +kernel
theorem dJ0_charAt_5068e_21 : decode cJ0_charAt_5068e 21 = .ok (.invokestatic 498, 3) := by decide +kernel
theorem dJ0_charAt_5068e_24 : decode cJ0_charAt_5068e 24 = .ok (.ireturn, 1) := by decide +kernel
theorem dJ0_coder_7d493_0 : decode cJ0_coder_7d493 0 = .ok (.getstatic 38, 3) := by decide +kernel
theorem dJ0_coder_7d493_3 : decode cJ0_coder_7d493 3 = .ok (.ifCond .eq 10, 3) := by decide +kernel
theorem dJ0_coder_7d493_6 : decode cJ0_coder_7d493 6 = .ok (.aload_n 0, 1) := by decide +kernel
theorem dJ0_coder_7d493_7 : decode cJ0_coder_7d493 7 = .ok (.getfield 15, 3) := by decide +kernel
theorem dJ0_coder_7d493_10 : decode cJ0_coder_7d493 10 = .ok (.goto 4, 3) := by decide +kernel
theorem dJ0_coder_7d493_13 : decode cJ0_coder_7d493 13 = .ok (.iconst 1, 1) := by decide +kernel
theorem dJ0_coder_7d493_14 : decode cJ0_coder_7d493 14 = .ok (.ireturn, 1) := by decide +kernel
theorem dJ0_isLatin1_aae02_0 : decode cJ0_isLatin1_aae02 0 = .ok (.getstatic 38, 3) := by decide +kernel
theorem dJ0_isLatin1_aae02_3 : decode cJ0_isLatin1_aae02 3 = .ok (.ifCond .eq 14, 3) := by decide +kernel
theorem dJ0_isLatin1_aae02_6 : decode cJ0_isLatin1_aae02 6 = .ok (.aload_n 0, 1) := by decide +kernel
theorem dJ0_isLatin1_aae02_7 : decode cJ0_isLatin1_aae02 7 = .ok (.getfield 15, 3) := by decide +kernel
theorem dJ0_isLatin1_aae02_10 : decode cJ0_isLatin1_aae02 10 = .ok (.ifCond .ne 7, 3) := by decide +kernel
theorem dJ0_isLatin1_aae02_13 : decode cJ0_isLatin1_aae02 13 = .ok (.iconst 1, 1) := by decide +kernel
theorem dJ0_isLatin1_aae02_14 : decode cJ0_isLatin1_aae02 14 = .ok (.goto 4, 3) := by decide +kernel
theorem dJ0_isLatin1_aae02_17 : decode cJ0_isLatin1_aae02 17 = .ok (.iconst 0, 1) := by decide +kernel
theorem dJ0_isLatin1_aae02_18 : decode cJ0_isLatin1_aae02 18 = .ok (.ireturn, 1) := by decide +kernel
theorem dJ0_checkIndex_df160_0 : decode cJ0_checkIndex_df160 0 = .ok (.iload_n 0, 1) := by decide +kernel
theorem dJ0_checkIndex_df160_1 : decode cJ0_checkIndex_df160 1 = .ok (.iload_n 1, 1) := by decide +kernel
theorem dJ0_checkIndex_df160_2 : decode cJ0_checkIndex_df160 2 = .ok (.getstatic 1053, 3) := by decide +kernel
theorem dJ0_checkIndex_df160_5 : decode cJ0_checkIndex_df160 5 = .ok (.invokestatic 1059, 3) := by decide +kernel
theorem dJ0_checkIndex_df160_8 : decode cJ0_checkIndex_df160 8 = .ok (.pop, 1) := by decide +kernel
theorem dJ0_checkIndex_df160_9 : decode cJ0_checkIndex_df160 9 = .ok (.return_, 1) := by decide +kernel
theorem dJ1_charAt_3b067_0 : decode cJ1_charAt_3b067 0 = .ok (.iload_n 1, 1) := by decide +kernel
theorem dJ1_charAt_3b067_1 : decode cJ1_charAt_3b067 1 = .ok (.aload_n 0, 1) := by decide +kernel
theorem dJ1_charAt_3b067_2 : decode cJ1_charAt_3b067 2 = .ok (.arraylength, 1) := by decide +kernel
theorem dJ1_charAt_3b067_3 : decode cJ1_charAt_3b067 3 = .ok (.invokestatic 9, 3) := by decide +kernel
theorem dJ1_charAt_3b067_6 : decode cJ1_charAt_3b067 6 = .ok (.aload_n 0, 1) := by decide +kernel
theorem dJ1_charAt_3b067_7 : decode cJ1_charAt_3b067 7 = .ok (.iload_n 1, 1) := by decide +kernel
theorem dJ1_charAt_3b067_8 : decode cJ1_charAt_3b067 8 = .ok (.baload, 1) := by decide +kernel
theorem dJ1_charAt_3b067_9 : decode cJ1_charAt_3b067 9 = .ok (.sipush 255, 3) := by decide +kernel
theorem dJ1_charAt_3b067_12 : decode cJ1_charAt_3b067 12 = .ok (.iand, 1) := by decide +kernel
theorem dJ1_charAt_3b067_13 : decode cJ1_charAt_3b067 13 = .ok (.i2c, 1) := by decide +kernel
theorem dJ1_charAt_3b067_14 : decode cJ1_charAt_3b067 14 = .ok (.ireturn, 1) := by decide +kernel
theorem dJ2_getChar_3b067_0 : decode cJ2_getChar_3b067 0 = .ok (.getstatic 44, 3) := by decide +kernel
theorem dJ2_getChar_3b067_3 : decode cJ2_getChar_3b067 3 = .ok (.ifCond .ne 25, 3) := by decide +kernel
theorem dJ2_getChar_3b067_6 : decode cJ2_getChar_3b067 6 = .ok (.iload_n 1, 1) := by decide +kernel
theorem dJ2_getChar_3b067_7 : decode cJ2_getChar_3b067 7 = .ok (.ifCond .lt 11, 3) := by decide +kernel
theorem dJ2_getChar_3b067_10 : decode cJ2_getChar_3b067 10 = .ok (.iload_n 1, 1) := by decide +kernel
theorem dJ2_getChar_3b067_11 : decode cJ2_getChar_3b067 11 = .ok (.aload_n 0, 1) := by decide +kernel
theorem dJ2_getChar_3b067_12 : decode cJ2_getChar_3b067 12 = .ok (.invokestatic 48, 3) := by decide +kernel
theorem dJ2_getChar_3b067_15 : decode cJ2_getChar_3b067 15 = .ok (.if_icmp .lt 13, 3) := by decide +kernel
theorem dJ2_getChar_3b067_18 : decode cJ2_getChar_3b067 18 = .ok (.new 52, 3) := by decide +kernel
theorem dJ2_getChar_3b067_21 : decode cJ2_getChar_3b067 21 = .ok (.dup, 1) := by decide +kernel
theorem dJ2_getChar_3b067_22 : decode cJ2_getChar_3b067 22 = .ok (.ldc 54, 2) := by decide +kernel
theorem dJ2_getChar_3b067_24 : decode cJ2_getChar_3b067 24 = .ok (.invokespecial 56, 3) := by decide +kernel
theorem dJ2_getChar_3b067_27 : decode cJ2_getChar_3b067 27 = .ok (.athrow, 1) := by decide +kernel
theorem dJ2_getChar_3b067_28 : decode cJ2_getChar_3b067 28 = .ok (.iload_n 1, 1) := by decide +kernel
theorem dJ2_getChar_3b067_29 : decode cJ2_getChar_3b067 29 = .ok (.iconst 1, 1) := by decide +kernel
theorem dJ2_getChar_3b067_30 : decode cJ2_getChar_3b067 30 = .ok (.ishl, 1) := by decide +kernel
theorem dJ2_getChar_3b067_31 : decode cJ2_getChar_3b067 31 = .ok (.istore_n 1, 1) := by decide +kernel
theorem dJ2_getChar_3b067_32 : decode cJ2_getChar_3b067 32 = .ok (.aload_n 0, 1) := by decide +kernel
theorem dJ2_getChar_3b067_33 : decode cJ2_getChar_3b067 33 = .ok (.iload_n 1, 1) := by decide +kernel
theorem dJ2_getChar_3b067_34 : decode cJ2_getChar_3b067 34 = .ok (.iinc 1 1, 3) := by decide +kernel
theorem dJ2_getChar_3b067_37 : decode cJ2_getChar_3b067 37 = .ok (.baload, 1) := by decide +kernel
theorem dJ2_getChar_3b067_38 : decode cJ2_getChar_3b067 38 = .ok (.sipush 255, 3) := by decide +kernel
theorem dJ2_getChar_3b067_41 : decode cJ2_getChar_3b067 41 = .ok (.iand, 1) := by decide +kernel
theorem dJ2_getChar_3b067_42 : decode cJ2_getChar_3b067 42 = .ok (.getstatic 59, 3) := by decide +kernel
theorem dJ2_getChar_3b067_45 : decode cJ2_getChar_3b067 45 = .ok (.ishl, 1) := by decide +kernel
theorem dJ2_getChar_3b067_46 : decode cJ2_getChar_3b067 46 = .ok (.aload_n 0, 1) := by decide +kernel
theorem dJ2_getChar_3b067_47 : decode cJ2_getChar_3b067 47 = .ok (.iload_n 1, 1) := by decide +kernel
theorem dJ2_getChar_3b067_48 : decode cJ2_getChar_3b067 48 = .ok (.baload, 1) := by decide +kernel
theorem dJ2_getChar_3b067_49 : decode cJ2_getChar_3b067 49 = .ok (.sipush 255, 3) := by decide +kernel
theorem dJ2_getChar_3b067_52 : decode cJ2_getChar_3b067 52 = .ok (.iand, 1) := by decide +kernel
theorem dJ2_getChar_3b067_53 : decode cJ2_getChar_3b067 53 = .ok (.getstatic 63, 3) := by decide +kernel
theorem dJ2_getChar_3b067_56 : decode cJ2_getChar_3b067 56 = .ok (.ishl, 1) := by decide +kernel
theorem dJ2_getChar_3b067_57 : decode cJ2_getChar_3b067 57 = .ok (.ior, 1) := by decide +kernel
theorem dJ2_getChar_3b067_58 : decode cJ2_getChar_3b067 58 = .ok (.i2c, 1) := by decide +kernel
theorem dJ2_getChar_3b067_59 : decode cJ2_getChar_3b067 59 = .ok (.ireturn, 1) := by decide +kernel
theorem dJ2_length_9d52b_0 : decode cJ2_length_9d52b 0 = .ok (.aload_n 0, 1) := by decide +kernel
theorem dJ2_length_9d52b_1 : decode cJ2_length_9d52b 1 = .ok (.arraylength, 1) := by decide +kernel
theorem dJ2_length_9d52b_2 : decode cJ2_length_9d52b 2 = .ok (.iconst 1, 1) := by decide +kernel
theorem dJ2_length_9d52b_3 : decode cJ2_length_9d52b 3 = .ok (.ishr, 1) := by decide +kernel
theorem dJ2_length_9d52b_4 : decode cJ2_length_9d52b 4 = .ok (.ireturn, 1) := by decide +kernel
theorem dJ2_charAt_3b067_0 : decode cJ2_charAt_3b067 0 = .ok (.iload_n 1, 1) := by decide +kernel
theorem dJ2_charAt_3b067_1 : decode cJ2_charAt_3b067 1 = .ok (.aload_n 0, 1) := by decide +kernel
theorem dJ2_charAt_3b067_2 : decode cJ2_charAt_3b067 2 = .ok (.invokestatic 67, 3) := by decide +kernel
theorem dJ2_charAt_3b067_5 : decode cJ2_charAt_3b067 5 = .ok (.aload_n 0, 1) := by decide +kernel
theorem dJ2_charAt_3b067_6 : decode cJ2_charAt_3b067 6 = .ok (.iload_n 1, 1) := by decide +kernel
theorem dJ2_charAt_3b067_7 : decode cJ2_charAt_3b067 7 = .ok (.invokestatic 71, 3) := by decide +kernel
theorem dJ2_charAt_3b067_10 : decode cJ2_charAt_3b067 10 = .ok (.ireturn, 1) := by decide +kernel
theorem dJ2_checkIndex_2214a_0 : decode cJ2_checkIndex_2214a 0 = .ok (.iload_n 0, 1) := by decide +kernel
theorem dJ2_checkIndex_2214a_1 : decode cJ2_checkIndex_2214a 1 = .ok (.aload_n 1, 1) := by decide +kernel
theorem dJ2_checkIndex_2214a_2 : decode cJ2_checkIndex_2214a 2 = .ok (.invokestatic 48, 3) := by decide +kernel
theorem dJ2_checkIndex_2214a_5 : decode cJ2_checkIndex_2214a 5 = .ok (.invokestatic 414, 3) := by decide +kernel
theorem dJ2_checkIndex_2214a_8 : decode cJ2_checkIndex_2214a 8 = .ok (.return_, 1) := by decide +kernel
theorem dJ3_checkIndex_8e157_0 : decode cJ3_checkIndex_8e157 0 = .ok (.iload_n 0, 1) := by decide +kernel
theorem dJ3_checkIndex_8e157_1 : decode cJ3_checkIndex_8e157 1 = .ok (.ifCond .lt 8, 3) := by decide +kernel
theorem dJ3_checkIndex_8e157_4 : decode cJ3_checkIndex_8e157 4 = .ok (.iload_n 0, 1) := by decide +kernel
theorem dJ3_checkIndex_8e157_5 : decode cJ3_checkIndex_8e157 5 = .ok (.iload_n 1, 1) := by decide +kernel
theorem dJ3_checkIndex_8e157_6 : decode cJ3_checkIndex_8e157 6 = .ok (.if_icmp .lt 10, 3) := by decide +kernel
theorem dJ3_checkIndex_8e157_9 : decode cJ3_checkIndex_8e157 9 = .ok (.aload_n 2, 1) := by decide +kernel
theorem dJ3_checkIndex_8e157_10 : decode cJ3_checkIndex_8e157 10 = .ok (.iload_n 0, 1) := by decide +kernel
theorem dJ3_checkIndex_8e157_11 : decode cJ3_checkIndex_8e157 11 = .ok (.iload_n 1, 1) := by decide +kernel
theorem dJ3_checkIndex_8e157_12 : decode cJ3_checkIndex_8e157 12 = .ok (.invokestatic 95, 3) := by decide +kernel
theorem dJ3_checkIndex_8e157_15 : decode cJ3_checkIndex_8e157 15 = .ok (.athrow, 1) := by decide +kernel
theorem dJ3_checkIndex_8e157_16 : decode cJ3_checkIndex_8e157 16 = .ok (.iload_n 0, 1) := by decide +kernel
theorem dJ3_checkIndex_8e157_17 : decode cJ3_checkIndex_8e157 17 = .ok (.ireturn, 1) := by decide +kernel
theorem dJ6_bitCount_0f7a4_0 : decode cJ6_bitCount_0f7a4 0 = .ok (.iload_n 0, 1) := by decide +kernel
theorem dJ6_bitCount_0f7a4_1 : decode cJ6_bitCount_0f7a4 1 = .ok (.iload_n 0, 1) := by decide +kernel
theorem dJ6_bitCount_0f7a4_2 : decode cJ6_bitCount_0f7a4 2 = .ok (.iconst 1, 1) := by decide +kernel
theorem dJ6_bitCount_0f7a4_3 : decode cJ6_bitCount_0f7a4 3 = .ok (.iushr, 1) := by decide +kernel
theorem dJ6_bitCount_0f7a4_4 : decode cJ6_bitCount_0f7a4 4 = .ok (.ldc_w 265, 3) := by decide +kernel
theorem dJ6_bitCount_0f7a4_7 : decode cJ6_bitCount_0f7a4 7 = .ok (.iand, 1) := by decide +kernel
theorem dJ6_bitCount_0f7a4_8 : decode cJ6_bitCount_0f7a4 8 = .ok (.isub, 1) := by decide +kernel
theorem dJ6_bitCount_0f7a4_9 : decode cJ6_bitCount_0f7a4 9 = .ok (.istore_n 0, 1) := by decide +kernel
theorem dJ6_bitCount_0f7a4_10 : decode cJ6_bitCount_0f7a4 10 = .ok (.iload_n 0, 1) := by decide +kernel
theorem dJ6_bitCount_0f7a4_11 : decode cJ6_bitCount_0f7a4 11 = .ok (.ldc_w 266, 3) := by decide +kernel
theorem dJ6_bitCount_0f7a4_14 : decode cJ6_bitCount_0f7a4 14 = .ok (.iand, 1) := by decide +kernel
theorem dJ6_bitCount_0f7a4_15 : decode cJ6_bitCount_0f7a4 15 = .ok (.iload_n 0, 1) := by decide +kernel
theorem dJ6_bitCount_0f7a4_16 : decode cJ6_bitCount_0f7a4 16 = .ok (.iconst 2, 1) := by decide +kernel
theorem dJ6_bitCount_0f7a4_17 : decode cJ6_bitCount_0f7a4 17 = .ok (.iushr, 1) := by decide +kernel
theorem dJ6_bitCount_0f7a4_18 : decode cJ6_bitCount_0f7a4 18 = .ok (.ldc_w 266, 3) := by decide +kernel
theorem dJ6_bitCount_0f7a4_21 : decode cJ6_bitCount_0f7a4 21 = .ok (.iand, 1) := by decide +kernel
theorem dJ6_bitCount_0f7a4_22 : decode cJ6_bitCount_0f7a4 22 = .ok (.iadd, 1) := by decide +kernel
theorem dJ6_bitCount_0f7a4_23 : decode cJ6_bitCount_0f7a4 23 = .ok (.istore_n 0, 1) := by decide +kernel
theorem dJ6_bitCount_0f7a4_24 : decode cJ6_bitCount_0f7a4 24 = .ok (.iload_n 0, 1) := by decide +kernel
theorem dJ6_bitCount_0f7a4_25 : decode cJ6_bitCount_0f7a4 25 = .ok (.iload_n 0, 1) := by decide +kernel
theorem dJ6_bitCount_0f7a4_26 : decode cJ6_bitCount_0f7a4 26 = .ok (.iconst 4, 1) := by decide +kernel
theorem dJ6_bitCount_0f7a4_27 : decode cJ6_bitCount_0f7a4 27 = .ok (.iushr, 1) := by decide +kernel
theorem dJ6_bitCount_0f7a4_28 : decode cJ6_bitCount_0f7a4 28 = .ok (.iadd, 1) := by decide +kernel
theorem dJ6_bitCount_0f7a4_29 : decode cJ6_bitCount_0f7a4 29 = .ok (.ldc_w 267, 3) := by decide +kernel
theorem dJ6_bitCount_0f7a4_32 : decode cJ6_bitCount_0f7a4 32 = .ok (.iand, 1) := by decide +kernel
theorem dJ6_bitCount_0f7a4_33 : decode cJ6_bitCount_0f7a4 33 = .ok (.istore_n 0, 1) := by decide +kernel
theorem dJ6_bitCount_0f7a4_34 : decode cJ6_bitCount_0f7a4 34 = .ok (.iload_n 0, 1) := by decide +kernel
theorem dJ6_bitCount_0f7a4_35 : decode cJ6_bitCount_0f7a4 35 = .ok (.iload_n 0, 1) := by decide +kernel
theorem dJ6_bitCount_0f7a4_36 : decode cJ6_bitCount_0f7a4 36 = .ok (.bipush 8, 2) := by decide +kernel
theorem dJ6_bitCount_0f7a4_38 : decode cJ6_bitCount_0f7a4 38 = .ok (.iushr, 1) := by decide +kernel
theorem dJ6_bitCount_0f7a4_39 : decode cJ6_bitCount_0f7a4 39 = .ok (.iadd, 1) := by decide +kernel
theorem dJ6_bitCount_0f7a4_40 : decode cJ6_bitCount_0f7a4 40 = .ok (.istore_n 0, 1) := by decide +kernel
theorem dJ6_bitCount_0f7a4_41 : decode cJ6_bitCount_0f7a4 41 = .ok (.iload_n 0, 1) := by decide +kernel
theorem dJ6_bitCount_0f7a4_42 : decode cJ6_bitCount_0f7a4 42 = .ok (.iload_n 0, 1) := by decide +kernel
theorem dJ6_bitCount_0f7a4_43 : decode cJ6_bitCount_0f7a4 43 = .ok (.bipush 16, 2) := by decide +kernel
theorem dJ6_bitCount_0f7a4_45 : decode cJ6_bitCount_0f7a4 45 = .ok (.iushr, 1) := by decide +kernel
theorem dJ6_bitCount_0f7a4_46 : decode cJ6_bitCount_0f7a4 46 = .ok (.iadd, 1) := by decide +kernel
theorem dJ6_bitCount_0f7a4_47 : decode cJ6_bitCount_0f7a4 47 = .ok (.istore_n 0, 1) := by decide +kernel
theorem dJ6_bitCount_0f7a4_48 : decode cJ6_bitCount_0f7a4 48 = .ok (.iload_n 0, 1) := by decide +kernel
theorem dJ6_bitCount_0f7a4_49 : decode cJ6_bitCount_0f7a4 49 = .ok (.bipush 63, 2) := by decide +kernel
theorem dJ6_bitCount_0f7a4_51 : decode cJ6_bitCount_0f7a4 51 = .ok (.iand, 1) := by decide +kernel
theorem dJ6_bitCount_0f7a4_52 : decode cJ6_bitCount_0f7a4 52 = .ok (.ireturn, 1) := by decide +kernel
theorem dJ7_fill_d0a16_0 : decode cJ7_fill_d0a16 0 = .ok (.iconst 0, 1) := by decide +kernel
theorem dJ7_fill_d0a16_1 : decode cJ7_fill_d0a16 1 = .ok (.istore_n 3, 1) := by decide +kernel
theorem dJ7_fill_d0a16_2 : decode cJ7_fill_d0a16 2 = .ok (.aload_n 0, 1) := by decide +kernel
theorem dJ7_fill_d0a16_3 : decode cJ7_fill_d0a16 3 = .ok (.arraylength, 1) := by decide +kernel
theorem dJ7_fill_d0a16_4 : decode cJ7_fill_d0a16 4 = .ok (.istore 4, 2) := by decide +kernel
theorem dJ7_fill_d0a16_6 : decode cJ7_fill_d0a16 6 = .ok (.iload_n 3, 1) := by decide +kernel
theorem dJ7_fill_d0a16_7 : decode cJ7_fill_d0a16 7 = .ok (.iload 4, 2) := by decide +kernel
theorem dJ7_fill_d0a16_9 : decode cJ7_fill_d0a16 9 = .ok (.if_icmp .ge 13, 3) := by decide +kernel
theorem dJ7_fill_d0a16_12 : decode cJ7_fill_d0a16 12 = .ok (.aload_n 0, 1) := by decide +kernel
theorem dJ7_fill_d0a16_13 : decode cJ7_fill_d0a16 13 = .ok (.iload_n 3, 1) := by decide +kernel
theorem dJ7_fill_d0a16_14 : decode cJ7_fill_d0a16 14 = .ok (.lload_n 1, 1) := by decide +kernel
theorem dJ7_fill_d0a16_15 : decode cJ7_fill_d0a16 15 = .ok (.lastore, 1) := by decide +kernel
theorem dJ7_fill_d0a16_16 : decode cJ7_fill_d0a16 16 = .ok (.iinc 3 1, 3) := by decide +kernel
theorem dJ7_fill_d0a16_19 : decode cJ7_fill_d0a16 19 = .ok (.goto (-13), 3) := by decide +kernel
theorem dJ7_fill_d0a16_22 : decode cJ7_fill_d0a16 22 = .ok (.return_, 1) := by decide +kernel
theorem dJ7_fill_53178_0 : decode cJ7_fill_53178 0 = .ok (.iconst 0, 1) := by decide +kernel
theorem dJ7_fill_53178_1 : decode cJ7_fill_53178 1 = .ok (.istore_n 2, 1) := by decide +kernel
theorem dJ7_fill_53178_2 : decode cJ7_fill_53178 2 = .ok (.aload_n 0, 1) := by decide +kernel
theorem dJ7_fill_53178_3 : decode cJ7_fill_53178 3 = .ok (.arraylength, 1) := by decide +kernel
theorem dJ7_fill_53178_4 : decode cJ7_fill_53178 4 = .ok (.istore_n 3, 1) := by decide +kernel
theorem dJ7_fill_53178_5 : decode cJ7_fill_53178 5 = .ok (.iload_n 2, 1) := by decide +kernel
theorem dJ7_fill_53178_6 : decode cJ7_fill_53178 6 = .ok (.iload_n 3, 1) := by decide +kernel
theorem dJ7_fill_53178_7 : decode cJ7_fill_53178 7 = .ok (.if_icmp .ge 13, 3) := by decide +kernel
theorem dJ7_fill_53178_10 : decode cJ7_fill_53178 10 = .ok (.aload_n 0, 1) := by decide +kernel
theorem dJ7_fill_53178_11 : decode cJ7_fill_53178 11 = .ok (.iload_n 2, 1) := by decide +kernel
theorem dJ7_fill_53178_12 : decode cJ7_fill_53178 12 = .ok (.iload_n 1, 1) := by decide +kernel
theorem dJ7_fill_53178_13 : decode cJ7_fill_53178 13 = .ok (.iastore, 1) := by decide +kernel
theorem dJ7_fill_53178_14 : decode cJ7_fill_53178 14 = .ok (.iinc 2 1, 3) := by decide +kernel
theorem dJ7_fill_53178_17 : decode cJ7_fill_53178 17 = .ok (.goto (-12), 3) := by decide +kernel
theorem dJ7_fill_53178_20 : decode cJ7_fill_53178 20 = .ok (.return_, 1) := by decide +kernel
theorem dJ9_floorMod_7cf53_0 : decode cJ9_floorMod_7cf53 0 = .ok (.iload_n 0, 1) := by decide +kernel
theorem dJ9_floorMod_7cf53_1 : decode cJ9_floorMod_7cf53 1 = .ok (.iload_n 1, 1) := by decide +kernel
theorem dJ9_floorMod_7cf53_2 : decode cJ9_floorMod_7cf53 2 = .ok (.irem, 1) := by decide +kernel
theorem dJ9_floorMod_7cf53_3 : decode cJ9_floorMod_7cf53 3 = .ok (.istore_n 2, 1) := by decide +kernel
theorem dJ9_floorMod_7cf53_4 : decode cJ9_floorMod_7cf53 4 = .ok (.iload_n 0, 1) := by decide +kernel
theorem dJ9_floorMod_7cf53_5 : decode cJ9_floorMod_7cf53 5 = .ok (.iload_n 1, 1) := by decide +kernel
theorem dJ9_floorMod_7cf53_6 : decode cJ9_floorMod_7cf53 6 = .ok (.ixor, 1) := by decide +kernel
theorem dJ9_floorMod_7cf53_7 : decode cJ9_floorMod_7cf53 7 = .ok (.ifCond .ge 11, 3) := by decide +kernel
theorem dJ9_floorMod_7cf53_10 : decode cJ9_floorMod_7cf53 10 = .ok (.iload_n 2, 1) := by decide +kernel
theorem dJ9_floorMod_7cf53_11 : decode cJ9_floorMod_7cf53 11 = .ok (.ifCond .eq 7, 3) := by decide +kernel
theorem dJ9_floorMod_7cf53_14 : decode cJ9_floorMod_7cf53 14 = .ok (.iload_n 2, 1) := by decide +kernel
theorem dJ9_floorMod_7cf53_15 : decode cJ9_floorMod_7cf53 15 = .ok (.iload_n 1, 1) := by decide +kernel
theorem dJ9_floorMod_7cf53_16 : decode cJ9_floorMod_7cf53 16 = .ok (.iadd, 1) := by decide +kernel
theorem dJ9_floorMod_7cf53_17 : decode cJ9_floorMod_7cf53 17 = .ok (.ireturn, 1) := by decide +kernel
theorem dJ9_floorMod_7cf53_18 : decode cJ9_floorMod_7cf53 18 = .ok (.iload_n 2, 1) := by decide +kernel
theorem dJ9_floorMod_7cf53_19 : decode cJ9_floorMod_7cf53 19 = .ok (.ireturn, 1) := by decide +kernel
theorem dJ9_abs_0f7a4_0 : decode cJ9_abs_0f7a4 0 = .ok (.iload_n 0, 1) := by decide +kernel
theorem dJ9_abs_0f7a4_1 : decode cJ9_abs_0f7a4 1 = .ok (.ifCond .ge 8, 3) := by decide +kernel
theorem dJ9_abs_0f7a4_4 : decode cJ9_abs_0f7a4 4 = .ok (.iload_n 0, 1) := by decide +kernel
theorem dJ9_abs_0f7a4_5 : decode cJ9_abs_0f7a4 5 = .ok (.ineg, 1) := by decide +kernel
theorem dJ9_abs_0f7a4_6 : decode cJ9_abs_0f7a4 6 = .ok (.goto 4, 3) := by decide +kernel
theorem dJ9_abs_0f7a4_9 : decode cJ9_abs_0f7a4 9 = .ok (.iload_n 0, 1) := by decide +kernel
theorem dJ9_abs_0f7a4_10 : decode cJ9_abs_0f7a4 10 = .ok (.ireturn, 1) := by decide +kernel
theorem dJ9_abs_067f4_0 : decode cJ9_abs_067f4 0 = .ok (.lload_n 0, 1) := by decide +kernel
theorem dJ9_abs_067f4_1 : decode cJ9_abs_067f4 1 = .ok (.lconst 0, 1) := by decide +kernel
theorem dJ9_abs_067f4_2 : decode cJ9_abs_067f4 2 = .ok (.lcmp, 1) := by decide +kernel
theorem dJ9_abs_067f4_3 : decode cJ9_abs_067f4 3 = .ok (.ifCond .ge 8, 3) := by decide +kernel
theorem dJ9_abs_067f4_6 : decode cJ9_abs_067f4 6 = .ok (.lload_n 0, 1) := by decide +kernel
theorem dJ9_abs_067f4_7 : decode cJ9_abs_067f4 7 = .ok (.lneg, 1) := by decide +kernel
theorem dJ9_abs_067f4_8 : decode cJ9_abs_067f4 8 = .ok (.goto 4, 3) := by decide +kernel
theorem dJ9_abs_067f4_11 : decode cJ9_abs_067f4 11 = .ok (.lload_n 0, 1) := by decide +kernel
theorem dJ9_abs_067f4_12 : decode cJ9_abs_067f4 12 = .ok (.lreturn, 1) := by decide +kernel
theorem dJ9_max_7cf53_0 : decode cJ9_max_7cf53 0 = .ok (.iload_n 0, 1) := by decide +kernel
theorem dJ9_max_7cf53_1 : decode cJ9_max_7cf53 1 = .ok (.iload_n 1, 1) := by decide +kernel
theorem dJ9_max_7cf53_2 : decode cJ9_max_7cf53 2 = .ok (.if_icmp .lt 7, 3) := by decide +kernel
theorem dJ9_max_7cf53_5 : decode cJ9_max_7cf53 5 = .ok (.iload_n 0, 1) := by decide +kernel
theorem dJ9_max_7cf53_6 : decode cJ9_max_7cf53 6 = .ok (.goto 4, 3) := by decide +kernel
theorem dJ9_max_7cf53_9 : decode cJ9_max_7cf53 9 = .ok (.iload_n 1, 1) := by decide +kernel
theorem dJ9_max_7cf53_10 : decode cJ9_max_7cf53 10 = .ok (.ireturn, 1) := by decide +kernel
theorem dJ9_max_f86c9_0 : decode cJ9_max_f86c9 0 = .ok (.lload_n 0, 1) := by decide +kernel
theorem dJ9_max_f86c9_1 : decode cJ9_max_f86c9 1 = .ok (.lload_n 2, 1) := by decide +kernel
theorem dJ9_max_f86c9_2 : decode cJ9_max_f86c9 2 = .ok (.lcmp, 1) := by decide +kernel
theorem dJ9_max_f86c9_3 : decode cJ9_max_f86c9 3 = .ok (.ifCond .lt 7, 3) := by decide +kernel
theorem dJ9_max_f86c9_6 : decode cJ9_max_f86c9 6 = .ok (.lload_n 0, 1) := by decide +kernel
theorem dJ9_max_f86c9_7 : decode cJ9_max_f86c9 7 = .ok (.goto 4, 3) := by decide +kernel
theorem dJ9_max_f86c9_10 : decode cJ9_max_f86c9 10 = .ok (.lload_n 2, 1) := by decide +kernel
theorem dJ9_max_f86c9_11 : decode cJ9_max_f86c9 11 = .ok (.lreturn, 1) := by decide +kernel
theorem dJ9_min_7cf53_0 : decode cJ9_min_7cf53 0 = .ok (.iload_n 0, 1) := by decide +kernel
theorem dJ9_min_7cf53_1 : decode cJ9_min_7cf53 1 = .ok (.iload_n 1, 1) := by decide +kernel
theorem dJ9_min_7cf53_2 : decode cJ9_min_7cf53 2 = .ok (.if_icmp .gt 7, 3) := by decide +kernel
theorem dJ9_min_7cf53_5 : decode cJ9_min_7cf53 5 = .ok (.iload_n 0, 1) := by decide +kernel
theorem dJ9_min_7cf53_6 : decode cJ9_min_7cf53 6 = .ok (.goto 4, 3) := by decide +kernel
theorem dJ9_min_7cf53_9 : decode cJ9_min_7cf53 9 = .ok (.iload_n 1, 1) := by decide +kernel
theorem dJ9_min_7cf53_10 : decode cJ9_min_7cf53 10 = .ok (.ireturn, 1) := by decide +kernel
theorem dJ9_min_f86c9_0 : decode cJ9_min_f86c9 0 = .ok (.lload_n 0, 1) := by decide +kernel
theorem dJ9_min_f86c9_1 : decode cJ9_min_f86c9 1 = .ok (.lload_n 2, 1) := by decide +kernel
theorem dJ9_min_f86c9_2 : decode cJ9_min_f86c9 2 = .ok (.lcmp, 1) := by decide +kernel
theorem dJ9_min_f86c9_3 : decode cJ9_min_f86c9 3 = .ok (.ifCond .gt 7, 3) := by decide +kernel
theorem dJ9_min_f86c9_6 : decode cJ9_min_f86c9 6 = .ok (.lload_n 0, 1) := by decide +kernel
theorem dJ9_min_f86c9_7 : decode cJ9_min_f86c9 7 = .ok (.goto 4, 3) := by decide +kernel
theorem dJ9_min_f86c9_10 : decode cJ9_min_f86c9 10 = .ok (.lload_n 2, 1) := by decide +kernel
theorem dJ9_min_f86c9_11 : decode cJ9_min_f86c9 11 = .ok (.lreturn, 1) := by decide +kernel
theorem dX0_init_0 : decode cX0_init 0 = .ok (.aload_n 0, 1) := by decide +kernel
theorem dX0_init_1 : decode cX0_init 1 = .ok (.invokespecial 3, 3) := by decide +kernel
theorem dX0_init_4 : decode cX0_init 4 = .ok (.aload_n 0, 1) := by decide +kernel
theorem dX0_init_5 : decode cX0_init 5 = .ok (.iconst 0, 1) := by decide +kernel
theorem dX0_init_6 : decode cX0_init 6 = .ok (.putfield 9, 3) := by decide +kernel
theorem dX0_init_9 : decode cX0_init 9 = .ok (.aload_n 0, 1) := by decide +kernel
theorem dX0_init_10 : decode cX0_init 10 = .ok (.iconst 0, 1) := by decide +kernel
theorem dX0_init_11 : decode cX0_init 11 = .ok (.putfield 15, 3) := by decide +kernel
theorem dX0_init_14 : decode cX0_init 14 = .ok (.aload_n 0, 1) := by decide +kernel
theorem dX0_init_15 : decode cX0_init 15 = .ok (.aload_n 1, 1) := by decide +kernel
theorem dX0_init_16 : decode cX0_init 16 = .ok (.putfield 18, 3) := by decide +kernel
theorem dX0_init_19 : decode cX0_init 19 = .ok (.aload_n 0, 1) := by decide +kernel
theorem dX0_init_20 : decode cX0_init 20 = .ok (.new 22, 3) := by decide +kernel
theorem dX0_init_23 : decode cX0_init 23 = .ok (.dup, 1) := by decide +kernel
theorem dX0_init_24 : decode cX0_init 24 = .ok (.aload_n 1, 1) := by decide +kernel
theorem dX0_init_25 : decode cX0_init 25 = .ok (.invokespecial 24, 3) := by decide +kernel
theorem dX0_init_28 : decode cX0_init 28 = .ok (.putfield 27, 3) := by decide +kernel
theorem dX0_init_31 : decode cX0_init 31 = .ok (.return_, 1) := by decide +kernel
theorem dX0_lightOn_0 : decode cX0_lightOn 0 = .ok (.aload_n 0, 1) := by decide +kernel
theorem dX0_lightOn_1 : decode cX0_lightOn 1 = .ok (.getfield 18, 3) := by decide +kernel
theorem dX0_lightOn_4 : decode cX0_lightOn 4 = .ok (.iload_n 2, 1) := by decide +kernel
theorem dX0_lightOn_5 : decode cX0_lightOn 5 = .ok (.invokevirtual 31, 3) := by decide +kernel
theorem dX0_lightOn_8 : decode cX0_lightOn 8 = .ok (.ifCond .eq 14, 3) := by decide +kernel
theorem dX0_lightOn_11 : decode cX0_lightOn 11 = .ok (.aload_n 0, 1) := by decide +kernel
theorem dX0_lightOn_12 : decode cX0_lightOn 12 = .ok (.getfield 18, 3) := by decide +kernel
theorem dX0_lightOn_15 : decode cX0_lightOn 15 = .ok (.iload_n 3, 1) := by decide +kernel
theorem dX0_lightOn_16 : decode cX0_lightOn 16 = .ok (.invokevirtual 37, 3) := by decide +kernel
theorem dX0_lightOn_19 : decode cX0_lightOn 19 = .ok (.ifCond .ne 5, 3) := by decide +kernel
theorem dX0_lightOn_22 : decode cX0_lightOn 22 = .ok (.iconst 1, 1) := by decide +kernel
theorem dX0_lightOn_23 : decode cX0_lightOn 23 = .ok (.ireturn, 1) := by decide +kernel
theorem dX0_lightOn_24 : decode cX0_lightOn 24 = .ok (.aload_n 1, 1) := by decide +kernel
theorem dX0_lightOn_25 : decode cX0_lightOn 25 = .ok (.iload_n 2, 1) := by decide +kernel
theorem dX0_lightOn_26 : decode cX0_lightOn 26 = .ok (.iload_n 3, 1) := by decide +kernel
theorem dX0_lightOn_27 : decode cX0_lightOn 27 = .ok (.invokevirtual 40, 3) := by decide +kernel
theorem dX0_lightOn_30 : decode cX0_lightOn 30 = .ok (.ifCond .ne 13, 3) := by decide +kernel
theorem dX0_lightOn_33 : decode cX0_lightOn 33 = .ok (.aload_n 1, 1) := by decide +kernel
theorem dX0_lightOn_34 : decode cX0_lightOn 34 = .ok (.getfield 46, 3) := by decide +kernel
theorem dX0_lightOn_37 : decode cX0_lightOn 37 = .ok (.iload_n 2, 1) := by decide +kernel
theorem dX0_lightOn_38 : decode cX0_lightOn 38 = .ok (.iaload, 1) := by decide +kernel
theorem dX0_lightOn_39 : decode cX0_lightOn 39 = .ok (.iload_n 3, 1) := by decide +kernel
theorem dX0_lightOn_40 : decode cX0_lightOn 40 = .ok (.if_icmp .ne 5, 3) := by decide +kernel
theorem dX0_lightOn_43 : decode cX0_lightOn 43 = .ok (.iconst 2, 1) := by decide +kernel
theorem dX0_lightOn_44 : decode cX0_lightOn 44 = .ok (.ireturn, 1) := by decide +kernel
theorem dX0_lightOn_45 : decode cX0_lightOn 45 = .ok (.aload_n 1, 1) := by decide +kernel
theorem dX0_lightOn_46 : decode cX0_lightOn 46 = .ok (.getfield 50, 3) := by decide +kernel
theorem dX0_lightOn_49 : decode cX0_lightOn 49 = .ok (.iload_n 2, 1) := by decide +kernel
theorem dX0_lightOn_50 : decode cX0_lightOn 50 = .ok (.dup2, 1) := by decide +kernel
theorem dX0_lightOn_51 : decode cX0_lightOn 51 = .ok (.iaload, 1) := by decide +kernel
theorem dX0_lightOn_52 : decode cX0_lightOn 52 = .ok (.iconst 1, 1) := by decide +kernel
theorem dX0_lightOn_53 : decode cX0_lightOn 53 = .ok (.iload_n 3, 1) := by decide +kernel
theorem dX0_lightOn_54 : decode cX0_lightOn 54 = .ok (.ishl, 1) := by decide +kernel
theorem dX0_lightOn_55 : decode cX0_lightOn 55 = .ok (.ior, 1) := by decide +kernel
theorem dX0_lightOn_56 : decode cX0_lightOn 56 = .ok (.iastore, 1) := by decide +kernel
theorem dX0_lightOn_57 : decode cX0_lightOn 57 = .ok (.iconst 0, 1) := by decide +kernel
theorem dX0_lightOn_58 : decode cX0_lightOn 58 = .ok (.ireturn, 1) := by decide +kernel
theorem dX0_lightOff_0 : decode cX0_lightOff 0 = .ok (.aload_n 0, 1) := by decide +kernel
theorem dX0_lightOff_1 : decode cX0_lightOff 1 = .ok (.getfield 18, 3) := by decide +kernel
theorem dX0_lightOff_4 : decode cX0_lightOff 4 = .ok (.iload_n 2, 1) := by decide +kernel
theorem dX0_lightOff_5 : decode cX0_lightOff 5 = .ok (.invokevirtual 31, 3) := by decide +kernel
theorem dX0_lightOff_8 : decode cX0_lightOff 8 = .ok (.ifCond .eq 14, 3) := by decide +kernel
theorem dX0_lightOff_11 : decode cX0_lightOff 11 = .ok (.aload_n 0, 1) := by decide +kernel
theorem dX0_lightOff_12 : decode cX0_lightOff 12 = .ok (.getfield 18, 3) := by decide +kernel
theorem dX0_lightOff_15 : decode cX0_lightOff 15 = .ok (.iload_n 3, 1) := by decide +kernel
theorem dX0_lightOff_16 : decode cX0_lightOff 16 = .ok (.invokevirtual 37, 3) := by decide +kernel
theorem dX0_lightOff_19 : decode cX0_lightOff 19 = .ok (.ifCond .ne 5, 3) := by decide +kernel
theorem dX0_lightOff_22 : decode cX0_lightOff 22 = .ok (.iconst 1, 1) := by decide +kernel
theorem dX0_lightOff_23 : decode cX0_lightOff 23 = .ok (.ireturn, 1) := by decide +kernel
theorem dX0_lightOff_24 : decode cX0_lightOff 24 = .ok (.aload_n 1, 1) := by decide +kernel
theorem dX0_lightOff_25 : decode cX0_lightOff 25 = .ok (.iload_n 2, 1) := by decide +kernel
theorem dX0_lightOff_26 : decode cX0_lightOff 26 = .ok (.iload_n 3, 1) := by decide +kernel
theorem dX0_lightOff_27 : decode cX0_lightOff 27 = .ok (.invokevirtual 40, 3) := by decide +kernel
theorem dX0_lightOff_30 : decode cX0_lightOff 30 = .ok (.ifCond .ne 5, 3) := by decide +kernel
theorem dX0_lightOff_33 : decode cX0_lightOff 33 = .ok (.iconst 2, 1) := by decide +kernel
theorem dX0_lightOff_34 : decode cX0_lightOff 34 = .ok (.ireturn, 1) := by decide +kernel
theorem dX0_lightOff_35 : decode cX0_lightOff 35 = .ok (.aload_n 1, 1) := by decide +kernel
theorem dX0_lightOff_36 : decode cX0_lightOff 36 = .ok (.getfield 50, 3) := by decide +kernel
theorem dX0_lightOff_39 : decode cX0_lightOff 39 = .ok (.iload_n 2, 1) := by decide +kernel
theorem dX0_lightOff_40 : decode cX0_lightOff 40 = .ok (.dup2, 1) := by decide +kernel
theorem dX0_lightOff_41 : decode cX0_lightOff 41 = .ok (.iaload, 1) := by decide +kernel
theorem dX0_lightOff_42 : decode cX0_lightOff 42 = .ok (.iconst 1, 1) := by decide +kernel
theorem dX0_lightOff_43 : decode cX0_lightOff 43 = .ok (.iload_n 3, 1) := by decide +kernel
theorem dX0_lightOff_44 : decode cX0_lightOff 44 = .ok (.ishl, 1) := by decide +kernel
theorem dX0_lightOff_45 : decode cX0_lightOff 45 = .ok (.ixor, 1) := by decide +kernel
theorem dX0_lightOff_46 : decode cX0_lightOff 46 = .ok (.iastore, 1) := by decide +kernel
theorem dX0_lightOff_47 : decode cX0_lightOff 47 = .ok (.iconst 0, 1) := by decide +kernel
theorem dX0_lightOff_48 : decode cX0_lightOff 48 = .ok (.ireturn, 1) := by decide +kernel
theorem dX0_rideOnce_0 : decode cX0_rideOnce 0 = .ok (.aload_n 0, 1) := by decide +kernel
theorem dX0_rideOnce_1 : decode cX0_rideOnce 1 = .ok (.getfield 18, 3) := by decide +kernel
theorem dX0_rideOnce_4 : decode cX0_rideOnce 4 = .ok (.iload_n 2, 1) := by decide +kernel
theorem dX0_rideOnce_5 : decode cX0_rideOnce 5 = .ok (.invokevirtual 31, 3) := by decide +kernel
theorem dX0_rideOnce_8 : decode cX0_rideOnce 8 = .ok (.ifCond .ne 5, 3) := by decide +kernel
theorem dX0_rideOnce_11 : decode cX0_rideOnce 11 = .ok (.iconst 1, 1) := by decide +kernel
theorem dX0_rideOnce_12 : decode cX0_rideOnce 12 = .ok (.ireturn, 1) := by decide +kernel
theorem dX0_rideOnce_13 : decode cX0_rideOnce 13 = .ok (.aload_n 0, 1) := by decide +kernel
theorem dX0_rideOnce_14 : decode cX0_rideOnce 14 = .ok (.getfield 27, 3) := by decide +kernel
theorem dX0_rideOnce_17 : decode cX0_rideOnce 17 = .ok (.aload_n 1, 1) := by decide +kernel
theorem dX0_rideOnce_18 : decode cX0_rideOnce 18 = .ok (.iload_n 2, 1) := by decide +kernel
theorem dX0_rideOnce_19 : decode cX0_rideOnce 19 = .ok (.invokevirtual 53, 3) := by decide +kernel
theorem dX0_rideOnce_22 : decode cX0_rideOnce 22 = .ok (.aload_n 0, 1) := by decide +kernel
theorem dX0_rideOnce_23 : decode cX0_rideOnce 23 = .ok (.getfield 27, 3) := by decide +kernel
theorem dX0_rideOnce_26 : decode cX0_rideOnce 26 = .ok (.invokevirtual 57, 3) := by decide +kernel
theorem dX0_rideOnce_29 : decode cX0_rideOnce 29 = .ok (.ifCond .ne 5, 3) := by decide +kernel
theorem dX0_rideOnce_32 : decode cX0_rideOnce 32 = .ok (.iconst 2, 1) := by decide +kernel
theorem dX0_rideOnce_33 : decode cX0_rideOnce 33 = .ok (.ireturn, 1) := by decide +kernel
theorem dX0_rideOnce_34 : decode cX0_rideOnce 34 = .ok (.aload_n 1, 1) := by decide +kernel
theorem dX0_rideOnce_35 : decode cX0_rideOnce 35 = .ok (.getfield 46, 3) := by decide +kernel
theorem dX0_rideOnce_38 : decode cX0_rideOnce 38 = .ok (.iload_n 2, 1) := by decide +kernel
theorem dX0_rideOnce_39 : decode cX0_rideOnce 39 = .ok (.aload_n 0, 1) := by decide +kernel
theorem dX0_rideOnce_40 : decode cX0_rideOnce 40 = .ok (.getfield 27, 3) := by decide +kernel
theorem dX0_rideOnce_43 : decode cX0_rideOnce 43 = .ok (.getfield 61, 3) := by decide +kernel
theorem dX0_rideOnce_46 : decode cX0_rideOnce 46 = .ok (.iastore, 1) := by decide +kernel
theorem dX0_rideOnce_47 : decode cX0_rideOnce 47 = .ok (.aload_n 1, 1) := by decide +kernel
theorem dX0_rideOnce_48 : decode cX0_rideOnce 48 = .ok (.getfield 64, 3) := by decide +kernel
theorem dX0_rideOnce_51 : decode cX0_rideOnce 51 = .ok (.iload_n 2, 1) := by decide +kernel
theorem dX0_rideOnce_52 : decode cX0_rideOnce 52 = .ok (.aload_n 0, 1) := by decide +kernel
theorem dX0_rideOnce_53 : decode cX0_rideOnce 53 = .ok (.getfield 27, 3) := by decide +kernel
theorem dX0_rideOnce_56 : decode cX0_rideOnce 56 = .ok (.getfield 67, 3) := by decide +kernel
theorem dX0_rideOnce_59 : decode cX0_rideOnce 59 = .ok (.iastore, 1) := by decide +kernel
theorem dX0_rideOnce_60 : decode cX0_rideOnce 60 = .ok (.aload_n 1, 1) := by decide +kernel
theorem dX0_rideOnce_61 : decode cX0_rideOnce 61 = .ok (.getfield 50, 3) := by decide +kernel
theorem dX0_rideOnce_64 : decode cX0_rideOnce 64 = .ok (.iload_n 2, 1) := by decide +kernel
theorem dX0_rideOnce_65 : decode cX0_rideOnce 65 = .ok (.aload_n 0, 1) := by decide +kernel
theorem dX0_rideOnce_66 : decode cX0_rideOnce 66 = .ok (.getfield 27, 3) := by decide +kernel
theorem dX0_rideOnce_69 : decode cX0_rideOnce 69 = .ok (.getfield 70, 3) := by decide +kernel
theorem dX0_rideOnce_72 : decode cX0_rideOnce 72 = .ok (.iastore, 1) := by decide +kernel
theorem dX0_rideOnce_73 : decode cX0_rideOnce 73 = .ok (.aload_n 1, 1) := by decide +kernel
theorem dX0_rideOnce_74 : decode cX0_rideOnce 74 = .ok (.getfield 72, 3) := by decide +kernel
theorem dX0_rideOnce_77 : decode cX0_rideOnce 77 = .ok (.iload_n 2, 1) := by decide +kernel
theorem dX0_rideOnce_78 : decode cX0_rideOnce 78 = .ok (.aload_n 0, 1) := by decide +kernel
theorem dX0_rideOnce_79 : decode cX0_rideOnce 79 = .ok (.getfield 27, 3) := by decide +kernel
theorem dX0_rideOnce_82 : decode cX0_rideOnce 82 = .ok (.getfield 75, 3) := by decide +kernel
theorem dX0_rideOnce_85 : decode cX0_rideOnce 85 = .ok (.iastore, 1) := by decide +kernel
theorem dX0_rideOnce_86 : decode cX0_rideOnce 86 = .ok (.iconst 0, 1) := by decide +kernel
theorem dX0_rideOnce_87 : decode cX0_rideOnce 87 = .ok (.istore_n 3, 1) := by decide +kernel
theorem dX0_rideOnce_88 : decode cX0_rideOnce 88 = .ok (.iload_n 3, 1) := by decide +kernel
theorem dX0_rideOnce_89 : decode cX0_rideOnce 89 = .ok (.aload_n 0, 1) := by decide +kernel
theorem dX0_rideOnce_90 : decode cX0_rideOnce 90 = .ok (.getfield 18, 3) := by decide +kernel
theorem dX0_rideOnce_93 : decode cX0_rideOnce 93 = .ok (.getfield 77, 3) := by decide +kernel
theorem dX0_rideOnce_96 : decode cX0_rideOnce 96 = .ok (.if_icmp .ge 45, 3) := by decide +kernel
theorem dX0_rideOnce_99 : decode cX0_rideOnce 99 = .ok (.aload_n 1, 1) := by decide +kernel
theorem dX0_rideOnce_100 : decode cX0_rideOnce 100 = .ok (.getfield 80, 3) := by decide +kernel
theorem dX0_rideOnce_103 : decode cX0_rideOnce 103 = .ok (.iload_n 3, 1) := by decide +kernel
theorem dX0_rideOnce_104 : decode cX0_rideOnce 104 = .ok (.iaload, 1) := by decide +kernel
theorem dX0_rideOnce_105 : decode cX0_rideOnce 105 = .ok (.iload_n 2, 1) := by decide +kernel
theorem dX0_rideOnce_106 : decode cX0_rideOnce 106 = .ok (.if_icmp .ne 29, 3) := by decide +kernel
theorem dX0_rideOnce_109 : decode cX0_rideOnce 109 = .ok (.aload_n 1, 1) := by decide +kernel
theorem dX0_rideOnce_110 : decode cX0_rideOnce 110 = .ok (.getfield 83, 3) := by decide +kernel
theorem dX0_rideOnce_113 : decode cX0_rideOnce 113 = .ok (.iload_n 3, 1) := by decide +kernel
theorem dX0_rideOnce_114 : decode cX0_rideOnce 114 = .ok (.aload_n 0, 1) := by decide +kernel
theorem dX0_rideOnce_115 : decode cX0_rideOnce 115 = .ok (.getfield 27, 3) := by decide +kernel
theorem dX0_rideOnce_118 : decode cX0_rideOnce 118 = .ok (.getfield 61, 3) := by decide +kernel
theorem dX0_rideOnce_121 : decode cX0_rideOnce 121 = .ok (.iastore, 1) := by decide +kernel
theorem dX0_rideOnce_122 : decode cX0_rideOnce 122 = .ok (.aload_n 1, 1) := by decide +kernel
theorem dX0_rideOnce_123 : decode cX0_rideOnce 123 = .ok (.getfield 86, 3) := by decide +kernel
theorem dX0_rideOnce_126 : decode cX0_rideOnce 126 = .ok (.iload_n 3, 1) := by decide +kernel
theorem dX0_rideOnce_127 : decode cX0_rideOnce 127 = .ok (.aload_n 0, 1) := by decide +kernel
theorem dX0_rideOnce_128 : decode cX0_rideOnce 128 = .ok (.getfield 27, 3) := by decide +kernel
theorem dX0_rideOnce_131 : decode cX0_rideOnce 131 = .ok (.getfield 89, 3) := by decide +kernel
theorem dX0_rideOnce_134 : decode cX0_rideOnce 134 = .ok (.iastore, 1) := by decide +kernel
theorem dX0_rideOnce_135 : decode cX0_rideOnce 135 = .ok (.iinc 3 1, 3) := by decide +kernel
theorem dX0_rideOnce_138 : decode cX0_rideOnce 138 = .ok (.goto (-50), 3) := by decide +kernel
theorem dX0_rideOnce_141 : decode cX0_rideOnce 141 = .ok (.iconst 0, 1) := by decide +kernel
theorem dX0_rideOnce_142 : decode cX0_rideOnce 142 = .ok (.ireturn, 1) := by decide +kernel
theorem dX0_getOut_0 : decode cX0_getOut 0 = .ok (.aload_n 0, 1) := by decide +kernel
theorem dX0_getOut_1 : decode cX0_getOut 1 = .ok (.getfield 18, 3) := by decide +kernel
theorem dX0_getOut_4 : decode cX0_getOut 4 = .ok (.iload_n 2, 1) := by decide +kernel
theorem dX0_getOut_5 : decode cX0_getOut 5 = .ok (.invokevirtual 92, 3) := by decide +kernel
theorem dX0_getOut_8 : decode cX0_getOut 8 = .ok (.ifCond .ne 5, 3) := by decide +kernel
theorem dX0_getOut_11 : decode cX0_getOut 11 = .ok (.iconst 1, 1) := by decide +kernel
theorem dX0_getOut_12 : decode cX0_getOut 12 = .ok (.ireturn, 1) := by decide +kernel
theorem dX0_getOut_13 : decode cX0_getOut 13 = .ok (.aload_n 1, 1) := by decide +kernel
theorem dX0_getOut_14 : decode cX0_getOut 14 = .ok (.getfield 80, 3) := by decide +kernel
theorem dX0_getOut_17 : decode cX0_getOut 17 = .ok (.iload_n 2, 1) := by decide +kernel
theorem dX0_getOut_18 : decode cX0_getOut 18 = .ok (.iaload, 1) := by decide +kernel
theorem dX0_getOut_19 : decode cX0_getOut 19 = .ok (.iconst (-1), 1) := by decide +kernel
theorem dX0_getOut_20 : decode cX0_getOut 20 = .ok (.if_icmp .ne 5, 3) := by decide +kernel
theorem dX0_getOut_23 : decode cX0_getOut 23 = .ok (.iconst 2, 1) := by decide +kernel
theorem dX0_getOut_24 : decode cX0_getOut 24 = .ok (.ireturn, 1) := by decide +kernel
theorem dX0_getOut_25 : decode cX0_getOut 25 = .ok (.aload_n 1, 1) := by decide +kernel
theorem dX0_getOut_26 : decode cX0_getOut 26 = .ok (.getfield 80, 3) := by decide +kernel
theorem dX0_getOut_29 : decode cX0_getOut 29 = .ok (.iload_n 2, 1) := by decide +kernel
theorem dX0_getOut_30 : decode cX0_getOut 30 = .ok (.iconst (-1), 1) := by decide +kernel
theorem dX0_getOut_31 : decode cX0_getOut 31 = .ok (.iastore, 1) := by decide +kernel
theorem dX0_getOut_32 : decode cX0_getOut 32 = .ok (.iconst 0, 1) := by decide +kernel
theorem dX0_getOut_33 : decode cX0_getOut 33 = .ok (.ireturn, 1) := by decide +kernel
theorem dX0_getIn_0 : decode cX0_getIn 0 = .ok (.aload_n 0, 1) := by decide +kernel
theorem dX0_getIn_1 : decode cX0_getIn 1 = .ok (.getfield 18, 3) := by decide +kernel
theorem dX0_getIn_4 : decode cX0_getIn 4 = .ok (.iload_n 2, 1) := by decide +kernel
theorem dX0_getIn_5 : decode cX0_getIn 5 = .ok (.invokevirtual 92, 3) := by decide +kernel
theorem dX0_getIn_8 : decode cX0_getIn 8 = .ok (.ifCond .eq 14, 3) := by decide +kernel
theorem dX0_getIn_11 : decode cX0_getIn 11 = .ok (.aload_n 0, 1) := by decide +kernel
theorem dX0_getIn_12 : decode cX0_getIn 12 = .ok (.getfield 18, 3) := by decide +kernel
theorem dX0_getIn_15 : decode cX0_getIn 15 = .ok (.iload_n 3, 1) := by decide +kernel
theorem dX0_getIn_16 : decode cX0_getIn 16 = .ok (.invokevirtual 31, 3) := by decide +kernel
theorem dX0_getIn_19 : decode cX0_getIn 19 = .ok (.ifCond .ne 5, 3) := by decide +kernel
theorem dX0_getIn_22 : decode cX0_getIn 22 = .ok (.iconst 1, 1) := by decide +kernel
theorem dX0_getIn_23 : decode cX0_getIn 23 = .ok (.ireturn, 1) := by decide +kernel
theorem dX0_getIn_24 : decode cX0_getIn 24 = .ok (.aload_n 1, 1) := by decide +kernel
theorem dX0_getIn_25 : decode cX0_getIn 25 = .ok (.getfield 80, 3) := by decide +kernel
theorem dX0_getIn_28 : decode cX0_getIn 28 = .ok (.iload_n 2, 1) := by decide +kernel
theorem dX0_getIn_29 : decode cX0_getIn 29 = .ok (.iaload, 1) := by decide +kernel
theorem dX0_getIn_30 : decode cX0_getIn 30 = .ok (.iconst (-1), 1) := by decide +kernel
theorem dX0_getIn_31 : decode cX0_getIn 31 = .ok (.if_icmp .eq 5, 3) := by decide +kernel
theorem dX0_getIn_34 : decode cX0_getIn 34 = .ok (.iconst 2, 1) := by decide +kernel
theorem dX0_getIn_35 : decode cX0_getIn 35 = .ok (.ireturn, 1) := by decide +kernel
theorem dX0_getIn_36 : decode cX0_getIn 36 = .ok (.aload_n 1, 1) := by decide +kernel
theorem dX0_getIn_37 : decode cX0_getIn 37 = .ok (.getfield 83, 3) := by decide +kernel
theorem dX0_getIn_40 : decode cX0_getIn 40 = .ok (.iload_n 2, 1) := by decide +kernel
theorem dX0_getIn_41 : decode cX0_getIn 41 = .ok (.iaload, 1) := by decide +kernel
theorem dX0_getIn_42 : decode cX0_getIn 42 = .ok (.aload_n 1, 1) := by decide +kernel
theorem dX0_getIn_43 : decode cX0_getIn 43 = .ok (.getfield 46, 3) := by decide +kernel
theorem dX0_getIn_46 : decode cX0_getIn 46 = .ok (.iload_n 3, 1) := by decide +kernel
theorem dX0_getIn_47 : decode cX0_getIn 47 = .ok (.iaload, 1) := by decide +kernel
theorem dX0_getIn_48 : decode cX0_getIn 48 = .ok (.if_icmp .eq 5, 3) := by decide +kernel
theorem dX0_getIn_51 : decode cX0_getIn 51 = .ok (.iconst 3, 1) := by decide +kernel
theorem dX0_getIn_52 : decode cX0_getIn 52 = .ok (.ireturn, 1) := by decide +kernel
theorem dX0_getIn_53 : decode cX0_getIn 53 = .ok (.aload_n 1, 1) := by decide +kernel
theorem dX0_getIn_54 : decode cX0_getIn 54 = .ok (.getfield 80, 3) := by decide +kernel
theorem dX0_getIn_57 : decode cX0_getIn 57 = .ok (.iload_n 2, 1) := by decide +kernel
theorem dX0_getIn_58 : decode cX0_getIn 58 = .ok (.iload_n 3, 1) := by decide +kernel
theorem dX0_getIn_59 : decode cX0_getIn 59 = .ok (.iastore, 1) := by decide +kernel
theorem dX0_getIn_60 : decode cX0_getIn 60 = .ok (.aload_n 1, 1) := by decide +kernel
theorem dX0_getIn_61 : decode cX0_getIn 61 = .ok (.getfield 64, 3) := by decide +kernel
theorem dX0_getIn_64 : decode cX0_getIn 64 = .ok (.iload_n 3, 1) := by decide +kernel
theorem dX0_getIn_65 : decode cX0_getIn 65 = .ok (.aload_n 1, 1) := by decide +kernel
theorem dX0_getIn_66 : decode cX0_getIn 66 = .ok (.getfield 64, 3) := by decide +kernel
theorem dX0_getIn_69 : decode cX0_getIn 69 = .ok (.iload_n 3, 1) := by decide +kernel
theorem dX0_getIn_70 : decode cX0_getIn 70 = .ok (.iaload, 1) := by decide +kernel
theorem dX0_getIn_71 : decode cX0_getIn 71 = .ok (.aload_n 1, 1) := by decide +kernel
theorem dX0_getIn_72 : decode cX0_getIn 72 = .ok (.getfield 86, 3) := by decide +kernel
theorem dX0_getIn_75 : decode cX0_getIn 75 = .ok (.iload_n 2, 1) := by decide +kernel
theorem dX0_getIn_76 : decode cX0_getIn 76 = .ok (.iaload, 1) := by decide +kernel
theorem dX0_getIn_77 : decode cX0_getIn 77 = .ok (.invokestatic 95, 3) := by decide +kernel
theorem dX0_getIn_80 : decode cX0_getIn 80 = .ok (.iastore, 1) := by decide +kernel
theorem dX0_getIn_81 : decode cX0_getIn 81 = .ok (.iconst 0, 1) := by decide +kernel
theorem dX0_getIn_82 : decode cX0_getIn 82 = .ok (.ireturn, 1) := by decide +kernel
theorem dX0_walkTo_0 : decode cX0_walkTo 0 = .ok (.aload_n 0, 1) := by decide +kernel
theorem dX0_walkTo_1 : decode cX0_walkTo 1 = .ok (.getfield 18, 3) := by decide +kernel
theorem dX0_walkTo_4 : decode cX0_walkTo 4 = .ok (.iload_n 2, 1) := by decide +kernel
theorem dX0_walkTo_5 : decode cX0_walkTo 5 = .ok (.invokevirtual 92, 3) := by decide +kernel
theorem dX0_walkTo_8 : decode cX0_walkTo 8 = .ok (.ifCond .eq 14, 3) := by decide +kernel
theorem dX0_walkTo_11 : decode cX0_walkTo 11 = .ok (.aload_n 0, 1) := by decide +kernel
theorem dX0_walkTo_12 : decode cX0_walkTo 12 = .ok (.getfield 18, 3) := by decide +kernel
theorem dX0_walkTo_15 : decode cX0_walkTo 15 = .ok (.iload_n 3, 1) := by decide +kernel
theorem dX0_walkTo_16 : decode cX0_walkTo 16 = .ok (.invokevirtual 37, 3) := by decide +kernel
theorem dX0_walkTo_19 : decode cX0_walkTo 19 = .ok (.ifCond .ne 5, 3) := by decide +kernel
theorem dX0_walkTo_22 : decode cX0_walkTo 22 = .ok (.iconst 1, 1) := by decide +kernel
theorem dX0_walkTo_23 : decode cX0_walkTo 23 = .ok (.ireturn, 1) := by decide +kernel
theorem dX0_walkTo_24 : decode cX0_walkTo 24 = .ok (.aload_n 1, 1) := by decide +kernel
theorem dX0_walkTo_25 : decode cX0_walkTo 25 = .ok (.getfield 80, 3) := by decide +kernel
theorem dX0_walkTo_28 : decode cX0_walkTo 28 = .ok (.iload_n 2, 1) := by decide +kernel
theorem dX0_walkTo_29 : decode cX0_walkTo 29 = .ok (.iaload, 1) := by decide +kernel
theorem dX0_walkTo_30 : decode cX0_walkTo 30 = .ok (.iconst (-1), 1) := by decide +kernel
theorem dX0_walkTo_31 : decode cX0_walkTo 31 = .ok (.if_icmp .ne 13, 3) := by decide +kernel
theorem dX0_walkTo_34 : decode cX0_walkTo 34 = .ok (.aload_n 1, 1) := by decide +kernel
theorem dX0_walkTo_35 : decode cX0_walkTo 35 = .ok (.getfield 83, 3) := by decide +kernel
theorem dX0_walkTo_38 : decode cX0_walkTo 38 = .ok (.iload_n 2, 1) := by decide +kernel
theorem dX0_walkTo_39 : decode cX0_walkTo 39 = .ok (.iaload, 1) := by decide +kernel
theorem dX0_walkTo_40 : decode cX0_walkTo 40 = .ok (.iload_n 3, 1) := by decide +kernel
theorem dX0_walkTo_41 : decode cX0_walkTo 41 = .ok (.if_icmp .ne 5, 3) := by decide +kernel
theorem dX0_walkTo_44 : decode cX0_walkTo 44 = .ok (.iconst 2, 1) := by decide +kernel
theorem dX0_walkTo_45 : decode cX0_walkTo 45 = .ok (.ireturn, 1) := by decide +kernel
theorem dX0_walkTo_46 : decode cX0_walkTo 46 = .ok (.aload_n 1, 1) := by decide +kernel
theorem dX0_walkTo_47 : decode cX0_walkTo 47 = .ok (.getfield 86, 3) := by decide +kernel
theorem dX0_walkTo_50 : decode cX0_walkTo 50 = .ok (.iload_n 2, 1) := by decide +kernel
theorem dX0_walkTo_51 : decode cX0_walkTo 51 = .ok (.dup2, 1) := by decide +kernel
theorem dX0_walkTo_52 : decode cX0_walkTo 52 = .ok (.iaload, 1) := by decide +kernel
theorem dX0_walkTo_53 : decode cX0_walkTo 53 = .ok (.aload_n 0, 1) := by decide +kernel
theorem dX0_walkTo_54 : decode cX0_walkTo 54 = .ok (.getfield 18, 3) := by decide +kernel
theorem dX0_walkTo_57 : decode cX0_walkTo 57 = .ok (.iload_n 2, 1) := by decide +kernel
theorem dX0_walkTo_58 : decode cX0_walkTo 58 = .ok (.aload_n 1, 1) := by decide +kernel
theorem dX0_walkTo_59 : decode cX0_walkTo 59 = .ok (.getfield 83, 3) := by decide +kernel
theorem dX0_walkTo_62 : decode cX0_walkTo 62 = .ok (.iload_n 2, 1) := by decide +kernel
theorem dX0_walkTo_63 : decode cX0_walkTo 63 = .ok (.iaload, 1) := by decide +kernel
theorem dX0_walkTo_64 : decode cX0_walkTo 64 = .ok (.iload_n 3, 1) := by decide +kernel
theorem dX0_walkTo_65 : decode cX0_walkTo 65 = .ok (.invokevirtual 101, 3) := by decide +kernel
theorem dX0_walkTo_68 : decode cX0_walkTo 68 = .ok (.iadd, 1) := by decide +kernel
theorem dX0_walkTo_69 : decode cX0_walkTo 69 = .ok (.iastore, 1) := by decide +kernel
theorem dX0_walkTo_70 : decode cX0_walkTo 70 = .ok (.aload_n 1, 1) := by decide +kernel
theorem dX0_walkTo_71 : decode cX0_walkTo 71 = .ok (.getfield 83, 3) := by decide +kernel
theorem dX0_walkTo_74 : decode cX0_walkTo 74 = .ok (.iload_n 2, 1) := by decide +kernel
theorem dX0_walkTo_75 : decode cX0_walkTo 75 = .ok (.iload_n 3, 1) := by decide +kernel
theorem dX0_walkTo_76 : decode cX0_walkTo 76 = .ok (.iastore, 1) := by decide +kernel
theorem dX0_walkTo_77 : decode cX0_walkTo 77 = .ok (.iconst 0, 1) := by decide +kernel
theorem dX0_walkTo_78 : decode cX0_walkTo 78 = .ok (.ireturn, 1) := by decide +kernel
theorem dX0_doAll_0 : decode cX0_doAll 0 = .ok (.aload_n 0, 1) := by decide +kernel
theorem dX0_doAll_1 : decode cX0_doAll 1 = .ok (.iconst 0, 1) := by decide +kernel
theorem dX0_doAll_2 : decode cX0_doAll 2 = .ok (.putfield 15, 3) := by decide +kernel
theorem dX0_doAll_5 : decode cX0_doAll 5 = .ok (.iconst 0, 1) := by decide +kernel
theorem dX0_doAll_6 : decode cX0_doAll 6 = .ok (.istore_n 3, 1) := by decide +kernel
theorem dX0_doAll_7 : decode cX0_doAll 7 = .ok (.iconst 0, 1) := by decide +kernel
theorem dX0_doAll_8 : decode cX0_doAll 8 = .ok (.istore 4, 2) := by decide +kernel
theorem dX0_doAll_10 : decode cX0_doAll 10 = .ok (.iload 4, 2) := by decide +kernel
theorem dX0_doAll_12 : decode cX0_doAll 12 = .ok (.aload_n 2, 1) := by decide +kernel
theorem dX0_doAll_13 : decode cX0_doAll 13 = .ok (.getfield 105, 3) := by decide +kernel
theorem dX0_doAll_16 : decode cX0_doAll 16 = .ok (.if_icmp .ge 41, 3) := by decide +kernel
theorem dX0_doAll_19 : decode cX0_doAll 19 = .ok (.aload_n 0, 1) := by decide +kernel
theorem dX0_doAll_20 : decode cX0_doAll 20 = .ok (.getfield 15, 3) := by decide +kernel
theorem dX0_doAll_23 : decode cX0_doAll 23 = .ok (.ifCond .ne 34, 3) := by decide +kernel
theorem dX0_doAll_26 : decode cX0_doAll 26 = .ok (.aload_n 0, 1) := by decide +kernel
theorem dX0_doAll_27 : decode cX0_doAll 27 = .ok (.aload_n 0, 1) := by decide +kernel
theorem dX0_doAll_28 : decode cX0_doAll 28 = .ok (.aload_n 1, 1) := by decide +kernel
theorem dX0_doAll_29 : decode cX0_doAll 29 = .ok (.aload_n 2, 1) := by decide +kernel
theorem dX0_doAll_30 : decode cX0_doAll 30 = .ok (.iload 4, 2) := by decide +kernel
theorem dX0_doAll_32 : decode cX0_doAll 32 = .ok (.invokevirtual 110, 3) := by decide +kernel
theorem dX0_doAll_35 : decode cX0_doAll 35 = .ok (.invokevirtual 114, 3) := by decide +kernel
theorem dX0_doAll_38 : decode cX0_doAll 38 = .ok (.putfield 15, 3) := by decide +kernel
theorem dX0_doAll_41 : decode cX0_doAll 41 = .ok (.aload_n 0, 1) := by decide +kernel
theorem dX0_doAll_42 : decode cX0_doAll 42 = .ok (.getfield 15, 3) := by decide +kernel
theorem dX0_doAll_45 : decode cX0_doAll 45 = .ok (.ifCond .ne 6, 3) := by decide +kernel
theorem dX0_doAll_48 : decode cX0_doAll 48 = .ok (.iinc 3 1, 3) := by decide +kernel
theorem dX0_doAll_51 : decode cX0_doAll 51 = .ok (.iinc 4 1, 3) := by decide +kernel
theorem dX0_doAll_54 : decode cX0_doAll 54 = .ok (.goto (-44), 3) := by decide +kernel
theorem dX0_doAll_57 : decode cX0_doAll 57 = .ok (.iload_n 3, 1) := by decide +kernel
theorem dX0_doAll_58 : decode cX0_doAll 58 = .ok (.ireturn, 1) := by decide +kernel
theorem dX0_doNumber_0 : decode cX0_doNumber 0 = .ok (.lload_n 2, 1) := by decide +kernel
theorem dX0_doNumber_1 : decode cX0_doNumber 1 = .ok (.lconst 0, 1) := by decide +kernel
theorem dX0_doNumber_2 : decode cX0_doNumber 2 = .ok (.lcmp, 1) := by decide +kernel
theorem dX0_doNumber_3 : decode cX0_doNumber 3 = .ok (.ifCond .lt 11, 3) := by decide +kernel
theorem dX0_doNumber_6 : decode cX0_doNumber 6 = .ok (.lload_n 2, 1) := by decide +kernel
theorem dX0_doNumber_7 : decode cX0_doNumber 7 = .ok (.ldc2_w 118, 3) := by decide +kernel
theorem dX0_doNumber_10 : decode cX0_doNumber 10 = .ok (.lcmp, 1) := by decide +kernel
theorem dX0_doNumber_11 : decode cX0_doNumber 11 = .ok (.ifCond .le 5, 3) := by decide +kernel
theorem dX0_doNumber_14 : decode cX0_doNumber 14 = .ok (.iconst 1, 1) := by decide +kernel
theorem dX0_doNumber_15 : decode cX0_doNumber 15 = .ok (.ireturn, 1) := by decide +kernel
theorem dX0_doNumber_16 : decode cX0_doNumber 16 = .ok (.lload_n 2, 1) := by decide +kernel
theorem dX0_doNumber_17 : decode cX0_doNumber 17 = .ok (.ldc2_w 120, 3) := by decide +kernel
theorem dX0_doNumber_20 : decode cX0_doNumber 20 = .ok (.lrem, 1) := by decide +kernel
theorem dX0_doNumber_21 : decode cX0_doNumber 21 = .ok (.l2i, 1) := by decide +kernel
theorem dX0_doNumber_22 : decode cX0_doNumber 22 = .ok (.istore 4, 2) := by decide +kernel
theorem dX0_doNumber_24 : decode cX0_doNumber 24 = .ok (.lload_n 2, 1) := by decide +kernel
theorem dX0_doNumber_25 : decode cX0_doNumber 25 = .ok (.ldc2_w 120, 3) := by decide +kernel
theorem dX0_doNumber_28 : decode cX0_doNumber 28 = .ok (.ldiv, 1) := by decide +kernel
theorem dX0_doNumber_29 : decode cX0_doNumber 29 = .ok (.l2i, 1) := by decide +kernel
theorem dX0_doNumber_30 : decode cX0_doNumber 30 = .ok (.tableswitch 98 0 4 #[34, 50, 66, 74, 82], 34) := by decide +kernel
theorem dX0_doNumber_64 : decode cX0_doNumber 64 = .ok (.aload_n 0, 1) := by decide +kernel
theorem dX0_doNumber_65 : decode cX0_doNumber 65 = .ok (.aload_n 1, 1) := by decide +kernel
theorem dX0_doNumber_66 : decode cX0_doNumber 66 = .ok (.iload 4, 2) := by decide +kernel
theorem dX0_doNumber_68 : decode cX0_doNumber 68 = .ok (.bipush 100, 2) := by decide +kernel
theorem dX0_doNumber_70 : decode cX0_doNumber 70 = .ok (.idiv, 1) := by decide +kernel
theorem dX0_doNumber_71 : decode cX0_doNumber 71 = .ok (.iload 4, 2) := by decide +kernel
theorem dX0_doNumber_73 : decode cX0_doNumber 73 = .ok (.bipush 100, 2) := by decide +kernel
theorem dX0_doNumber_75 : decode cX0_doNumber 75 = .ok (.irem, 1) := by decide +kernel
theorem dX0_doNumber_76 : decode cX0_doNumber 76 = .ok (.invokevirtual 122, 3) := by decide +kernel
theorem dX0_doNumber_79 : decode cX0_doNumber 79 = .ok (.ireturn, 1) := by decide +kernel
theorem dX0_doNumber_80 : decode cX0_doNumber 80 = .ok (.aload_n 0, 1) := by decide +kernel
theorem dX0_doNumber_81 : decode cX0_doNumber 81 = .ok (.aload_n 1, 1) := by decide +kernel
theorem dX0_doNumber_82 : decode cX0_doNumber 82 = .ok (.iload 4, 2) := by decide +kernel
theorem dX0_doNumber_84 : decode cX0_doNumber 84 = .ok (.bipush 100, 2) := by decide +kernel
theorem dX0_doNumber_86 : decode cX0_doNumber 86 = .ok (.idiv, 1) := by decide +kernel
theorem dX0_doNumber_87 : decode cX0_doNumber 87 = .ok (.iload 4, 2) := by decide +kernel
theorem dX0_doNumber_89 : decode cX0_doNumber 89 = .ok (.bipush 100, 2) := by decide +kernel
theorem dX0_doNumber_91 : decode cX0_doNumber 91 = .ok (.irem, 1) := by decide +kernel
theorem dX0_doNumber_92 : decode cX0_doNumber 92 = .ok (.invokevirtual 126, 3) := by decide +kernel
theorem dX0_doNumber_95 : decode cX0_doNumber 95 = .ok (.ireturn, 1) := by decide +kernel
theorem dX0_doNumber_96 : decode cX0_doNumber 96 = .ok (.aload_n 0, 1) := by decide +kernel
theorem dX0_doNumber_97 : decode cX0_doNumber 97 = .ok (.aload_n 1, 1) := by decide +kernel
theorem dX0_doNumber_98 : decode cX0_doNumber 98 = .ok (.iload 4, 2) := by decide +kernel
theorem dX0_doNumber_100 : decode cX0_doNumber 100 = .ok (.invokevirtual 129, 3) := by decide +kernel
theorem dX0_doNumber_103 : decode cX0_doNumber 103 = .ok (.ireturn, 1) := by decide +kernel
theorem dX0_doNumber_104 : decode cX0_doNumber 104 = .ok (.aload_n 0, 1) := by decide +kernel
theorem dX0_doNumber_105 : decode cX0_doNumber 105 = .ok (.aload_n 1, 1) := by decide +kernel
theorem dX0_doNumber_106 : decode cX0_doNumber 106 = .ok (.iload 4, 2) := by decide +kernel
theorem dX0_doNumber_108 : decode cX0_doNumber 108 = .ok (.invokevirtual 133, 3) := by decide +kernel
theorem dX0_doNumber_111 : decode cX0_doNumber 111 = .ok (.ireturn, 1) := by decide +kernel
theorem dX0_doNumber_112 : decode cX0_doNumber 112 = .ok (.aload_n 0, 1) := by decide +kernel
theorem dX0_doNumber_113 : decode cX0_doNumber 113 = .ok (.aload_n 1, 1) := by decide +kernel
theorem dX0_doNumber_114 : decode cX0_doNumber 114 = .ok (.iload 4, 2) := by decide +kernel
theorem dX0_doNumber_116 : decode cX0_doNumber 116 = .ok (.bipush 10, 2) := by decide +kernel
theorem dX0_doNumber_118 : decode cX0_doNumber 118 = .ok (.idiv, 1) := by decide +kernel
theorem dX0_doNumber_119 : decode cX0_doNumber 119 = .ok (.iload 4, 2) := by decide +kernel
theorem dX0_doNumber_121 : decode cX0_doNumber 121 = .ok (.bipush 10, 2) := by decide +kernel
theorem dX0_doNumber_123 : decode cX0_doNumber 123 = .ok (.irem, 1) := by decide +kernel
theorem dX0_doNumber_124 : decode cX0_doNumber 124 = .ok (.invokevirtual 136, 3) := by decide +kernel
theorem dX0_doNumber_127 : decode cX0_doNumber 127 = .ok (.ireturn, 1) := by decide +kernel
theorem dX0_doNumber_128 : decode cX0_doNumber 128 = .ok (.aload_n 0, 1) := by decide +kernel
theorem dX0_doNumber_129 : decode cX0_doNumber 129 = .ok (.aload_n 1, 1) := by decide +kernel
theorem dX0_doNumber_130 : decode cX0_doNumber 130 = .ok (.iload 4, 2) := by decide +kernel
theorem dX0_doNumber_132 : decode cX0_doNumber 132 = .ok (.bipush 100, 2) := by decide +kernel
theorem dX0_doNumber_134 : decode cX0_doNumber 134 = .ok (.idiv, 1) := by decide +kernel
theorem dX0_doNumber_135 : decode cX0_doNumber 135 = .ok (.iload 4, 2) := by decide +kernel
theorem dX0_doNumber_137 : decode cX0_doNumber 137 = .ok (.bipush 100, 2) := by decide +kernel
theorem dX0_doNumber_139 : decode cX0_doNumber 139 = .ok (.irem, 1) := by decide +kernel
theorem dX0_doNumber_140 : decode cX0_doNumber 140 = .ok (.invokevirtual 139, 3) := by decide +kernel
theorem dX0_doNumber_143 : decode cX0_doNumber 143 = .ok (.ireturn, 1) := by decide +kernel
theorem dX0_drawAll_0 : decode cX0_drawAll 0 = .ok (.aload_n 0, 1) := by decide +kernel
theorem dX0_drawAll_1 : decode cX0_drawAll 1 = .ok (.iload_n 2, 1) := by decide +kernel
theorem dX0_drawAll_2 : decode cX0_drawAll 2 = .ok (.putfield 9, 3) := by decide +kernel
theorem dX0_drawAll_5 : decode cX0_drawAll 5 = .ok (.iconst 0, 1) := by decide +kernel
theorem dX0_drawAll_6 : decode cX0_drawAll 6 = .ok (.istore 4, 2) := by decide +kernel
theorem dX0_drawAll_8 : decode cX0_drawAll 8 = .ok (.iconst 0, 1) := by decide +kernel
theorem dX0_drawAll_9 : decode cX0_drawAll 9 = .ok (.istore 5, 2) := by decide +kernel
theorem dX0_drawAll_11 : decode cX0_drawAll 11 = .ok (.iload 5, 2) := by decide +kernel
theorem dX0_drawAll_13 : decode cX0_drawAll 13 = .ok (.iload_n 3, 1) := by decide +kernel
theorem dX0_drawAll_14 : decode cX0_drawAll 14 = .ok (.if_icmp .ge 20, 3) := by decide +kernel
theorem dX0_drawAll_17 : decode cX0_drawAll 17 = .ok (.aload_n 0, 1) := by decide +kernel
theorem dX0_drawAll_18 : decode cX0_drawAll 18 = .ok (.aload_n 1, 1) := by decide +kernel
theorem dX0_drawAll_19 : decode cX0_drawAll 19 = .ok (.invokevirtual 142, 3) := by decide +kernel
theorem dX0_drawAll_22 : decode cX0_drawAll 22 = .ok (.ifCond .ne 6, 3) := by decide +kernel
theorem dX0_drawAll_25 : decode cX0_drawAll 25 = .ok (.iinc 4 1, 3) := by decide +kernel
theorem dX0_drawAll_28 : decode cX0_drawAll 28 = .ok (.iinc 5 1, 3) := by decide +kernel
theorem dX0_drawAll_31 : decode cX0_drawAll 31 = .ok (.goto (-20), 3) := by decide +kernel
theorem dX0_drawAll_34 : decode cX0_drawAll 34 = .ok (.iload 4, 2) := by decide +kernel
theorem dX0_drawAll_36 : decode cX0_drawAll 36 = .ok (.ireturn, 1) := by decide +kernel
theorem dX0_drawOne_0 : decode cX0_drawOne 0 = .ok (.aload_n 0, 1) := by decide +kernel
theorem dX0_drawOne_1 : decode cX0_drawOne 1 = .ok (.bipush 6, 2) := by decide +kernel
theorem dX0_drawOne_3 : decode cX0_drawOne 3 = .ok (.invokevirtual 146, 3) := by decide +kernel
theorem dX0_drawOne_6 : decode cX0_drawOne 6 = .ok (.istore_n 2, 1) := by decide +kernel
theorem dX0_drawOne_7 : decode cX0_drawOne 7 = .ok (.aload_n 0, 1) := by decide +kernel
theorem dX0_drawOne_8 : decode cX0_drawOne 8 = .ok (.iload_n 2, 1) := by decide +kernel
theorem dX0_drawOne_9 : decode cX0_drawOne 9 = .ok (.iconst 3, 1) := by decide +kernel
theorem dX0_drawOne_10 : decode cX0_drawOne 10 = .ok (.if_icmp .ge 13, 3) := by decide +kernel
theorem dX0_drawOne_13 : decode cX0_drawOne 13 = .ok (.aload_n 0, 1) := by decide +kernel
theorem dX0_drawOne_14 : decode cX0_drawOne 14 = .ok (.getfield 18, 3) := by decide +kernel
theorem dX0_drawOne_17 : decode cX0_drawOne 17 = .ok (.getfield 150, 3) := by decide +kernel
theorem dX0_drawOne_20 : decode cX0_drawOne 20 = .ok (.goto 10, 3) := by decide +kernel
theorem dX0_drawOne_23 : decode cX0_drawOne 23 = .ok (.aload_n 0, 1) := by decide +kernel
theorem dX0_drawOne_24 : decode cX0_drawOne 24 = .ok (.getfield 18, 3) := by decide +kernel
theorem dX0_drawOne_27 : decode cX0_drawOne 27 = .ok (.getfield 77, 3) := by decide +kernel
theorem dX0_drawOne_30 : decode cX0_drawOne 30 = .ok (.invokevirtual 146, 3) := by decide +kernel
theorem dX0_drawOne_33 : decode cX0_drawOne 33 = .ok (.istore_n 3, 1) := by decide +kernel
theorem dX0_drawOne_34 : decode cX0_drawOne 34 = .ok (.iload_n 2, 1) := by decide +kernel
theorem dX0_drawOne_35 : decode cX0_drawOne 35 = .ok (.tableswitch 90 2 5 #[29, 47, 54, 72], 29) := by decide +kernel
theorem dX0_drawOne_64 : decode cX0_drawOne 64 = .ok (.aload_n 0, 1) := by decide +kernel
theorem dX0_drawOne_65 : decode cX0_drawOne 65 = .ok (.aload_n 1, 1) := by decide +kernel
theorem dX0_drawOne_66 : decode cX0_drawOne 66 = .ok (.iload_n 3, 1) := by decide +kernel
theorem dX0_drawOne_67 : decode cX0_drawOne 67 = .ok (.aload_n 0, 1) := by decide +kernel
theorem dX0_drawOne_68 : decode cX0_drawOne 68 = .ok (.aload_n 0, 1) := by decide +kernel
theorem dX0_drawOne_69 : decode cX0_drawOne 69 = .ok (.getfield 18, 3) := by decide +kernel
theorem dX0_drawOne_72 : decode cX0_drawOne 72 = .ok (.getfield 153, 3) := by decide +kernel
theorem dX0_drawOne_75 : decode cX0_drawOne 75 = .ok (.invokevirtual 146, 3) := by decide +kernel
theorem dX0_drawOne_78 : decode cX0_drawOne 78 = .ok (.invokevirtual 122, 3) := by decide +kernel
theorem dX0_drawOne_81 : decode cX0_drawOne 81 = .ok (.ireturn, 1) := by decide +kernel
theorem dX0_drawOne_82 : decode cX0_drawOne 82 = .ok (.aload_n 0, 1) := by decide +kernel
theorem dX0_drawOne_83 : decode cX0_drawOne 83 = .ok (.aload_n 1, 1) := by decide +kernel
theorem dX0_drawOne_84 : decode cX0_drawOne 84 = .ok (.iload_n 3, 1) := by decide +kernel
theorem dX0_drawOne_85 : decode cX0_drawOne 85 = .ok (.invokevirtual 133, 3) := by decide +kernel
theorem dX0_drawOne_88 : decode cX0_drawOne 88 = .ok (.ireturn, 1) := by decide +kernel
theorem dX0_drawOne_89 : decode cX0_drawOne 89 = .ok (.aload_n 0, 1) := by decide +kernel
theorem dX0_drawOne_90 : decode cX0_drawOne 90 = .ok (.aload_n 1, 1) := by decide +kernel
theorem dX0_drawOne_91 : decode cX0_drawOne 91 = .ok (.iload_n 3, 1) := by decide +kernel
theorem dX0_drawOne_92 : decode cX0_drawOne 92 = .ok (.aload_n 0, 1) := by decide +kernel
theorem dX0_drawOne_93 : decode cX0_drawOne 93 = .ok (.aload_n 0, 1) := by decide +kernel
theorem dX0_drawOne_94 : decode cX0_drawOne 94 = .ok (.getfield 18, 3) := by decide +kernel
theorem dX0_drawOne_97 : decode cX0_drawOne 97 = .ok (.getfield 150, 3) := by decide +kernel
theorem dX0_drawOne_100 : decode cX0_drawOne 100 = .ok (.invokevirtual 146, 3) := by decide +kernel
theorem dX0_drawOne_103 : decode cX0_drawOne 103 = .ok (.invokevirtual 136, 3) := by decide +kernel
theorem dX0_drawOne_106 : decode cX0_drawOne 106 = .ok (.ireturn, 1) := by decide +kernel
theorem dX0_drawOne_107 : decode cX0_drawOne 107 = .ok (.aload_n 0, 1) := by decide +kernel
theorem dX0_drawOne_108 : decode cX0_drawOne 108 = .ok (.aload_n 1, 1) := by decide +kernel
theorem dX0_drawOne_109 : decode cX0_drawOne 109 = .ok (.iload_n 3, 1) := by decide +kernel
theorem dX0_drawOne_110 : decode cX0_drawOne 110 = .ok (.aload_n 0, 1) := by decide +kernel
theorem dX0_drawOne_111 : decode cX0_drawOne 111 = .ok (.aload_n 0, 1) := by decide +kernel
theorem dX0_drawOne_112 : decode cX0_drawOne 112 = .ok (.getfield 18, 3) := by decide +kernel
theorem dX0_drawOne_115 : decode cX0_drawOne 115 = .ok (.getfield 153, 3) := by decide +kernel
theorem dX0_drawOne_118 : decode cX0_drawOne 118 = .ok (.invokevirtual 146, 3) := by decide +kernel
theorem dX0_drawOne_121 : decode cX0_drawOne 121 = .ok (.invokevirtual 139, 3) := by decide +kernel
theorem dX0_drawOne_124 : decode cX0_drawOne 124 = .ok (.ireturn, 1) := by decide +kernel
theorem dX0_drawOne_125 : decode cX0_drawOne 125 = .ok (.aload_n 0, 1) := by decide +kernel
theorem dX0_drawOne_126 : decode cX0_drawOne 126 = .ok (.aload_n 1, 1) := by decide +kernel
theorem dX0_drawOne_127 : decode cX0_drawOne 127 = .ok (.iload_n 3, 1) := by decide +kernel
theorem dX0_drawOne_128 : decode cX0_drawOne 128 = .ok (.invokevirtual 129, 3) := by decide +kernel
theorem dX0_drawOne_131 : decode cX0_drawOne 131 = .ok (.ireturn, 1) := by decide +kernel
theorem dX0_draw_0 : decode cX0_draw 0 = .ok (.aload_n 0, 1) := by decide +kernel
theorem dX0_draw_1 : decode cX0_draw 1 = .ok (.ldc 156, 2) := by decide +kernel
theorem dX0_draw_3 : decode cX0_draw 3 = .ok (.aload_n 0, 1) := by decide +kernel
theorem dX0_draw_4 : decode cX0_draw 4 = .ok (.getfield 9, 3) := by decide +kernel
theorem dX0_draw_7 : decode cX0_draw 7 = .ok (.imul, 1) := by decide +kernel
theorem dX0_draw_8 : decode cX0_draw 8 = .ok (.sipush 12345, 3) := by decide +kernel
theorem dX0_draw_11 : decode cX0_draw 11 = .ok (.iadd, 1) := by decide +kernel
theorem dX0_draw_12 : decode cX0_draw 12 = .ok (.putfield 9, 3) := by decide +kernel
theorem dX0_draw_15 : decode cX0_draw 15 = .ok (.iload_n 1, 1) := by decide +kernel
theorem dX0_draw_16 : decode cX0_draw 16 = .ok (.ifCond .le 15, 3) := by decide +kernel
theorem dX0_draw_19 : decode cX0_draw 19 = .ok (.aload_n 0, 1) := by decide +kernel
theorem dX0_draw_20 : decode cX0_draw 20 = .ok (.getfield 9, 3) := by decide +kernel
theorem dX0_draw_23 : decode cX0_draw 23 = .ok (.bipush 16, 2) := by decide +kernel
theorem dX0_draw_25 : decode cX0_draw 25 = .ok (.iushr, 1) := by decide +kernel
theorem dX0_draw_26 : decode cX0_draw 26 = .ok (.iload_n 1, 1) := by decide +kernel
theorem dX0_draw_27 : decode cX0_draw 27 = .ok (.irem, 1) := by decide +kernel
theorem dX0_draw_28 : decode cX0_draw 28 = .ok (.goto 4, 3) := by decide +kernel
theorem dX0_draw_31 : decode cX0_draw 31 = .ok (.iconst 0, 1) := by decide +kernel
theorem dX0_draw_32 : decode cX0_draw 32 = .ok (.ireturn, 1) := by decide +kernel
theorem dX1_init_0 : decode cX1_init 0 = .ok (.aload_n 0, 1) := by decide +kernel
theorem dX1_init_1 : decode cX1_init 1 = .ok (.invokespecial 3, 3) := by decide +kernel
theorem dX1_init_4 : decode cX1_init 4 = .ok (.aload_n 0, 1) := by decide +kernel
theorem dX1_init_5 : decode cX1_init 5 = .ok (.iconst 2, 1) := by decide +kernel
theorem dX1_init_6 : decode cX1_init 6 = .ok (.putfield 9, 3) := by decide +kernel
theorem dX1_init_9 : decode cX1_init 9 = .ok (.aload_n 0, 1) := by decide +kernel
theorem dX1_init_10 : decode cX1_init 10 = .ok (.iconst 0, 1) := by decide +kernel
theorem dX1_init_11 : decode cX1_init 11 = .ok (.putfield 15, 3) := by decide +kernel
theorem dX1_init_14 : decode cX1_init 14 = .ok (.aload_n 0, 1) := by decide +kernel
theorem dX1_init_15 : decode cX1_init 15 = .ok (.iconst 0, 1) := by decide +kernel
theorem dX1_init_16 : decode cX1_init 16 = .ok (.putfield 18, 3) := by decide +kernel
theorem dX1_init_19 : decode cX1_init 19 = .ok (.aload_n 0, 1) := by decide +kernel
theorem dX1_init_20 : decode cX1_init 20 = .ok (.iconst 0, 1) := by decide +kernel
theorem dX1_init_21 : decode cX1_init 21 = .ok (.putfield 21, 3) := by decide +kernel
theorem dX1_init_24 : decode cX1_init 24 = .ok (.aload_n 0, 1) := by decide +kernel
theorem dX1_init_25 : decode cX1_init 25 = .ok (.bipush 12, 2) := by decide +kernel
theorem dX1_init_27 : decode cX1_init 27 = .ok (.newarray .int, 2) := by decide +kernel
theorem dX1_init_29 : decode cX1_init 29 = .ok (.putfield 24, 3) := by decide +kernel
theorem dX1_init_32 : decode cX1_init 32 = .ok (.aload_n 0, 1) := by decide +kernel
theorem dX1_init_33 : decode cX1_init 33 = .ok (.iconst 3, 1) := by decide +kernel
theorem dX1_init_34 : decode cX1_init 34 = .ok (.newarray .int, 2) := by decide +kernel
theorem dX1_init_36 : decode cX1_init 36 = .ok (.putfield 28, 3) := by decide +kernel
theorem dX1_init_39 : decode cX1_init 39 = .ok (.aload_n 0, 1) := by decide +kernel
theorem dX1_init_40 : decode cX1_init 40 = .ok (.bipush 8, 2) := by decide +kernel
theorem dX1_init_42 : decode cX1_init 42 = .ok (.newarray .int, 2) := by decide +kernel
theorem dX1_init_44 : decode cX1_init 44 = .ok (.putfield 31, 3) := by decide +kernel
theorem dX1_init_47 : decode cX1_init 47 = .ok (.aload_n 0, 1) := by decide +kernel
theorem dX1_init_48 : decode cX1_init 48 = .ok (.bipush 8, 2) := by decide +kernel
theorem dX1_init_50 : decode cX1_init 50 = .ok (.newarray .int, 2) := by decide +kernel
theorem dX1_init_52 : decode cX1_init 52 = .ok (.putfield 34, 3) := by decide +kernel
theorem dX1_init_55 : decode cX1_init 55 = .ok (.aload_n 0, 1) := by decide +kernel
theorem dX1_init_56 : decode cX1_init 56 = .ok (.bipush 8, 2) := by decide +kernel
theorem dX1_init_58 : decode cX1_init 58 = .ok (.newarray .int, 2) := by decide +kernel
theorem dX1_init_60 : decode cX1_init 60 = .ok (.putfield 37, 3) := by decide +kernel
theorem dX1_init_63 : decode cX1_init 63 = .ok (.aload_n 0, 1) := by decide +kernel
theorem dX1_init_64 : decode cX1_init 64 = .ok (.bipush 8, 2) := by decide +kernel
theorem dX1_init_66 : decode cX1_init 66 = .ok (.newarray .int, 2) := by decide +kernel
theorem dX1_init_68 : decode cX1_init 68 = .ok (.putfield 40, 3) := by decide +kernel
theorem dX1_init_71 : decode cX1_init 71 = .ok (.aload_n 0, 1) := by decide +kernel
theorem dX1_init_72 : decode cX1_init 72 = .ok (.bipush 96, 2) := by decide +kernel
theorem dX1_init_74 : decode cX1_init 74 = .ok (.newarray .int, 2) := by decide +kernel
theorem dX1_init_76 : decode cX1_init 76 = .ok (.putfield 43, 3) := by decide +kernel
theorem dX1_init_79 : decode cX1_init 79 = .ok (.aload_n 0, 1) := by decide +kernel
theorem dX1_init_80 : decode cX1_init 80 = .ok (.bipush 96, 2) := by decide +kernel
theorem dX1_init_82 : decode cX1_init 82 = .ok (.newarray .int, 2) := by decide +kernel
theorem dX1_init_84 : decode cX1_init 84 = .ok (.putfield 46, 3) := by decide +kernel
theorem dX1_init_87 : decode cX1_init 87 = .ok (.aload_n 0, 1) := by decide +kernel
theorem dX1_init_88 : decode cX1_init 88 = .ok (.bipush 96, 2) := by decide +kernel
theorem dX1_init_90 : decode cX1_init 90 = .ok (.newarray .int, 2) := by decide +kernel
theorem dX1_init_92 : decode cX1_init 92 = .ok (.putfield 49, 3) := by decide +kernel
theorem dX1_init_95 : decode cX1_init 95 = .ok (.aload_n 0, 1) := by decide +kernel
theorem dX1_init_96 : decode cX1_init 96 = .ok (.sipush 432, 3) := by decide +kernel
theorem dX1_init_99 : decode cX1_init 99 = .ok (.newarray .int, 2) := by decide +kernel
theorem dX1_init_101 : decode cX1_init 101 = .ok (.putfield 52, 3) := by decide +kernel
theorem dX1_init_104 : decode cX1_init 104 = .ok (.return_, 1) := by decide +kernel
theorem dX1_clear_0 : decode cX1_clear 0 = .ok (.aload_n 0, 1) := by decide +kernel
theorem dX1_clear_1 : decode cX1_clear 1 = .ok (.iconst 0, 1) := by decide +kernel
theorem dX1_clear_2 : decode cX1_clear 2 = .ok (.putfield 15, 3) := by decide +kernel
theorem dX1_clear_5 : decode cX1_clear 5 = .ok (.aload_n 0, 1) := by decide +kernel
theorem dX1_clear_6 : decode cX1_clear 6 = .ok (.iconst 0, 1) := by decide +kernel
theorem dX1_clear_7 : decode cX1_clear 7 = .ok (.putfield 18, 3) := by decide +kernel
theorem dX1_clear_10 : decode cX1_clear 10 = .ok (.aload_n 0, 1) := by decide +kernel
theorem dX1_clear_11 : decode cX1_clear 11 = .ok (.iconst 0, 1) := by decide +kernel
theorem dX1_clear_12 : decode cX1_clear 12 = .ok (.putfield 21, 3) := by decide +kernel
theorem dX1_clear_15 : decode cX1_clear 15 = .ok (.aload_n 0, 1) := by decide +kernel
theorem dX1_clear_16 : decode cX1_clear 16 = .ok (.getfield 24, 3) := by decide +kernel
theorem dX1_clear_19 : decode cX1_clear 19 = .ok (.iconst 0, 1) := by decide +kernel
theorem dX1_clear_20 : decode cX1_clear 20 = .ok (.invokestatic 55, 3) := by decide +kernel
theorem dX1_clear_23 : decode cX1_clear 23 = .ok (.return_, 1) := by decide +kernel
theorem dX1_copyFrom_0 : decode cX1_copyFrom 0 = .ok (.aload_n 0, 1) := by decide +kernel
theorem dX1_copyFrom_1 : decode cX1_copyFrom 1 = .ok (.aload_n 1, 1) := by decide +kernel
theorem dX1_copyFrom_2 : decode cX1_copyFrom 2 = .ok (.getfield 9, 3) := by decide +kernel
theorem dX1_copyFrom_5 : decode cX1_copyFrom 5 = .ok (.putfield 9, 3) := by decide +kernel
theorem dX1_copyFrom_8 : decode cX1_copyFrom 8 = .ok (.aload_n 0, 1) := by decide +kernel
theorem dX1_copyFrom_9 : decode cX1_copyFrom 9 = .ok (.aload_n 1, 1) := by decide +kernel
theorem dX1_copyFrom_10 : decode cX1_copyFrom 10 = .ok (.getfield 15, 3) := by decide +kernel
theorem dX1_copyFrom_13 : decode cX1_copyFrom 13 = .ok (.putfield 15, 3) := by decide +kernel
theorem dX1_copyFrom_16 : decode cX1_copyFrom 16 = .ok (.aload_n 0, 1) := by decide +kernel
theorem dX1_copyFrom_17 : decode cX1_copyFrom 17 = .ok (.aload_n 1, 1) := by decide +kernel
theorem dX1_copyFrom_18 : decode cX1_copyFrom 18 = .ok (.getfield 18, 3) := by decide +kernel
theorem dX1_copyFrom_21 : decode cX1_copyFrom 21 = .ok (.putfield 18, 3) := by decide +kernel
theorem dX1_copyFrom_24 : decode cX1_copyFrom 24 = .ok (.aload_n 0, 1) := by decide +kernel
theorem dX1_copyFrom_25 : decode cX1_copyFrom 25 = .ok (.aload_n 1, 1) := by decide +kernel
theorem dX1_copyFrom_26 : decode cX1_copyFrom 26 = .ok (.getfield 21, 3) := by decide +kernel
theorem dX1_copyFrom_29 : decode cX1_copyFrom 29 = .ok (.putfield 21, 3) := by decide +kernel
theorem dX1_copyFrom_32 : decode cX1_copyFrom 32 = .ok (.aload_n 1, 1) := by decide +kernel
theorem dX1_copyFrom_33 : decode cX1_copyFrom 33 = .ok (.getfield 24, 3) := by decide +kernel
theorem dX1_copyFrom_36 : decode cX1_copyFrom 36 = .ok (.iconst 0, 1) := by decide +kernel
theorem dX1_copyFrom_37 : decode cX1_copyFrom 37 = .ok (.aload_n 0, 1) := by decide +kernel
theorem dX1_copyFrom_38 : decode cX1_copyFrom 38 = .ok (.getfield 24, 3) := by decide +kernel
theorem dX1_copyFrom_41 : decode cX1_copyFrom 41 = .ok (.iconst 0, 1) := by decide +kernel
theorem dX1_copyFrom_42 : decode cX1_copyFrom 42 = .ok (.bipush 12, 2) := by decide +kernel
theorem dX1_copyFrom_44 : decode cX1_copyFrom 44 = .ok (.invokestatic 61, 3) := by decide +kernel
theorem dX1_copyFrom_47 : decode cX1_copyFrom 47 = .ok (.aload_n 1, 1) := by decide +kernel
theorem dX1_copyFrom_48 : decode cX1_copyFrom 48 = .ok (.getfield 28, 3) := by decide +kernel
theorem dX1_copyFrom_51 : decode cX1_copyFrom 51 = .ok (.iconst 0, 1) := by decide +kernel
theorem dX1_copyFrom_52 : decode cX1_copyFrom 52 = .ok (.aload_n 0, 1) := by decide +kernel
theorem dX1_copyFrom_53 : decode cX1_copyFrom 53 = .ok (.getfield 28, 3) := by decide +kernel
theorem dX1_copyFrom_56 : decode cX1_copyFrom 56 = .ok (.iconst 0, 1) := by decide +kernel
theorem dX1_copyFrom_57 : decode cX1_copyFrom 57 = .ok (.iconst 3, 1) := by decide +kernel
theorem dX1_copyFrom_58 : decode cX1_copyFrom 58 = .ok (.invokestatic 61, 3) := by decide +kernel
theorem dX1_copyFrom_61 : decode cX1_copyFrom 61 = .ok (.aload_n 1, 1) := by decide +kernel
theorem dX1_copyFrom_62 : decode cX1_copyFrom 62 = .ok (.getfield 31, 3) := by decide +kernel
theorem dX1_copyFrom_65 : decode cX1_copyFrom 65 = .ok (.iconst 0, 1) := by decide +kernel
theorem dX1_copyFrom_66 : decode cX1_copyFrom 66 = .ok (.aload_n 0, 1) := by decide +kernel
theorem dX1_copyFrom_67 : decode cX1_copyFrom 67 = .ok (.getfield 31, 3) := by decide +kernel
theorem dX1_copyFrom_70 : decode cX1_copyFrom 70 = .ok (.iconst 0, 1) := by decide +kernel
theorem dX1_copyFrom_71 : decode cX1_copyFrom 71 = .ok (.bipush 8, 2) := by decide +kernel
theorem dX1_copyFrom_73 : decode cX1_copyFrom 73 = .ok (.invokestatic 61, 3) := by decide +kernel
theorem dX1_copyFrom_76 : decode cX1_copyFrom 76 = .ok (.aload_n 1, 1) := by decide +kernel
theorem dX1_copyFrom_77 : decode cX1_copyFrom 77 = .ok (.getfield 34, 3) := by decide +kernel
theorem dX1_copyFrom_80 : decode cX1_copyFrom 80 = .ok (.iconst 0, 1) := by decide +kernel
theorem dX1_copyFrom_81 : decode cX1_copyFrom 81 = .ok (.aload_n 0, 1) := by decide +kernel
theorem dX1_copyFrom_82 : decode cX1_copyFrom 82 = .ok (.getfield 34, 3) := by decide +kernel
theorem dX1_copyFrom_85 : decode cX1_copyFrom 85 = .ok (.iconst 0, 1) := by decide +kernel
theorem dX1_copyFrom_86 : decode cX1_copyFrom 86 = .ok (.bipush 8, 2) := by decide +kernel
theorem dX1_copyFrom_88 : decode cX1_copyFrom 88 = .ok (.invokestatic 61, 3) := by decide +kernel
theorem dX1_copyFrom_91 : decode cX1_copyFrom 91 = .ok (.aload_n 1, 1) := by decide +kernel
theorem dX1_copyFrom_92 : decode cX1_copyFrom 92 = .ok (.getfield 37, 3) := by decide +kernel
theorem dX1_copyFrom_95 : decode cX1_copyFrom 95 = .ok (.iconst 0, 1) := by decide +kernel
theorem dX1_copyFrom_96 : decode cX1_copyFrom 96 = .ok (.aload_n 0, 1) := by decide +kernel
theorem dX1_copyFrom_97 : decode cX1_copyFrom 97 = .ok (.getfield 37, 3) := by decide +kernel
theorem dX1_copyFrom_100 : decode cX1_copyFrom 100 = .ok (.iconst 0, 1) := by decide +kernel
theorem dX1_copyFrom_101 : decode cX1_copyFrom 101 = .ok (.bipush 8, 2) := by decide +kernel
theorem dX1_copyFrom_103 : decode cX1_copyFrom 103 = .ok (.invokestatic 61, 3) := by decide +kernel
theorem dX1_copyFrom_106 : decode cX1_copyFrom 106 = .ok (.aload_n 1, 1) := by decide +kernel
theorem dX1_copyFrom_107 : decode cX1_copyFrom 107 = .ok (.getfield 40, 3) := by decide +kernel
theorem dX1_copyFrom_110 : decode cX1_copyFrom 110 = .ok (.iconst 0, 1) := by decide +kernel
theorem dX1_copyFrom_111 : decode cX1_copyFrom 111 = .ok (.aload_n 0, 1) := by decide +kernel
theorem dX1_copyFrom_112 : decode cX1_copyFrom 112 = .ok (.getfield 40, 3) := by decide +kernel
theorem dX1_copyFrom_115 : decode cX1_copyFrom 115 = .ok (.iconst 0, 1) := by decide +kernel
theorem dX1_copyFrom_116 : decode cX1_copyFrom 116 = .ok (.bipush 8, 2) := by decide +kernel
theorem dX1_copyFrom_118 : decode cX1_copyFrom 118 = .ok (.invokestatic 61, 3) := by decide +kernel
theorem dX1_copyFrom_121 : decode cX1_copyFrom 121 = .ok (.aload_n 1, 1) := by decide +kernel
theorem dX1_copyFrom_122 : decode cX1_copyFrom 122 = .ok (.getfield 43, 3) := by decide +kernel
theorem dX1_copyFrom_125 : decode cX1_copyFrom 125 = .ok (.iconst 0, 1) := by decide +kernel
theorem dX1_copyFrom_126 : decode cX1_copyFrom 126 = .ok (.aload_n 0, 1) := by decide +kernel
theorem dX1_copyFrom_127 : decode cX1_copyFrom 127 = .ok (.getfield 43, 3) := by decide +kernel
theorem dX1_copyFrom_130 : decode cX1_copyFrom 130 = .ok (.iconst 0, 1) := by decide +kernel
theorem dX1_copyFrom_131 : decode cX1_copyFrom 131 = .ok (.aload_n 0, 1) := by decide +kernel
theorem dX1_copyFrom_132 : decode cX1_copyFrom 132 = .ok (.getfield 43, 3) := by decide +kernel
theorem dX1_copyFrom_135 : decode cX1_copyFrom 135 = .ok (.arraylength, 1) := by decide +kernel
theorem dX1_copyFrom_136 : decode cX1_copyFrom 136 = .ok (.invokestatic 61, 3) := by decide +kernel
theorem dX1_copyFrom_139 : decode cX1_copyFrom 139 = .ok (.aload_n 1, 1) := by decide +kernel
theorem dX1_copyFrom_140 : decode cX1_copyFrom 140 = .ok (.getfield 46, 3) := by decide +kernel
theorem dX1_copyFrom_143 : decode cX1_copyFrom 143 = .ok (.iconst 0, 1) := by decide +kernel
theorem dX1_copyFrom_144 : decode cX1_copyFrom 144 = .ok (.aload_n 0, 1) := by decide +kernel
theorem dX1_copyFrom_145 : decode cX1_copyFrom 145 = .ok (.getfield 46, 3) := by decide +kernel
theorem dX1_copyFrom_148 : decode cX1_copyFrom 148 = .ok (.iconst 0, 1) := by decide +kernel
theorem dX1_copyFrom_149 : decode cX1_copyFrom 149 = .ok (.aload_n 0, 1) := by decide +kernel
theorem dX1_copyFrom_150 : decode cX1_copyFrom 150 = .ok (.getfield 46, 3) := by decide +kernel
theorem dX1_copyFrom_153 : decode cX1_copyFrom 153 = .ok (.arraylength, 1) := by decide +kernel
theorem dX1_copyFrom_154 : decode cX1_copyFrom 154 = .ok (.invokestatic 61, 3) := by decide +kernel
theorem dX1_copyFrom_157 : decode cX1_copyFrom 157 = .ok (.aload_n 1, 1) := by decide +kernel
theorem dX1_copyFrom_158 : decode cX1_copyFrom 158 = .ok (.getfield 49, 3) := by decide +kernel
theorem dX1_copyFrom_161 : decode cX1_copyFrom 161 = .ok (.iconst 0, 1) := by decide +kernel
theorem dX1_copyFrom_162 : decode cX1_copyFrom 162 = .ok (.aload_n 0, 1) := by decide +kernel
theorem dX1_copyFrom_163 : decode cX1_copyFrom 163 = .ok (.getfield 49, 3) := by decide +kernel
theorem dX1_copyFrom_166 : decode cX1_copyFrom 166 = .ok (.iconst 0, 1) := by decide +kernel
theorem dX1_copyFrom_167 : decode cX1_copyFrom 167 = .ok (.aload_n 0, 1) := by decide +kernel
theorem dX1_copyFrom_168 : decode cX1_copyFrom 168 = .ok (.getfield 49, 3) := by decide +kernel
theorem dX1_copyFrom_171 : decode cX1_copyFrom 171 = .ok (.arraylength, 1) := by decide +kernel
theorem dX1_copyFrom_172 : decode cX1_copyFrom 172 = .ok (.invokestatic 61, 3) := by decide +kernel
theorem dX1_copyFrom_175 : decode cX1_copyFrom 175 = .ok (.aload_n 1, 1) := by decide +kernel
theorem dX1_copyFrom_176 : decode cX1_copyFrom 176 = .ok (.getfield 52, 3) := by decide +kernel
theorem dX1_copyFrom_179 : decode cX1_copyFrom 179 = .ok (.iconst 0, 1) := by decide +kernel
theorem dX1_copyFrom_180 : decode cX1_copyFrom 180 = .ok (.aload_n 0, 1) := by decide +kernel
theorem dX1_copyFrom_181 : decode cX1_copyFrom 181 = .ok (.getfield 52, 3) := by decide +kernel
theorem dX1_copyFrom_184 : decode cX1_copyFrom 184 = .ok (.iconst 0, 1) := by decide +kernel
theorem dX1_copyFrom_185 : decode cX1_copyFrom 185 = .ok (.aload_n 0, 1) := by decide +kernel
theorem dX1_copyFrom_186 : decode cX1_copyFrom 186 = .ok (.getfield 52, 3) := by decide +kernel
theorem dX1_copyFrom_189 : decode cX1_copyFrom 189 = .ok (.arraylength, 1) := by decide +kernel
theorem dX1_copyFrom_190 : decode cX1_copyFrom 190 = .ok (.invokestatic 61, 3) := by decide +kernel
theorem dX1_copyFrom_193 : decode cX1_copyFrom 193 = .ok (.return_, 1) := by decide +kernel
theorem dX1_hasFloor_0 : decode cX1_hasFloor 0 = .ok (.iload_n 1, 1) := by decide +kernel
theorem dX1_hasFloor_1 : decode cX1_hasFloor 1 = .ok (.ifCond .lt 15, 3) := by decide +kernel
theorem dX1_hasFloor_4 : decode cX1_hasFloor 4 = .ok (.iload_n 1, 1) := by decide +kernel
theorem dX1_hasFloor_5 : decode cX1_hasFloor 5 = .ok (.aload_n 0, 1) := by decide +kernel
theorem dX1_hasFloor_6 : decode cX1_hasFloor 6 = .ok (.getfield 9, 3) := by decide +kernel
theorem dX1_hasFloor_9 : decode cX1_hasFloor 9 = .ok (.if_icmp .ge 7, 3) := by decide +kernel
theorem dX1_hasFloor_12 : decode cX1_hasFloor 12 = .ok (.iconst 1, 1) := by decide +kernel
theorem dX1_hasFloor_13 : decode cX1_hasFloor 13 = .ok (.goto 4, 3) := by decide +kernel
theorem dX1_hasFloor_16 : decode cX1_hasFloor 16 = .ok (.iconst 0, 1) := by decide +kernel
theorem dX1_hasFloor_17 : decode cX1_hasFloor 17 = .ok (.ireturn, 1) := by decide +kernel
theorem dX1_hasLift_0 : decode cX1_hasLift 0 = .ok (.iload_n 1, 1) := by decide +kernel
theorem dX1_hasLift_1 : decode cX1_hasLift 1 = .ok (.ifCond .lt 15, 3) := by decide +kernel
theorem dX1_hasLift_4 : decode cX1_hasLift 4 = .ok (.iload_n 1, 1) := by decide +kernel
theorem dX1_hasLift_5 : decode cX1_hasLift 5 = .ok (.aload_n 0, 1) := by decide +kernel
theorem dX1_hasLift_6 : decode cX1_hasLift 6 = .ok (.getfield 18, 3) := by decide +kernel
theorem dX1_hasLift_9 : decode cX1_hasLift 9 = .ok (.if_icmp .ge 7, 3) := by decide +kernel
theorem dX1_hasLift_12 : decode cX1_hasLift 12 = .ok (.iconst 1, 1) := by decide +kernel
theorem dX1_hasLift_13 : decode cX1_hasLift 13 = .ok (.goto 4, 3) := by decide +kernel
theorem dX1_hasLift_16 : decode cX1_hasLift 16 = .ok (.iconst 0, 1) := by decide +kernel
theorem dX1_hasLift_17 : decode cX1_hasLift 17 = .ok (.ireturn, 1) := by decide +kernel
theorem dX1_hasPerson_0 : decode cX1_hasPerson 0 = .ok (.iload_n 1, 1) := by decide +kernel
theorem dX1_hasPerson_1 : decode cX1_hasPerson 1 = .ok (.ifCond .lt 15, 3) := by decide +kernel
theorem dX1_hasPerson_4 : decode cX1_hasPerson 4 = .ok (.iload_n 1, 1) := by decide +kernel
theorem dX1_hasPerson_5 : decode cX1_hasPerson 5 = .ok (.aload_n 0, 1) := by decide +kernel
theorem dX1_hasPerson_6 : decode cX1_hasPerson 6 = .ok (.getfield 21, 3) := by decide +kernel
theorem dX1_hasPerson_9 : decode cX1_hasPerson 9 = .ok (.if_icmp .ge 7, 3) := by decide +kernel
theorem dX1_hasPerson_12 : decode cX1_hasPerson 12 = .ok (.iconst 1, 1) := by decide +kernel
theorem dX1_hasPerson_13 : decode cX1_hasPerson 13 = .ok (.goto 4, 3) := by decide +kernel
theorem dX1_hasPerson_16 : decode cX1_hasPerson 16 = .ok (.iconst 0, 1) := by decide +kernel
theorem dX1_hasPerson_17 : decode cX1_hasPerson 17 = .ok (.ireturn, 1) := by decide +kernel
theorem dX1_onFoot_0 : decode cX1_onFoot 0 = .ok (.iconst 0, 1) := by decide +kernel
theorem dX1_onFoot_1 : decode cX1_onFoot 1 = .ok (.istore 4, 2) := by decide +kernel
theorem dX1_onFoot_3 : decode cX1_onFoot 3 = .ok (.iload_n 2, 1) := by decide +kernel
theorem dX1_onFoot_4 : decode cX1_onFoot 4 = .ok (.istore 5, 2) := by decide +kernel
theorem dX1_onFoot_6 : decode cX1_onFoot 6 = .ok (.iload 5, 2) := by decide +kernel
theorem dX1_onFoot_8 : decode cX1_onFoot 8 = .ok (.iload_n 3, 1) := by decide +kernel
theorem dX1_onFoot_9 : decode cX1_onFoot 9 = .ok (.if_icmp .ge 26, 3) := by decide +kernel
theorem dX1_onFoot_12 : decode cX1_onFoot 12 = .ok (.iload 4, 2) := by decide +kernel
theorem dX1_onFoot_14 : decode cX1_onFoot 14 = .ok (.aload_n 0, 1) := by decide +kernel
theorem dX1_onFoot_15 : decode cX1_onFoot 15 = .ok (.getfield 43, 3) := by decide +kernel
theorem dX1_onFoot_18 : decode cX1_onFoot 18 = .ok (.iload_n 1, 1) := by decide +kernel
theorem dX1_onFoot_19 : decode cX1_onFoot 19 = .ok (.bipush 12, 2) := by decide +kernel
theorem dX1_onFoot_21 : decode cX1_onFoot 21 = .ok (.imul, 1) := by decide +kernel
theorem dX1_onFoot_22 : decode cX1_onFoot 22 = .ok (.iload 5, 2) := by decide +kernel
theorem dX1_onFoot_24 : decode cX1_onFoot 24 = .ok (.iadd, 1) := by decide +kernel
theorem dX1_onFoot_25 : decode cX1_onFoot 25 = .ok (.iaload, 1) := by decide +kernel
theorem dX1_onFoot_26 : decode cX1_onFoot 26 = .ok (.iadd, 1) := by decide +kernel
theorem dX1_onFoot_27 : decode cX1_onFoot 27 = .ok (.istore 4, 2) := by decide +kernel
theorem dX1_onFoot_29 : decode cX1_onFoot 29 = .ok (.iinc 5 1, 3) := by decide +kernel
theorem dX1_onFoot_32 : decode cX1_onFoot 32 = .ok (.goto (-26), 3) := by decide +kernel
theorem dX1_onFoot_35 : decode cX1_onFoot 35 = .ok (.iload_n 2, 1) := by decide +kernel
theorem dX1_onFoot_36 : decode cX1_onFoot 36 = .ok (.istore 5, 2) := by decide +kernel
theorem dX1_onFoot_38 : decode cX1_onFoot 38 = .ok (.iload 5, 2) := by decide +kernel
theorem dX1_onFoot_40 : decode cX1_onFoot 40 = .ok (.iload_n 3, 1) := by decide +kernel
theorem dX1_onFoot_41 : decode cX1_onFoot 41 = .ok (.if_icmp .le 26, 3) := by decide +kernel
theorem dX1_onFoot_44 : decode cX1_onFoot 44 = .ok (.iload 4, 2) := by decide +kernel
theorem dX1_onFoot_46 : decode cX1_onFoot 46 = .ok (.aload_n 0, 1) := by decide +kernel
theorem dX1_onFoot_47 : decode cX1_onFoot 47 = .ok (.getfield 46, 3) := by decide +kernel
theorem dX1_onFoot_50 : decode cX1_onFoot 50 = .ok (.iload_n 1, 1) := by decide +kernel
theorem dX1_onFoot_51 : decode cX1_onFoot 51 = .ok (.bipush 12, 2) := by decide +kernel
theorem dX1_onFoot_53 : decode cX1_onFoot 53 = .ok (.imul, 1) := by decide +kernel
theorem dX1_onFoot_54 : decode cX1_onFoot 54 = .ok (.iload 5, 2) := by decide +kernel
theorem dX1_onFoot_56 : decode cX1_onFoot 56 = .ok (.iadd, 1) := by decide +kernel
theorem dX1_onFoot_57 : decode cX1_onFoot 57 = .ok (.iaload, 1) := by decide +kernel
theorem dX1_onFoot_58 : decode cX1_onFoot 58 = .ok (.iadd, 1) := by decide +kernel
theorem dX1_onFoot_59 : decode cX1_onFoot 59 = .ok (.istore 4, 2) := by decide +kernel
theorem dX1_onFoot_61 : decode cX1_onFoot 61 = .ok (.iinc 5 (-1), 3) := by decide +kernel
theorem dX1_onFoot_64 : decode cX1_onFoot 64 = .ok (.goto (-26), 3) := by decide +kernel
theorem dX1_onFoot_67 : decode cX1_onFoot 67 = .ok (.iload 4, 2) := by decide +kernel
theorem dX1_onFoot_69 : decode cX1_onFoot 69 = .ok (.ireturn, 1) := by decide +kernel
theorem dX1_onFootHome_0 : decode cX1_onFootHome 0 = .ok (.aload_n 0, 1) := by decide +kernel
theorem dX1_onFootHome_1 : decode cX1_onFootHome 1 = .ok (.getfield 49, 3) := by decide +kernel
theorem dX1_onFootHome_4 : decode cX1_onFootHome 4 = .ok (.iload_n 1, 1) := by decide +kernel
theorem dX1_onFootHome_5 : decode cX1_onFootHome 5 = .ok (.bipush 12, 2) := by decide +kernel
theorem dX1_onFootHome_7 : decode cX1_onFootHome 7 = .ok (.imul, 1) := by decide +kernel
theorem dX1_onFootHome_8 : decode cX1_onFootHome 8 = .ok (.iload_n 2, 1) := by decide +kernel
theorem dX1_onFootHome_9 : decode cX1_onFootHome 9 = .ok (.iadd, 1) := by decide +kernel
theorem dX1_onFootHome_10 : decode cX1_onFootHome 10 = .ok (.iaload, 1) := by decide +kernel
theorem dX1_onFootHome_11 : decode cX1_onFootHome 11 = .ok (.ireturn, 1) := by decide +kernel
theorem dX1_lasts_0 : decode cX1_lasts 0 = .ok (.aload_n 0, 1) := by decide +kernel
theorem dX1_lasts_1 : decode cX1_lasts 1 = .ok (.getfield 52, 3) := by decide +kernel
theorem dX1_lasts_4 : decode cX1_lasts 4 = .ok (.aload_n 0, 1) := by decide +kernel
theorem dX1_lasts_5 : decode cX1_lasts 5 = .ok (.iload_n 1, 1) := by decide +kernel
theorem dX1_lasts_6 : decode cX1_lasts 6 = .ok (.iload_n 2, 1) := by decide +kernel
theorem dX1_lasts_7 : decode cX1_lasts 7 = .ok (.iload_n 3, 1) := by decide +kernel
theorem dX1_lasts_8 : decode cX1_lasts 8 = .ok (.invokevirtual 67, 3) := by decide +kernel
theorem dX1_lasts_11 : decode cX1_lasts 11 = .ok (.iaload, 1) := by decide +kernel
theorem dX1_lasts_12 : decode cX1_lasts 12 = .ok (.ireturn, 1) := by decide +kernel
theorem dX1_lastingAt_0 : decode cX1_lastingAt 0 = .ok (.iload_n 1, 1) := by decide +kernel
theorem dX1_lastingAt_1 : decode cX1_lastingAt 1 = .ok (.bipush 12, 2) := by decide +kernel
theorem dX1_lastingAt_3 : decode cX1_lastingAt 3 = .ok (.imul, 1) := by decide +kernel
theorem dX1_lastingAt_4 : decode cX1_lastingAt 4 = .ok (.iload_n 2, 1) := by decide +kernel
theorem dX1_lastingAt_5 : decode cX1_lastingAt 5 = .ok (.iadd, 1) := by decide +kernel
theorem dX1_lastingAt_6 : decode cX1_lastingAt 6 = .ok (.bipush 12, 2) := by decide +kernel
theorem dX1_lastingAt_8 : decode cX1_lastingAt 8 = .ok (.imul, 1) := by decide +kernel
theorem dX1_lastingAt_9 : decode cX1_lastingAt 9 = .ok (.iload_n 3, 1) := by decide +kernel
theorem dX1_lastingAt_10 : decode cX1_lastingAt 10 = .ok (.iadd, 1) := by decide +kernel
theorem dX1_lastingAt_11 : decode cX1_lastingAt 11 = .ok (.ireturn, 1) := by decide +kernel
theorem dX1_floorsAway_0 : decode cX1_floorsAway 0 = .ok (.iconst 0, 1) := by decide +kernel
theorem dX1_floorsAway_1 : decode cX1_floorsAway 1 = .ok (.istore_n 2, 1) := by decide +kernel
theorem dX1_floorsAway_2 : decode cX1_floorsAway 2 = .ok (.iconst 0, 1) := by decide +kernel
theorem dX1_floorsAway_3 : decode cX1_floorsAway 3 = .ok (.istore_n 3, 1) := by decide +kernel
theorem dX1_floorsAway_4 : decode cX1_floorsAway 4 = .ok (.iload_n 3, 1) := by decide +kernel
theorem dX1_floorsAway_5 : decode cX1_floorsAway 5 = .ok (.aload_n 0, 1) := by decide +kernel
theorem dX1_floorsAway_6 : decode cX1_floorsAway 6 = .ok (.getfield 9, 3) := by decide +kernel
theorem dX1_floorsAway_9 : decode cX1_floorsAway 9 = .ok (.if_icmp .ge 25, 3) := by decide +kernel
theorem dX1_floorsAway_12 : decode cX1_floorsAway 12 = .ok (.iload_n 2, 1) := by decide +kernel
theorem dX1_floorsAway_13 : decode cX1_floorsAway 13 = .ok (.aload_n 0, 1) := by decide +kernel
theorem dX1_floorsAway_14 : decode cX1_floorsAway 14 = .ok (.getfield 24, 3) := by decide +kernel
theorem dX1_floorsAway_17 : decode cX1_floorsAway 17 = .ok (.iload_n 3, 1) := by decide +kernel
theorem dX1_floorsAway_18 : decode cX1_floorsAway 18 = .ok (.iaload, 1) := by decide +kernel
theorem dX1_floorsAway_19 : decode cX1_floorsAway 19 = .ok (.iload_n 1, 1) := by decide +kernel
theorem dX1_floorsAway_20 : decode cX1_floorsAway 20 = .ok (.iload_n 3, 1) := by decide +kernel
theorem dX1_floorsAway_21 : decode cX1_floorsAway 21 = .ok (.isub, 1) := by decide +kernel
theorem dX1_floorsAway_22 : decode cX1_floorsAway 22 = .ok (.invokestatic 71, 3) := by decide +kernel
theorem dX1_floorsAway_25 : decode cX1_floorsAway 25 = .ok (.imul, 1) := by decide +kernel
theorem dX1_floorsAway_26 : decode cX1_floorsAway 26 = .ok (.iadd, 1) := by decide +kernel
theorem dX1_floorsAway_27 : decode cX1_floorsAway 27 = .ok (.istore_n 2, 1) := by decide +kernel
theorem dX1_floorsAway_28 : decode cX1_floorsAway 28 = .ok (.iinc 3 1, 3) := by decide +kernel
theorem dX1_floorsAway_31 : decode cX1_floorsAway 31 = .ok (.goto (-27), 3) := by decide +kernel
theorem dX1_floorsAway_34 : decode cX1_floorsAway 34 = .ok (.iload_n 2, 1) := by decide +kernel
theorem dX1_floorsAway_35 : decode cX1_floorsAway 35 = .ok (.ireturn, 1) := by decide +kernel
theorem dX4_init_0 : decode cX4_init 0 = .ok (.aload_n 0, 1) := by decide +kernel
theorem dX4_init_1 : decode cX4_init 1 = .ok (.invokespecial 3, 3) := by decide +kernel
theorem dX4_init_4 : decode cX4_init 4 = .ok (.aload_n 0, 1) := by decide +kernel
theorem dX4_init_5 : decode cX4_init 5 = .ok (.iconst 3, 1) := by decide +kernel
theorem dX4_init_6 : decode cX4_init 6 = .ok (.newarray .int, 2) := by decide +kernel
theorem dX4_init_8 : decode cX4_init 8 = .ok (.putfield 9, 3) := by decide +kernel
theorem dX4_init_11 : decode cX4_init 11 = .ok (.aload_n 0, 1) := by decide +kernel
theorem dX4_init_12 : decode cX4_init 12 = .ok (.iconst 3, 1) := by decide +kernel
theorem dX4_init_13 : decode cX4_init 13 = .ok (.newarray .int, 2) := by decide +kernel
theorem dX4_init_15 : decode cX4_init 15 = .ok (.putfield 15, 3) := by decide +kernel
theorem dX4_init_18 : decode cX4_init 18 = .ok (.aload_n 0, 1) := by decide +kernel
theorem dX4_init_19 : decode cX4_init 19 = .ok (.iconst 3, 1) := by decide +kernel
theorem dX4_init_20 : decode cX4_init 20 = .ok (.newarray .int, 2) := by decide +kernel
theorem dX4_init_22 : decode cX4_init 22 = .ok (.putfield 18, 3) := by decide +kernel
theorem dX4_init_25 : decode cX4_init 25 = .ok (.aload_n 0, 1) := by decide +kernel
theorem dX4_init_26 : decode cX4_init 26 = .ok (.iconst 3, 1) := by decide +kernel
theorem dX4_init_27 : decode cX4_init 27 = .ok (.newarray .int, 2) := by decide +kernel
theorem dX4_init_29 : decode cX4_init 29 = .ok (.putfield 21, 3) := by decide +kernel
theorem dX4_init_32 : decode cX4_init 32 = .ok (.aload_n 0, 1) := by decide +kernel
theorem dX4_init_33 : decode cX4_init 33 = .ok (.bipush 8, 2) := by decide +kernel
theorem dX4_init_35 : decode cX4_init 35 = .ok (.newarray .int, 2) := by decide +kernel
theorem dX4_init_37 : decode cX4_init 37 = .ok (.putfield 24, 3) := by decide +kernel
theorem dX4_init_40 : decode cX4_init 40 = .ok (.aload_n 0, 1) := by decide +kernel
theorem dX4_init_41 : decode cX4_init 41 = .ok (.bipush 8, 2) := by decide +kernel
theorem dX4_init_43 : decode cX4_init 43 = .ok (.newarray .int, 2) := by decide +kernel
theorem dX4_init_45 : decode cX4_init 45 = .ok (.putfield 27, 3) := by decide +kernel
theorem dX4_init_48 : decode cX4_init 48 = .ok (.aload_n 0, 1) := by decide +kernel
theorem dX4_init_49 : decode cX4_init 49 = .ok (.bipush 8, 2) := by decide +kernel
theorem dX4_init_51 : decode cX4_init 51 = .ok (.newarray .int, 2) := by decide +kernel
theorem dX4_init_53 : decode cX4_init 53 = .ok (.putfield 30, 3) := by decide +kernel
theorem dX4_init_56 : decode cX4_init 56 = .ok (.return_, 1) := by decide +kernel
theorem dX4_copyFrom_0 : decode cX4_copyFrom 0 = .ok (.aload_n 1, 1) := by decide +kernel
theorem dX4_copyFrom_1 : decode cX4_copyFrom 1 = .ok (.getfield 9, 3) := by decide +kernel
theorem dX4_copyFrom_4 : decode cX4_copyFrom 4 = .ok (.iconst 0, 1) := by decide +kernel
theorem dX4_copyFrom_5 : decode cX4_copyFrom 5 = .ok (.aload_n 0, 1) := by decide +kernel
theorem dX4_copyFrom_6 : decode cX4_copyFrom 6 = .ok (.getfield 9, 3) := by decide +kernel
theorem dX4_copyFrom_9 : decode cX4_copyFrom 9 = .ok (.iconst 0, 1) := by decide +kernel
theorem dX4_copyFrom_10 : decode cX4_copyFrom 10 = .ok (.iconst 3, 1) := by decide +kernel
theorem dX4_copyFrom_11 : decode cX4_copyFrom 11 = .ok (.invokestatic 33, 3) := by decide +kernel
theorem dX4_copyFrom_14 : decode cX4_copyFrom 14 = .ok (.aload_n 1, 1) := by decide +kernel
theorem dX4_copyFrom_15 : decode cX4_copyFrom 15 = .ok (.getfield 15, 3) := by decide +kernel
theorem dX4_copyFrom_18 : decode cX4_copyFrom 18 = .ok (.iconst 0, 1) := by decide +kernel
theorem dX4_copyFrom_19 : decode cX4_copyFrom 19 = .ok (.aload_n 0, 1) := by decide +kernel
theorem dX4_copyFrom_20 : decode cX4_copyFrom 20 = .ok (.getfield 15, 3) := by decide +kernel
theorem dX4_copyFrom_23 : decode cX4_copyFrom 23 = .ok (.iconst 0, 1) := by decide +kernel
theorem dX4_copyFrom_24 : decode cX4_copyFrom 24 = .ok (.iconst 3, 1) := by decide +kernel
theorem dX4_copyFrom_25 : decode cX4_copyFrom 25 = .ok (.invokestatic 33, 3) := by decide +kernel
theorem dX4_copyFrom_28 : decode cX4_copyFrom 28 = .ok (.aload_n 1, 1) := by decide +kernel
theorem dX4_copyFrom_29 : decode cX4_copyFrom 29 = .ok (.getfield 18, 3) := by decide +kernel
theorem dX4_copyFrom_32 : decode cX4_copyFrom 32 = .ok (.iconst 0, 1) := by decide +kernel
theorem dX4_copyFrom_33 : decode cX4_copyFrom 33 = .ok (.aload_n 0, 1) := by decide +kernel
theorem dX4_copyFrom_34 : decode cX4_copyFrom 34 = .ok (.getfield 18, 3) := by decide +kernel
theorem dX4_copyFrom_37 : decode cX4_copyFrom 37 = .ok (.iconst 0, 1) := by decide +kernel
theorem dX4_copyFrom_38 : decode cX4_copyFrom 38 = .ok (.iconst 3, 1) := by decide +kernel
theorem dX4_copyFrom_39 : decode cX4_copyFrom 39 = .ok (.invokestatic 33, 3) := by decide +kernel
theorem dX4_copyFrom_42 : decode cX4_copyFrom 42 = .ok (.aload_n 1, 1) := by decide +kernel
theorem dX4_copyFrom_43 : decode cX4_copyFrom 43 = .ok (.getfield 21, 3) := by decide +kernel
theorem dX4_copyFrom_46 : decode cX4_copyFrom 46 = .ok (.iconst 0, 1) := by decide +kernel
theorem dX4_copyFrom_47 : decode cX4_copyFrom 47 = .ok (.aload_n 0, 1) := by decide +kernel
theorem dX4_copyFrom_48 : decode cX4_copyFrom 48 = .ok (.getfield 21, 3) := by decide +kernel
theorem dX4_copyFrom_51 : decode cX4_copyFrom 51 = .ok (.iconst 0, 1) := by decide +kernel
theorem dX4_copyFrom_52 : decode cX4_copyFrom 52 = .ok (.iconst 3, 1) := by decide +kernel
theorem dX4_copyFrom_53 : decode cX4_copyFrom 53 = .ok (.invokestatic 33, 3) := by decide +kernel
theorem dX4_copyFrom_56 : decode cX4_copyFrom 56 = .ok (.aload_n 1, 1) := by decide +kernel
theorem dX4_copyFrom_57 : decode cX4_copyFrom 57 = .ok (.getfield 24, 3) := by decide +kernel
theorem dX4_copyFrom_60 : decode cX4_copyFrom 60 = .ok (.iconst 0, 1) := by decide +kernel
theorem dX4_copyFrom_61 : decode cX4_copyFrom 61 = .ok (.aload_n 0, 1) := by decide +kernel
theorem dX4_copyFrom_62 : decode cX4_copyFrom 62 = .ok (.getfield 24, 3) := by decide +kernel
theorem dX4_copyFrom_65 : decode cX4_copyFrom 65 = .ok (.iconst 0, 1) := by decide +kernel
theorem dX4_copyFrom_66 : decode cX4_copyFrom 66 = .ok (.bipush 8, 2) := by decide +kernel
theorem dX4_copyFrom_68 : decode cX4_copyFrom 68 = .ok (.invokestatic 33, 3) := by decide +kernel
theorem dX4_copyFrom_71 : decode cX4_copyFrom 71 = .ok (.aload_n 1, 1) := by decide +kernel
theorem dX4_copyFrom_72 : decode cX4_copyFrom 72 = .ok (.getfield 27, 3) := by decide +kernel
theorem dX4_copyFrom_75 : decode cX4_copyFrom 75 = .ok (.iconst 0, 1) := by decide +kernel
theorem dX4_copyFrom_76 : decode cX4_copyFrom 76 = .ok (.aload_n 0, 1) := by decide +kernel
theorem dX4_copyFrom_77 : decode cX4_copyFrom 77 = .ok (.getfield 27, 3) := by decide +kernel
theorem dX4_copyFrom_80 : decode cX4_copyFrom 80 = .ok (.iconst 0, 1) := by decide +kernel
theorem dX4_copyFrom_81 : decode cX4_copyFrom 81 = .ok (.bipush 8, 2) := by decide +kernel
theorem dX4_copyFrom_83 : decode cX4_copyFrom 83 = .ok (.invokestatic 33, 3) := by decide +kernel
theorem dX4_copyFrom_86 : decode cX4_copyFrom 86 = .ok (.aload_n 1, 1) := by decide +kernel
theorem dX4_copyFrom_87 : decode cX4_copyFrom 87 = .ok (.getfield 30, 3) := by decide +kernel
theorem dX4_copyFrom_90 : decode cX4_copyFrom 90 = .ok (.iconst 0, 1) := by decide +kernel
theorem dX4_copyFrom_91 : decode cX4_copyFrom 91 = .ok (.aload_n 0, 1) := by decide +kernel
theorem dX4_copyFrom_92 : decode cX4_copyFrom 92 = .ok (.getfield 30, 3) := by decide +kernel
theorem dX4_copyFrom_95 : decode cX4_copyFrom 95 = .ok (.iconst 0, 1) := by decide +kernel
theorem dX4_copyFrom_96 : decode cX4_copyFrom 96 = .ok (.bipush 8, 2) := by decide +kernel
theorem dX4_copyFrom_98 : decode cX4_copyFrom 98 = .ok (.invokestatic 33, 3) := by decide +kernel
theorem dX4_copyFrom_101 : decode cX4_copyFrom 101 = .ok (.return_, 1) := by decide +kernel
theorem dX4_isLit_0 : decode cX4_isLit 0 = .ok (.aload_n 0, 1) := by decide +kernel
theorem dX4_isLit_1 : decode cX4_isLit 1 = .ok (.getfield 18, 3) := by decide +kernel
theorem dX4_isLit_4 : decode cX4_isLit 4 = .ok (.iload_n 1, 1) := by decide +kernel
theorem dX4_isLit_5 : decode cX4_isLit 5 = .ok (.iaload, 1) := by decide +kernel
theorem dX4_isLit_6 : decode cX4_isLit 6 = .ok (.iconst 1, 1) := by decide +kernel
theorem dX4_isLit_7 : decode cX4_isLit 7 = .ok (.iload_n 2, 1) := by decide +kernel
theorem dX4_isLit_8 : decode cX4_isLit 8 = .ok (.ishl, 1) := by decide +kernel
theorem dX4_isLit_9 : decode cX4_isLit 9 = .ok (.iand, 1) := by decide +kernel
theorem dX4_isLit_10 : decode cX4_isLit 10 = .ok (.ifCond .eq 7, 3) := by decide +kernel
theorem dX4_isLit_13 : decode cX4_isLit 13 = .ok (.iconst 1, 1) := by decide +kernel
theorem dX4_isLit_14 : decode cX4_isLit 14 = .ok (.goto 4, 3) := by decide +kernel
theorem dX4_isLit_17 : decode cX4_isLit 17 = .ok (.iconst 0, 1) := by decide +kernel
theorem dX4_isLit_18 : decode cX4_isLit 18 = .ok (.ireturn, 1) := by decide +kernel
theorem dX5_init_0 : decode cX5_init 0 = .ok (.aload_n 0, 1) := by decide +kernel
theorem dX5_init_1 : decode cX5_init 1 = .ok (.invokespecial 3, 3) := by decide +kernel
theorem dX5_init_4 : decode cX5_init 4 = .ok (.aload_n 0, 1) := by decide +kernel
theorem dX5_init_5 : decode cX5_init 5 = .ok (.lconst 0, 1) := by decide +kernel
theorem dX5_init_6 : decode cX5_init 6 = .ok (.putfield 9, 3) := by decide +kernel
theorem dX5_init_9 : decode cX5_init 9 = .ok (.aload_n 0, 1) := by decide +kernel
theorem dX5_init_10 : decode cX5_init 10 = .ok (.iconst 0, 1) := by decide +kernel
theorem dX5_init_11 : decode cX5_init 11 = .ok (.putfield 15, 3) := by decide +kernel
theorem dX5_init_14 : decode cX5_init 14 = .ok (.aload_n 0, 1) := by decide +kernel
theorem dX5_init_15 : decode cX5_init 15 = .ok (.aload_n 1, 1) := by decide +kernel
theorem dX5_init_16 : decode cX5_init 16 = .ok (.putfield 19, 3) := by decide +kernel
theorem dX5_init_19 : decode cX5_init 19 = .ok (.aload_n 0, 1) := by decide +kernel
theorem dX5_init_20 : decode cX5_init 20 = .ok (.aload_n 2, 1) := by decide +kernel
theorem dX5_init_21 : decode cX5_init 21 = .ok (.putfield 23, 3) := by decide +kernel
theorem dX5_init_24 : decode cX5_init 24 = .ok (.aload_n 0, 1) := by decide +kernel
theorem dX5_init_25 : decode cX5_init 25 = .ok (.new 27, 3) := by decide +kernel
theorem dX5_init_28 : decode cX5_init 28 = .ok (.dup, 1) := by decide +kernel
theorem dX5_init_29 : decode cX5_init 29 = .ok (.aload_n 1, 1) := by decide +kernel
theorem dX5_init_30 : decode cX5_init 30 = .ok (.invokespecial 29, 3) := by decide +kernel
theorem dX5_init_33 : decode cX5_init 33 = .ok (.putfield 32, 3) := by decide +kernel
theorem dX5_init_36 : decode cX5_init 36 = .ok (.return_, 1) := by decide +kernel
theorem dX5_waitFor_0 : decode cX5_waitFor 0 = .ok (.aload_n 0, 1) := by decide +kernel
theorem dX5_waitFor_1 : decode cX5_waitFor 1 = .ok (.getfield 23, 3) := by decide +kernel
theorem dX5_waitFor_4 : decode cX5_waitFor 4 = .ok (.getfield 36, 3) := by decide +kernel
theorem dX5_waitFor_7 : decode cX5_waitFor 7 = .ok (.iload_n 1, 1) := by decide +kernel
theorem dX5_waitFor_8 : decode cX5_waitFor 8 = .ok (.iaload, 1) := by decide +kernel
theorem dX5_waitFor_9 : decode cX5_waitFor 9 = .ok (.istore_n 3, 1) := by decide +kernel
theorem dX5_waitFor_10 : decode cX5_waitFor 10 = .ok (.aload_n 0, 1) := by decide +kernel
theorem dX5_waitFor_11 : decode cX5_waitFor 11 = .ok (.getfield 19, 3) := by decide +kernel
theorem dX5_waitFor_14 : decode cX5_waitFor 14 = .ok (.getfield 42, 3) := by decide +kernel
theorem dX5_waitFor_17 : decode cX5_waitFor 17 = .ok (.iload_n 1, 1) := by decide +kernel
theorem dX5_waitFor_18 : decode cX5_waitFor 18 = .ok (.iaload, 1) := by decide +kernel
theorem dX5_waitFor_19 : decode cX5_waitFor 19 = .ok (.istore 4, 2) := by decide +kernel
theorem dX5_waitFor_21 : decode cX5_waitFor 21 = .ok (.iload_n 3, 1) := by decide +kernel
theorem dX5_waitFor_22 : decode cX5_waitFor 22 = .ok (.iload 4, 2) := by decide +kernel
theorem dX5_waitFor_24 : decode cX5_waitFor 24 = .ok (.if_icmp .ne 13, 3) := by decide +kernel
theorem dX5_waitFor_27 : decode cX5_waitFor 27 = .ok (.aload_n 0, 1) := by decide +kernel
theorem dX5_waitFor_28 : decode cX5_waitFor 28 = .ok (.getfield 23, 3) := by decide +kernel
theorem dX5_waitFor_31 : decode cX5_waitFor 31 = .ok (.getfield 47, 3) := by decide +kernel
theorem dX5_waitFor_34 : decode cX5_waitFor 34 = .ok (.iload_n 1, 1) := by decide +kernel
theorem dX5_waitFor_35 : decode cX5_waitFor 35 = .ok (.iaload, 1) := by decide +kernel
theorem dX5_waitFor_36 : decode cX5_waitFor 36 = .ok (.ireturn, 1) := by decide +kernel
theorem dX5_waitFor_37 : decode cX5_waitFor 37 = .ok (.aload_n 0, 1) := by decide +kernel
theorem dX5_waitFor_38 : decode cX5_waitFor 38 = .ok (.getfield 32, 3) := by decide +kernel
theorem dX5_waitFor_41 : decode cX5_waitFor 41 = .ok (.aload_n 0, 1) := by decide +kernel
theorem dX5_waitFor_42 : decode cX5_waitFor 42 = .ok (.getfield 23, 3) := by decide +kernel
theorem dX5_waitFor_45 : decode cX5_waitFor 45 = .ok (.iload_n 2, 1) := by decide +kernel
theorem dX5_waitFor_46 : decode cX5_waitFor 46 = .ok (.invokevirtual 50, 3) := by decide +kernel
theorem dX5_waitFor_49 : decode cX5_waitFor 49 = .ok (.aload_n 0, 1) := by decide +kernel
theorem dX5_waitFor_50 : decode cX5_waitFor 50 = .ok (.getfield 32, 3) := by decide +kernel
theorem dX5_waitFor_53 : decode cX5_waitFor 53 = .ok (.getfield 54, 3) := by decide +kernel
theorem dX5_waitFor_56 : decode cX5_waitFor 56 = .ok (.iload_n 3, 1) := by decide +kernel
theorem dX5_waitFor_57 : decode cX5_waitFor 57 = .ok (.if_icmp .eq 27, 3) := by decide +kernel
theorem dX5_waitFor_60 : decode cX5_waitFor 60 = .ok (.aload_n 0, 1) := by decide +kernel
theorem dX5_waitFor_61 : decode cX5_waitFor 61 = .ok (.getfield 32, 3) := by decide +kernel
theorem dX5_waitFor_64 : decode cX5_waitFor 64 = .ok (.dup, 1) := by decide +kernel
theorem dX5_waitFor_65 : decode cX5_waitFor 65 = .ok (.getfield 57, 3) := by decide +kernel
theorem dX5_waitFor_68 : decode cX5_waitFor 68 = .ok (.iconst 1, 1) := by decide +kernel
theorem dX5_waitFor_69 : decode cX5_waitFor 69 = .ok (.iload_n 3, 1) := by decide +kernel
theorem dX5_waitFor_70 : decode cX5_waitFor 70 = .ok (.ishl, 1) := by decide +kernel
theorem dX5_waitFor_71 : decode cX5_waitFor 71 = .ok (.ior, 1) := by decide +kernel
theorem dX5_waitFor_72 : decode cX5_waitFor 72 = .ok (.putfield 57, 3) := by decide +kernel
theorem dX5_waitFor_75 : decode cX5_waitFor 75 = .ok (.aload_n 0, 1) := by decide +kernel
theorem dX5_waitFor_76 : decode cX5_waitFor 76 = .ok (.getfield 32, 3) := by decide +kernel
theorem dX5_waitFor_79 : decode cX5_waitFor 79 = .ok (.iload_n 3, 1) := by decide +kernel
theorem dX5_waitFor_80 : decode cX5_waitFor 80 = .ok (.invokevirtual 60, 3) := by decide +kernel
theorem dX5_waitFor_83 : decode cX5_waitFor 83 = .ok (.pop, 1) := by decide +kernel
theorem dX5_waitFor_84 : decode cX5_waitFor 84 = .ok (.aload_n 0, 1) := by decide +kernel
theorem dX5_waitFor_85 : decode cX5_waitFor 85 = .ok (.getfield 32, 3) := by decide +kernel
theorem dX5_waitFor_88 : decode cX5_waitFor 88 = .ok (.aload_n 0, 1) := by decide +kernel
theorem dX5_waitFor_89 : decode cX5_waitFor 89 = .ok (.getfield 32, 3) := by decide +kernel
theorem dX5_waitFor_92 : decode cX5_waitFor 92 = .ok (.getfield 64, 3) := by decide +kernel
theorem dX5_waitFor_95 : decode cX5_waitFor 95 = .ok (.aload_n 0, 1) := by decide +kernel
theorem dX5_waitFor_96 : decode cX5_waitFor 96 = .ok (.getfield 23, 3) := by decide +kernel
theorem dX5_waitFor_99 : decode cX5_waitFor 99 = .ok (.getfield 47, 3) := by decide +kernel
theorem dX5_waitFor_102 : decode cX5_waitFor 102 = .ok (.iload_n 1, 1) := by decide +kernel
theorem dX5_waitFor_103 : decode cX5_waitFor 103 = .ok (.iaload, 1) := by decide +kernel
theorem dX5_waitFor_104 : decode cX5_waitFor 104 = .ok (.invokestatic 67, 3) := by decide +kernel
theorem dX5_waitFor_107 : decode cX5_waitFor 107 = .ok (.putfield 64, 3) := by decide +kernel
theorem dX5_waitFor_110 : decode cX5_waitFor 110 = .ok (.aload_n 0, 1) := by decide +kernel
theorem dX5_waitFor_111 : decode cX5_waitFor 111 = .ok (.getfield 32, 3) := by decide +kernel
theorem dX5_waitFor_114 : decode cX5_waitFor 114 = .ok (.dup, 1) := by decide +kernel
theorem dX5_waitFor_115 : decode cX5_waitFor 115 = .ok (.getfield 57, 3) := by decide +kernel
theorem dX5_waitFor_118 : decode cX5_waitFor 118 = .ok (.iconst 1, 1) := by decide +kernel
theorem dX5_waitFor_119 : decode cX5_waitFor 119 = .ok (.iload 4, 2) := by decide +kernel
theorem dX5_waitFor_121 : decode cX5_waitFor 121 = .ok (.ishl, 1) := by decide +kernel
theorem dX5_waitFor_122 : decode cX5_waitFor 122 = .ok (.ior, 1) := by decide +kernel
theorem dX5_waitFor_123 : decode cX5_waitFor 123 = .ok (.putfield 57, 3) := by decide +kernel
theorem dX5_waitFor_126 : decode cX5_waitFor 126 = .ok (.aload_n 0, 1) := by decide +kernel
theorem dX5_waitFor_127 : decode cX5_waitFor 127 = .ok (.getfield 32, 3) := by decide +kernel
theorem dX5_waitFor_130 : decode cX5_waitFor 130 = .ok (.iload 4, 2) := by decide +kernel
theorem dX5_waitFor_132 : decode cX5_waitFor 132 = .ok (.invokevirtual 60, 3) := by decide +kernel
theorem dX5_waitFor_135 : decode cX5_waitFor 135 = .ok (.ireturn, 1) := by decide +kernel
theorem dX5_part_0 : decode cX5_part 0 = .ok (.aload_n 0, 1) := by decide +kernel
theorem dX5_part_1 : decode cX5_part 1 = .ok (.iload_n 1, 1) := by decide +kernel
theorem dX5_part_2 : decode cX5_part 2 = .ok (.iload_n 2, 1) := by decide +kernel
theorem dX5_part_3 : decode cX5_part 3 = .ok (.invokevirtual 73, 3) := by decide +kernel
theorem dX5_part_6 : decode cX5_part 6 = .ok (.istore_n 3, 1) := by decide +kernel
theorem dX5_part_7 : decode cX5_part 7 = .ok (.aload_n 0, 1) := by decide +kernel
theorem dX5_part_8 : decode cX5_part 8 = .ok (.iload_n 3, 1) := by decide +kernel
theorem dX5_part_9 : decode cX5_part 9 = .ok (.invokevirtual 76, 3) := by decide +kernel
theorem dX5_part_12 : decode cX5_part 12 = .ok (.istore 4, 2) := by decide +kernel
theorem dX5_part_14 : decode cX5_part 14 = .ok (.aload_n 0, 1) := by decide +kernel
theorem dX5_part_15 : decode cX5_part 15 = .ok (.iconst 0, 1) := by decide +kernel
theorem dX5_part_16 : decode cX5_part 16 = .ok (.putfield 15, 3) := by decide +kernel
theorem dX5_part_19 : decode cX5_part 19 = .ok (.aload_n 0, 1) := by decide +kernel
theorem dX5_part_20 : decode cX5_part 20 = .ok (.aload_n 0, 1) := by decide +kernel
theorem dX5_part_21 : decode cX5_part 21 = .ok (.iload_n 2, 1) := by decide +kernel
theorem dX5_part_22 : decode cX5_part 22 = .ok (.iload 4, 2) := by decide +kernel
theorem dX5_part_24 : decode cX5_part 24 = .ok (.iload_n 3, 1) := by decide +kernel
theorem dX5_part_25 : decode cX5_part 25 = .ok (.invokevirtual 79, 3) := by decide +kernel
theorem dX5_part_28 : decode cX5_part 28 = .ok (.putfield 9, 3) := by decide +kernel
theorem dX5_part_31 : decode cX5_part 31 = .ok (.iconst 1, 1) := by decide +kernel
theorem dX5_part_32 : decode cX5_part 32 = .ok (.istore 5, 2) := by decide +kernel
theorem dX5_part_34 : decode cX5_part 34 = .ok (.iload 5, 2) := by decide +kernel
theorem dX5_part_36 : decode cX5_part 36 = .ok (.iload 4, 2) := by decide +kernel
theorem dX5_part_38 : decode cX5_part 38 = .ok (.if_icmp .gt 68, 3) := by decide +kernel
theorem dX5_part_41 : decode cX5_part 41 = .ok (.iload 5, 2) := by decide +kernel
theorem dX5_part_43 : decode cX5_part 43 = .ok (.iload 4, 2) := by decide +kernel
theorem dX5_part_45 : decode cX5_part 45 = .ok (.iconst (-1), 1) := by decide +kernel
theorem dX5_part_46 : decode cX5_part 46 = .ok (.ixor, 1) := by decide +kernel
theorem dX5_part_47 : decode cX5_part 47 = .ok (.iand, 1) := by decide +kernel
theorem dX5_part_48 : decode cX5_part 48 = .ok (.ifCond .eq 6, 3) := by decide +kernel
theorem dX5_part_51 : decode cX5_part 51 = .ok (.goto 49, 3) := by decide +kernel
theorem dX5_part_54 : decode cX5_part 54 = .ok (.aload_n 0, 1) := by decide +kernel
theorem dX5_part_55 : decode cX5_part 55 = .ok (.iload_n 1, 1) := by decide +kernel
theorem dX5_part_56 : decode cX5_part 56 = .ok (.iload 5, 2) := by decide +kernel
theorem dX5_part_58 : decode cX5_part 58 = .ok (.iload_n 3, 1) := by decide +kernel
theorem dX5_part_59 : decode cX5_part 59 = .ok (.invokevirtual 79, 3) := by decide +kernel
theorem dX5_part_62 : decode cX5_part 62 = .ok (.aload_n 0, 1) := by decide +kernel
theorem dX5_part_63 : decode cX5_part 63 = .ok (.iload_n 2, 1) := by decide +kernel
theorem dX5_part_64 : decode cX5_part 64 = .ok (.iload 4, 2) := by decide +kernel
theorem dX5_part_66 : decode cX5_part 66 = .ok (.iload 5, 2) := by decide +kernel
theorem dX5_part_68 : decode cX5_part 68 = .ok (.iconst (-1), 1) := by decide +kernel
theorem dX5_part_69 : decode cX5_part 69 = .ok (.ixor, 1) := by decide +kernel
theorem dX5_part_70 : decode cX5_part 70 = .ok (.iand, 1) := by decide +kernel
theorem dX5_part_71 : decode cX5_part 71 = .ok (.iload_n 3, 1) := by decide +kernel
theorem dX5_part_72 : decode cX5_part 72 = .ok (.invokevirtual 79, 3) := by decide +kernel
theorem dX5_part_75 : decode cX5_part 75 = .ok (.ladd, 1) := by decide +kernel
theorem dX5_part_76 : decode cX5_part 76 = .ok (.lstore 6, 2) := by decide +kernel
theorem dX5_part_78 : decode cX5_part 78 = .ok (.lload 6, 2) := by decide +kernel
theorem dX5_part_80 : decode cX5_part 80 = .ok (.aload_n 0, 1) := by decide +kernel
theorem dX5_part_81 : decode cX5_part 81 = .ok (.getfield 9, 3) := by decide +kernel
theorem dX5_part_84 : decode cX5_part 84 = .ok (.lcmp, 1) := by decide +kernel
theorem dX5_part_85 : decode cX5_part 85 = .ok (.ifCond .ge 15, 3) := by decide +kernel
theorem dX5_part_88 : decode cX5_part 88 = .ok (.aload_n 0, 1) := by decide +kernel
theorem dX5_part_89 : decode cX5_part 89 = .ok (.lload 6, 2) := by decide +kernel
theorem dX5_part_91 : decode cX5_part 91 = .ok (.putfield 9, 3) := by decide +kernel
theorem dX5_part_94 : decode cX5_part 94 = .ok (.aload_n 0, 1) := by decide +kernel
theorem dX5_part_95 : decode cX5_part 95 = .ok (.iload 5, 2) := by decide +kernel
theorem dX5_part_97 : decode cX5_part 97 = .ok (.putfield 15, 3) := by decide +kernel
theorem dX5_part_100 : decode cX5_part 100 = .ok (.iinc 5 1, 3) := by decide +kernel
theorem dX5_part_103 : decode cX5_part 103 = .ok (.goto (-69), 3) := by decide +kernel
theorem dX5_part_106 : decode cX5_part 106 = .ok (.return_, 1) := by decide +kernel
theorem dX5_crowdOf_0 : decode cX5_crowdOf 0 = .ok (.aload_n 0, 1) := by decide +kernel
theorem dX5_crowdOf_1 : decode cX5_crowdOf 1 = .ok (.getfield 23, 3) := by decide +kernel
theorem dX5_crowdOf_4 : decode cX5_crowdOf 4 = .ok (.getfield 83, 3) := by decide +kernel
theorem dX5_crowdOf_7 : decode cX5_crowdOf 7 = .ok (.iload_n 1, 1) := by decide +kernel
theorem dX5_crowdOf_8 : decode cX5_crowdOf 8 = .ok (.iaload, 1) := by decide +kernel
theorem dX5_crowdOf_9 : decode cX5_crowdOf 9 = .ok (.istore_n 3, 1) := by decide +kernel
theorem dX5_crowdOf_10 : decode cX5_crowdOf 10 = .ok (.iconst 0, 1) := by decide +kernel
theorem dX5_crowdOf_11 : decode cX5_crowdOf 11 = .ok (.istore 4, 2) := by decide +kernel
theorem dX5_crowdOf_13 : decode cX5_crowdOf 13 = .ok (.iconst 0, 1) := by decide +kernel
theorem dX5_crowdOf_14 : decode cX5_crowdOf 14 = .ok (.istore 5, 2) := by decide +kernel
theorem dX5_crowdOf_16 : decode cX5_crowdOf 16 = .ok (.iload 5, 2) := by decide +kernel
theorem dX5_crowdOf_18 : decode cX5_crowdOf 18 = .ok (.aload_n 0, 1) := by decide +kernel
theorem dX5_crowdOf_19 : decode cX5_crowdOf 19 = .ok (.getfield 19, 3) := by decide +kernel
theorem dX5_crowdOf_22 : decode cX5_crowdOf 22 = .ok (.getfield 86, 3) := by decide +kernel
theorem dX5_crowdOf_25 : decode cX5_crowdOf 25 = .ok (.if_icmp .ge 100, 3) := by decide +kernel
theorem dX5_crowdOf_28 : decode cX5_crowdOf 28 = .ok (.aload_n 0, 1) := by decide +kernel
theorem dX5_crowdOf_29 : decode cX5_crowdOf 29 = .ok (.getfield 23, 3) := by decide +kernel
theorem dX5_crowdOf_32 : decode cX5_crowdOf 32 = .ok (.getfield 89, 3) := by decide +kernel
theorem dX5_crowdOf_35 : decode cX5_crowdOf 35 = .ok (.iload 5, 2) := by decide +kernel
theorem dX5_crowdOf_37 : decode cX5_crowdOf 37 = .ok (.iaload, 1) := by decide +kernel
theorem dX5_crowdOf_38 : decode cX5_crowdOf 38 = .ok (.iconst (-1), 1) := by decide +kernel
theorem dX5_crowdOf_39 : decode cX5_crowdOf 39 = .ok (.if_icmp .eq 31, 3) := by decide +kernel
theorem dX5_crowdOf_42 : decode cX5_crowdOf 42 = .ok (.aload_n 0, 1) := by decide +kernel
theorem dX5_crowdOf_43 : decode cX5_crowdOf 43 = .ok (.getfield 23, 3) := by decide +kernel
theorem dX5_crowdOf_46 : decode cX5_crowdOf 46 = .ok (.getfield 89, 3) := by decide +kernel
theorem dX5_crowdOf_49 : decode cX5_crowdOf 49 = .ok (.iload 5, 2) := by decide +kernel
theorem dX5_crowdOf_51 : decode cX5_crowdOf 51 = .ok (.iaload, 1) := by decide +kernel
theorem dX5_crowdOf_52 : decode cX5_crowdOf 52 = .ok (.iload_n 1, 1) := by decide +kernel
theorem dX5_crowdOf_53 : decode cX5_crowdOf 53 = .ok (.if_icmp .eq 17, 3) := by decide +kernel
theorem dX5_crowdOf_56 : decode cX5_crowdOf 56 = .ok (.aload_n 0, 1) := by decide +kernel
theorem dX5_crowdOf_57 : decode cX5_crowdOf 57 = .ok (.getfield 23, 3) := by decide +kernel
theorem dX5_crowdOf_60 : decode cX5_crowdOf 60 = .ok (.getfield 89, 3) := by decide +kernel
theorem dX5_crowdOf_63 : decode cX5_crowdOf 63 = .ok (.iload 5, 2) := by decide +kernel
theorem dX5_crowdOf_65 : decode cX5_crowdOf 65 = .ok (.iaload, 1) := by decide +kernel
theorem dX5_crowdOf_66 : decode cX5_crowdOf 66 = .ok (.iload_n 2, 1) := by decide +kernel
theorem dX5_crowdOf_67 : decode cX5_crowdOf 67 = .ok (.if_icmp .ne 7, 3) := by decide +kernel
theorem dX5_crowdOf_70 : decode cX5_crowdOf 70 = .ok (.iconst 1, 1) := by decide +kernel
theorem dX5_crowdOf_71 : decode cX5_crowdOf 71 = .ok (.goto 4, 3) := by decide +kernel
theorem dX5_crowdOf_74 : decode cX5_crowdOf 74 = .ok (.iconst 0, 1) := by decide +kernel
theorem dX5_crowdOf_75 : decode cX5_crowdOf 75 = .ok (.istore 6, 2) := by decide +kernel
theorem dX5_crowdOf_77 : decode cX5_crowdOf 77 = .ok (.iload 6, 2) := by decide +kernel
theorem dX5_crowdOf_79 : decode cX5_crowdOf 79 = .ok (.ifCond .eq 40, 3) := by decide +kernel
theorem dX5_crowdOf_82 : decode cX5_crowdOf 82 = .ok (.aload_n 0, 1) := by decide +kernel
theorem dX5_crowdOf_83 : decode cX5_crowdOf 83 = .ok (.getfield 23, 3) := by decide +kernel
theorem dX5_crowdOf_86 : decode cX5_crowdOf 86 = .ok (.getfield 36, 3) := by decide +kernel
theorem dX5_crowdOf_89 : decode cX5_crowdOf 89 = .ok (.iload 5, 2) := by decide +kernel
theorem dX5_crowdOf_91 : decode cX5_crowdOf 91 = .ok (.iaload, 1) := by decide +kernel
theorem dX5_crowdOf_92 : decode cX5_crowdOf 92 = .ok (.iload_n 3, 1) := by decide +kernel
theorem dX5_crowdOf_93 : decode cX5_crowdOf 93 = .ok (.if_icmp .ne 26, 3) := by decide +kernel
theorem dX5_crowdOf_96 : decode cX5_crowdOf 96 = .ok (.aload_n 0, 1) := by decide +kernel
theorem dX5_crowdOf_97 : decode cX5_crowdOf 97 = .ok (.getfield 19, 3) := by decide +kernel
theorem dX5_crowdOf_100 : decode cX5_crowdOf 100 = .ok (.getfield 42, 3) := by decide +kernel
theorem dX5_crowdOf_103 : decode cX5_crowdOf 103 = .ok (.iload 5, 2) := by decide +kernel
theorem dX5_crowdOf_105 : decode cX5_crowdOf 105 = .ok (.iaload, 1) := by decide +kernel
theorem dX5_crowdOf_106 : decode cX5_crowdOf 106 = .ok (.iload_n 3, 1) := by decide +kernel
theorem dX5_crowdOf_107 : decode cX5_crowdOf 107 = .ok (.if_icmp .eq 12, 3) := by decide +kernel
theorem dX5_crowdOf_110 : decode cX5_crowdOf 110 = .ok (.iload 4, 2) := by decide +kernel
theorem dX5_crowdOf_112 : decode cX5_crowdOf 112 = .ok (.iconst 1, 1) := by decide +kernel
theorem dX5_crowdOf_113 : decode cX5_crowdOf 113 = .ok (.iload 5, 2) := by decide +kernel
theorem dX5_crowdOf_115 : decode cX5_crowdOf 115 = .ok (.ishl, 1) := by decide +kernel
theorem dX5_crowdOf_116 : decode cX5_crowdOf 116 = .ok (.ior, 1) := by decide +kernel
theorem dX5_crowdOf_117 : decode cX5_crowdOf 117 = .ok (.istore 4, 2) := by decide +kernel
theorem dX5_crowdOf_119 : decode cX5_crowdOf 119 = .ok (.iinc 5 1, 3) := by decide +kernel
theorem dX5_crowdOf_122 : decode cX5_crowdOf 122 = .ok (.goto (-106), 3) := by decide +kernel
theorem dX5_crowdOf_125 : decode cX5_crowdOf 125 = .ok (.iload 4, 2) := by decide +kernel
theorem dX5_crowdOf_127 : decode cX5_crowdOf 127 = .ok (.ireturn, 1) := by decide +kernel
theorem dX5_homesOf_0 : decode cX5_homesOf 0 = .ok (.iconst 0, 1) := by decide +kernel
theorem dX5_homesOf_1 : decode cX5_homesOf 1 = .ok (.istore_n 2, 1) := by decide +kernel
theorem dX5_homesOf_2 : decode cX5_homesOf 2 = .ok (.iconst 0, 1) := by decide +kernel
theorem dX5_homesOf_3 : decode cX5_homesOf 3 = .ok (.istore_n 3, 1) := by decide +kernel
theorem dX5_homesOf_4 : decode cX5_homesOf 4 = .ok (.iload_n 3, 1) := by decide +kernel
theorem dX5_homesOf_5 : decode cX5_homesOf 5 = .ok (.aload_n 0, 1) := by decide +kernel
theorem dX5_homesOf_6 : decode cX5_homesOf 6 = .ok (.getfield 19, 3) := by decide +kernel
theorem dX5_homesOf_9 : decode cX5_homesOf 9 = .ok (.getfield 86, 3) := by decide +kernel
theorem dX5_homesOf_12 : decode cX5_homesOf 12 = .ok (.if_icmp .ge 31, 3) := by decide +kernel
theorem dX5_homesOf_15 : decode cX5_homesOf 15 = .ok (.iload_n 1, 1) := by decide +kernel
theorem dX5_homesOf_16 : decode cX5_homesOf 16 = .ok (.iconst 1, 1) := by decide +kernel
theorem dX5_homesOf_17 : decode cX5_homesOf 17 = .ok (.iload_n 3, 1) := by decide +kernel
theorem dX5_homesOf_18 : decode cX5_homesOf 18 = .ok (.ishl, 1) := by decide +kernel
theorem dX5_homesOf_19 : decode cX5_homesOf 19 = .ok (.iand, 1) := by decide +kernel
theorem dX5_homesOf_20 : decode cX5_homesOf 20 = .ok (.ifCond .eq 17, 3) := by decide +kernel
theorem dX5_homesOf_23 : decode cX5_homesOf 23 = .ok (.iload_n 2, 1) := by decide +kernel
theorem dX5_homesOf_24 : decode cX5_homesOf 24 = .ok (.iconst 1, 1) := by decide +kernel
theorem dX5_homesOf_25 : decode cX5_homesOf 25 = .ok (.aload_n 0, 1) := by decide +kernel
theorem dX5_homesOf_26 : decode cX5_homesOf 26 = .ok (.getfield 19, 3) := by decide +kernel
theorem dX5_homesOf_29 : decode cX5_homesOf 29 = .ok (.getfield 42, 3) := by decide +kernel
theorem dX5_homesOf_32 : decode cX5_homesOf 32 = .ok (.iload_n 3, 1) := by decide +kernel
theorem dX5_homesOf_33 : decode cX5_homesOf 33 = .ok (.iaload, 1) := by decide +kernel
theorem dX5_homesOf_34 : decode cX5_homesOf 34 = .ok (.ishl, 1) := by decide +kernel
theorem dX5_homesOf_35 : decode cX5_homesOf 35 = .ok (.ior, 1) := by decide +kernel
theorem dX5_homesOf_36 : decode cX5_homesOf 36 = .ok (.istore_n 2, 1) := by decide +kernel
theorem dX5_homesOf_37 : decode cX5_homesOf 37 = .ok (.iinc 3 1, 3) := by decide +kernel
theorem dX5_homesOf_40 : decode cX5_homesOf 40 = .ok (.goto (-36), 3) := by decide +kernel
theorem dX5_homesOf_43 : decode cX5_homesOf 43 = .ok (.iload_n 2, 1) := by decide +kernel
theorem dX5_homesOf_44 : decode cX5_homesOf 44 = .ok (.ireturn, 1) := by decide +kernel
theorem dX5_homesWith_0 : decode cX5_homesWith 0 = .ok (.aload_n 0, 1) := by decide +kernel
theorem dX5_homesWith_1 : decode cX5_homesWith 1 = .ok (.getfield 32, 3) := by decide +kernel
theorem dX5_homesWith_4 : decode cX5_homesWith 4 = .ok (.aload_n 0, 1) := by decide +kernel
theorem dX5_homesWith_5 : decode cX5_homesWith 5 = .ok (.getfield 23, 3) := by decide +kernel
theorem dX5_homesWith_8 : decode cX5_homesWith 8 = .ok (.iload_n 1, 1) := by decide +kernel
theorem dX5_homesWith_9 : decode cX5_homesWith 9 = .ok (.invokevirtual 50, 3) := by decide +kernel
theorem dX5_homesWith_12 : decode cX5_homesWith 12 = .ok (.aload_n 0, 1) := by decide +kernel
theorem dX5_homesWith_13 : decode cX5_homesWith 13 = .ok (.getfield 32, 3) := by decide +kernel
theorem dX5_homesWith_16 : decode cX5_homesWith 16 = .ok (.iload_n 2, 1) := by decide +kernel
theorem dX5_homesWith_17 : decode cX5_homesWith 17 = .ok (.putfield 57, 3) := by decide +kernel
theorem dX5_homesWith_20 : decode cX5_homesWith 20 = .ok (.iconst 0, 1) := by decide +kernel
theorem dX5_homesWith_21 : decode cX5_homesWith 21 = .ok (.istore 4, 2) := by decide +kernel
theorem dX5_homesWith_23 : decode cX5_homesWith 23 = .ok (.iload 4, 2) := by decide +kernel
theorem dX5_homesWith_25 : decode cX5_homesWith 25 = .ok (.aload_n 0, 1) := by decide +kernel
theorem dX5_homesWith_26 : decode cX5_homesWith 26 = .ok (.getfield 19, 3) := by decide +kernel
theorem dX5_homesWith_29 : decode cX5_homesWith 29 = .ok (.getfield 86, 3) := by decide +kernel
theorem dX5_homesWith_32 : decode cX5_homesWith 32 = .ok (.if_icmp .ge 74, 3) := by decide +kernel
theorem dX5_homesWith_35 : decode cX5_homesWith 35 = .ok (.iload_n 3, 1) := by decide +kernel
theorem dX5_homesWith_36 : decode cX5_homesWith 36 = .ok (.iconst 1, 1) := by decide +kernel
theorem dX5_homesWith_37 : decode cX5_homesWith 37 = .ok (.iload 4, 2) := by decide +kernel
theorem dX5_homesWith_39 : decode cX5_homesWith 39 = .ok (.ishl, 1) := by decide +kernel
theorem dX5_homesWith_40 : decode cX5_homesWith 40 = .ok (.iand, 1) := by decide +kernel
theorem dX5_homesWith_41 : decode cX5_homesWith 41 = .ok (.ifCond .eq 24, 3) := by decide +kernel
theorem dX5_homesWith_44 : decode cX5_homesWith 44 = .ok (.iload_n 2, 1) := by decide +kernel
theorem dX5_homesWith_45 : decode cX5_homesWith 45 = .ok (.iconst 1, 1) := by decide +kernel
theorem dX5_homesWith_46 : decode cX5_homesWith 46 = .ok (.aload_n 0, 1) := by decide +kernel
theorem dX5_homesWith_47 : decode cX5_homesWith 47 = .ok (.getfield 19, 3) := by decide +kernel
theorem dX5_homesWith_50 : decode cX5_homesWith 50 = .ok (.getfield 42, 3) := by decide +kernel
theorem dX5_homesWith_53 : decode cX5_homesWith 53 = .ok (.iload 4, 2) := by decide +kernel
theorem dX5_homesWith_55 : decode cX5_homesWith 55 = .ok (.iaload, 1) := by decide +kernel
theorem dX5_homesWith_56 : decode cX5_homesWith 56 = .ok (.ishl, 1) := by decide +kernel
theorem dX5_homesWith_57 : decode cX5_homesWith 57 = .ok (.iand, 1) := by decide +kernel
theorem dX5_homesWith_58 : decode cX5_homesWith 58 = .ok (.ifCond .eq 7, 3) := by decide +kernel
theorem dX5_homesWith_61 : decode cX5_homesWith 61 = .ok (.iconst 1, 1) := by decide +kernel
theorem dX5_homesWith_62 : decode cX5_homesWith 62 = .ok (.goto 4, 3) := by decide +kernel
theorem dX5_homesWith_65 : decode cX5_homesWith 65 = .ok (.iconst 0, 1) := by decide +kernel
theorem dX5_homesWith_66 : decode cX5_homesWith 66 = .ok (.istore 5, 2) := by decide +kernel
theorem dX5_homesWith_68 : decode cX5_homesWith 68 = .ok (.iload 5, 2) := by decide +kernel
theorem dX5_homesWith_70 : decode cX5_homesWith 70 = .ok (.ifCond .eq 30, 3) := by decide +kernel
theorem dX5_homesWith_73 : decode cX5_homesWith 73 = .ok (.aload_n 0, 1) := by decide +kernel
theorem dX5_homesWith_74 : decode cX5_homesWith 74 = .ok (.getfield 32, 3) := by decide +kernel
theorem dX5_homesWith_77 : decode cX5_homesWith 77 = .ok (.aload_n 0, 1) := by decide +kernel
theorem dX5_homesWith_78 : decode cX5_homesWith 78 = .ok (.getfield 32, 3) := by decide +kernel
theorem dX5_homesWith_81 : decode cX5_homesWith 81 = .ok (.getfield 64, 3) := by decide +kernel
theorem dX5_homesWith_84 : decode cX5_homesWith 84 = .ok (.aload_n 0, 1) := by decide +kernel
theorem dX5_homesWith_85 : decode cX5_homesWith 85 = .ok (.getfield 23, 3) := by decide +kernel
theorem dX5_homesWith_88 : decode cX5_homesWith 88 = .ok (.getfield 47, 3) := by decide +kernel
theorem dX5_homesWith_91 : decode cX5_homesWith 91 = .ok (.iload 4, 2) := by decide +kernel
theorem dX5_homesWith_93 : decode cX5_homesWith 93 = .ok (.iaload, 1) := by decide +kernel
theorem dX5_homesWith_94 : decode cX5_homesWith 94 = .ok (.invokestatic 67, 3) := by decide +kernel
theorem dX5_homesWith_97 : decode cX5_homesWith 97 = .ok (.putfield 64, 3) := by decide +kernel
theorem dX5_homesWith_100 : decode cX5_homesWith 100 = .ok (.iinc 4 1, 3) := by decide +kernel
theorem dX5_homesWith_103 : decode cX5_homesWith 103 = .ok (.goto (-80), 3) := by decide +kernel
theorem dX5_homesWith_106 : decode cX5_homesWith 106 = .ok (.lconst 0, 1) := by decide +kernel
theorem dX5_homesWith_107 : decode cX5_homesWith 107 = .ok (.lstore 4, 2) := by decide +kernel
theorem dX5_homesWith_109 : decode cX5_homesWith 109 = .ok (.iconst 0, 1) := by decide +kernel
theorem dX5_homesWith_110 : decode cX5_homesWith 110 = .ok (.istore 6, 2) := by decide +kernel
theorem dX5_homesWith_112 : decode cX5_homesWith 112 = .ok (.iload 6, 2) := by decide +kernel
theorem dX5_homesWith_114 : decode cX5_homesWith 114 = .ok (.bipush 12, 2) := by decide +kernel
theorem dX5_homesWith_116 : decode cX5_homesWith 116 = .ok (.if_icmp .ge 46, 3) := by decide +kernel
theorem dX5_homesWith_119 : decode cX5_homesWith 119 = .ok (.aload_n 0, 1) := by decide +kernel
theorem dX5_homesWith_120 : decode cX5_homesWith 120 = .ok (.getfield 32, 3) := by decide +kernel
theorem dX5_homesWith_123 : decode cX5_homesWith 123 = .ok (.invokevirtual 92, 3) := by decide +kernel
theorem dX5_homesWith_126 : decode cX5_homesWith 126 = .ok (.ifCond .eq 36, 3) := by decide +kernel
theorem dX5_homesWith_129 : decode cX5_homesWith 129 = .ok (.lload 4, 2) := by decide +kernel
theorem dX5_homesWith_131 : decode cX5_homesWith 131 = .ok (.aload_n 0, 1) := by decide +kernel
theorem dX5_homesWith_132 : decode cX5_homesWith 132 = .ok (.getfield 32, 3) := by decide +kernel
theorem dX5_homesWith_135 : decode cX5_homesWith 135 = .ok (.getfield 96, 3) := by decide +kernel
theorem dX5_homesWith_138 : decode cX5_homesWith 138 = .ok (.i2l, 1) := by decide +kernel
theorem dX5_homesWith_139 : decode cX5_homesWith 139 = .ok (.aload_n 0, 1) := by decide +kernel
theorem dX5_homesWith_140 : decode cX5_homesWith 140 = .ok (.aload_n 0, 1) := by decide +kernel
theorem dX5_homesWith_141 : decode cX5_homesWith 141 = .ok (.getfield 32, 3) := by decide +kernel
theorem dX5_homesWith_144 : decode cX5_homesWith 144 = .ok (.getfield 54, 3) := by decide +kernel
theorem dX5_homesWith_147 : decode cX5_homesWith 147 = .ok (.iload_n 3, 1) := by decide +kernel
theorem dX5_homesWith_148 : decode cX5_homesWith 148 = .ok (.invokevirtual 99, 3) := by decide +kernel
theorem dX5_homesWith_151 : decode cX5_homesWith 151 = .ok (.i2l, 1) := by decide +kernel
theorem dX5_homesWith_152 : decode cX5_homesWith 152 = .ok (.lmul, 1) := by decide +kernel
theorem dX5_homesWith_153 : decode cX5_homesWith 153 = .ok (.ladd, 1) := by decide +kernel
theorem dX5_homesWith_154 : decode cX5_homesWith 154 = .ok (.lstore 4, 2) := by decide +kernel
theorem dX5_homesWith_156 : decode cX5_homesWith 156 = .ok (.iinc 6 1, 3) := by decide +kernel
theorem dX5_homesWith_159 : decode cX5_homesWith 159 = .ok (.goto (-47), 3) := by decide +kernel
theorem dX5_homesWith_162 : decode cX5_homesWith 162 = .ok (.lload 4, 2) := by decide +kernel
theorem dX5_homesWith_164 : decode cX5_homesWith 164 = .ok (.lreturn, 1) := by decide +kernel
theorem dX5_worthAt_0 : decode cX5_worthAt 0 = .ok (.iconst 0, 1) := by decide +kernel
theorem dX5_worthAt_1 : decode cX5_worthAt 1 = .ok (.istore_n 3, 1) := by decide +kernel
theorem dX5_worthAt_2 : decode cX5_worthAt 2 = .ok (.iconst 0, 1) := by decide +kernel
theorem dX5_worthAt_3 : decode cX5_worthAt 3 = .ok (.istore 4, 2) := by decide +kernel
theorem dX5_worthAt_5 : decode cX5_worthAt 5 = .ok (.iload 4, 2) := by decide +kernel
theorem dX5_worthAt_7 : decode cX5_worthAt 7 = .ok (.aload_n 0, 1) := by decide +kernel
theorem dX5_worthAt_8 : decode cX5_worthAt 8 = .ok (.getfield 19, 3) := by decide +kernel
theorem dX5_worthAt_11 : decode cX5_worthAt 11 = .ok (.getfield 86, 3) := by decide +kernel
theorem dX5_worthAt_14 : decode cX5_worthAt 14 = .ok (.if_icmp .ge 45, 3) := by decide +kernel
theorem dX5_worthAt_17 : decode cX5_worthAt 17 = .ok (.iload_n 2, 1) := by decide +kernel
theorem dX5_worthAt_18 : decode cX5_worthAt 18 = .ok (.iconst 1, 1) := by decide +kernel
theorem dX5_worthAt_19 : decode cX5_worthAt 19 = .ok (.iload 4, 2) := by decide +kernel
theorem dX5_worthAt_21 : decode cX5_worthAt 21 = .ok (.ishl, 1) := by decide +kernel
theorem dX5_worthAt_22 : decode cX5_worthAt 22 = .ok (.iand, 1) := by decide +kernel
theorem dX5_worthAt_23 : decode cX5_worthAt 23 = .ok (.ifCond .eq 30, 3) := by decide +kernel
theorem dX5_worthAt_26 : decode cX5_worthAt 26 = .ok (.aload_n 0, 1) := by decide +kernel
theorem dX5_worthAt_27 : decode cX5_worthAt 27 = .ok (.getfield 19, 3) := by decide +kernel
theorem dX5_worthAt_30 : decode cX5_worthAt 30 = .ok (.getfield 42, 3) := by decide +kernel
theorem dX5_worthAt_33 : decode cX5_worthAt 33 = .ok (.iload 4, 2) := by decide +kernel
theorem dX5_worthAt_35 : decode cX5_worthAt 35 = .ok (.iaload, 1) := by decide +kernel
theorem dX5_worthAt_36 : decode cX5_worthAt 36 = .ok (.iload_n 1, 1) := by decide +kernel
theorem dX5_worthAt_37 : decode cX5_worthAt 37 = .ok (.if_icmp .ne 16, 3) := by decide +kernel
theorem dX5_worthAt_40 : decode cX5_worthAt 40 = .ok (.iload_n 3, 1) := by decide +kernel
theorem dX5_worthAt_41 : decode cX5_worthAt 41 = .ok (.aload_n 0, 1) := by decide +kernel
theorem dX5_worthAt_42 : decode cX5_worthAt 42 = .ok (.getfield 19, 3) := by decide +kernel
theorem dX5_worthAt_45 : decode cX5_worthAt 45 = .ok (.getfield 102, 3) := by decide +kernel
theorem dX5_worthAt_48 : decode cX5_worthAt 48 = .ok (.iload 4, 2) := by decide +kernel
theorem dX5_worthAt_50 : decode cX5_worthAt 50 = .ok (.iaload, 1) := by decide +kernel
theorem dX5_worthAt_51 : decode cX5_worthAt 51 = .ok (.iadd, 1) := by decide +kernel
theorem dX5_worthAt_52 : decode cX5_worthAt 52 = .ok (.istore_n 3, 1) := by decide +kernel
theorem dX5_worthAt_53 : decode cX5_worthAt 53 = .ok (.iinc 4 1, 3) := by decide +kernel
theorem dX5_worthAt_56 : decode cX5_worthAt 56 = .ok (.goto (-51), 3) := by decide +kernel
theorem dX5_worthAt_59 : decode cX5_worthAt 59 = .ok (.iload_n 3, 1) := by decide +kernel
theorem dX5_worthAt_60 : decode cX5_worthAt 60 = .ok (.ireturn, 1) := by decide +kernel
theorem dX7_init_0 : decode cX7_init 0 = .ok (.aload_n 0, 1) := by decide +kernel
theorem dX7_init_1 : decode cX7_init 1 = .ok (.invokespecial 3, 3) := by decide +kernel
theorem dX7_init_4 : decode cX7_init 4 = .ok (.aload_n 0, 1) := by decide +kernel
theorem dX7_init_5 : decode cX7_init 5 = .ok (.iconst 0, 1) := by decide +kernel
theorem dX7_init_6 : decode cX7_init 6 = .ok (.putfield 9, 3) := by decide +kernel
theorem dX7_init_9 : decode cX7_init 9 = .ok (.aload_n 0, 1) := by decide +kernel
theorem dX7_init_10 : decode cX7_init 10 = .ok (.iconst 0, 1) := by decide +kernel
theorem dX7_init_11 : decode cX7_init 11 = .ok (.putfield 15, 3) := by decide +kernel
theorem dX7_init_14 : decode cX7_init 14 = .ok (.aload_n 0, 1) := by decide +kernel
theorem dX7_init_15 : decode cX7_init 15 = .ok (.bipush 12, 2) := by decide +kernel
theorem dX7_init_17 : decode cX7_init 17 = .ok (.newarray .int, 2) := by decide +kernel
theorem dX7_init_19 : decode cX7_init 19 = .ok (.putfield 18, 3) := by decide +kernel
theorem dX7_init_22 : decode cX7_init 22 = .ok (.aload_n 0, 1) := by decide +kernel
theorem dX7_init_23 : decode cX7_init 23 = .ok (.aload_n 1, 1) := by decide +kernel
theorem dX7_init_24 : decode cX7_init 24 = .ok (.putfield 22, 3) := by decide +kernel
theorem dX7_init_27 : decode cX7_init 27 = .ok (.aload_n 0, 1) := by decide +kernel
theorem dX7_init_28 : decode cX7_init 28 = .ok (.aload_n 2, 1) := by decide +kernel
theorem dX7_init_29 : decode cX7_init 29 = .ok (.putfield 26, 3) := by decide +kernel
theorem dX7_init_32 : decode cX7_init 32 = .ok (.aload_n 0, 1) := by decide +kernel
theorem dX7_init_33 : decode cX7_init 33 = .ok (.new 30, 3) := by decide +kernel
theorem dX7_init_36 : decode cX7_init 36 = .ok (.dup, 1) := by decide +kernel
theorem dX7_init_37 : decode cX7_init 37 = .ok (.aload_n 1, 1) := by decide +kernel
theorem dX7_init_38 : decode cX7_init 38 = .ok (.invokespecial 32, 3) := by decide +kernel
theorem dX7_init_41 : decode cX7_init 41 = .ok (.putfield 35, 3) := by decide +kernel
theorem dX7_init_44 : decode cX7_init 44 = .ok (.return_, 1) := by decide +kernel
theorem dX7_gather_0 : decode cX7_gather 0 = .ok (.aload_n 0, 1) := by decide +kernel
theorem dX7_gather_1 : decode cX7_gather 1 = .ok (.iconst 0, 1) := by decide +kernel
theorem dX7_gather_2 : decode cX7_gather 2 = .ok (.putfield 9, 3) := by decide +kernel
theorem dX7_gather_5 : decode cX7_gather 5 = .ok (.aload_n 0, 1) := by decide +kernel
theorem dX7_gather_6 : decode cX7_gather 6 = .ok (.iconst 0, 1) := by decide +kernel
theorem dX7_gather_7 : decode cX7_gather 7 = .ok (.putfield 15, 3) := by decide +kernel
theorem dX7_gather_10 : decode cX7_gather 10 = .ok (.aload_n 0, 1) := by decide +kernel
theorem dX7_gather_11 : decode cX7_gather 11 = .ok (.getfield 18, 3) := by decide +kernel
theorem dX7_gather_14 : decode cX7_gather 14 = .ok (.iconst 0, 1) := by decide +kernel
theorem dX7_gather_15 : decode cX7_gather 15 = .ok (.invokestatic 39, 3) := by decide +kernel
theorem dX7_gather_18 : decode cX7_gather 18 = .ok (.iconst 0, 1) := by decide +kernel
theorem dX7_gather_19 : decode cX7_gather 19 = .ok (.istore_n 3, 1) := by decide +kernel
theorem dX7_gather_20 : decode cX7_gather 20 = .ok (.iload_n 3, 1) := by decide +kernel
theorem dX7_gather_21 : decode cX7_gather 21 = .ok (.iconst 1, 1) := by decide +kernel
theorem dX7_gather_22 : decode cX7_gather 22 = .ok (.aload_n 0, 1) := by decide +kernel
theorem dX7_gather_23 : decode cX7_gather 23 = .ok (.getfield 22, 3) := by decide +kernel
theorem dX7_gather_26 : decode cX7_gather 26 = .ok (.getfield 45, 3) := by decide +kernel
theorem dX7_gather_29 : decode cX7_gather 29 = .ok (.ishl, 1) := by decide +kernel
theorem dX7_gather_30 : decode cX7_gather 30 = .ok (.if_icmp .ge 66, 3) := by decide +kernel
theorem dX7_gather_33 : decode cX7_gather 33 = .ok (.iload_n 3, 1) := by decide +kernel
theorem dX7_gather_34 : decode cX7_gather 34 = .ok (.iconst 1, 1) := by decide +kernel
theorem dX7_gather_35 : decode cX7_gather 35 = .ok (.aload_n 0, 1) := by decide +kernel
theorem dX7_gather_36 : decode cX7_gather 36 = .ok (.getfield 26, 3) := by decide +kernel
theorem dX7_gather_39 : decode cX7_gather 39 = .ok (.getfield 50, 3) := by decide +kernel
theorem dX7_gather_42 : decode cX7_gather 42 = .ok (.iload_n 2, 1) := by decide +kernel
theorem dX7_gather_43 : decode cX7_gather 43 = .ok (.iaload, 1) := by decide +kernel
theorem dX7_gather_44 : decode cX7_gather 44 = .ok (.ishl, 1) := by decide +kernel
theorem dX7_gather_45 : decode cX7_gather 45 = .ok (.iand, 1) := by decide +kernel
theorem dX7_gather_46 : decode cX7_gather 46 = .ok (.ifCond .eq 6, 3) := by decide +kernel
theorem dX7_gather_49 : decode cX7_gather 49 = .ok (.goto 41, 3) := by decide +kernel
theorem dX7_gather_52 : decode cX7_gather 52 = .ok (.aload_n 0, 1) := by decide +kernel
theorem dX7_gather_53 : decode cX7_gather 53 = .ok (.iload_n 3, 1) := by decide +kernel
theorem dX7_gather_54 : decode cX7_gather 54 = .ok (.aload_n 1, 1) := by decide +kernel
theorem dX7_gather_55 : decode cX7_gather 55 = .ok (.iload_n 2, 1) := by decide +kernel
theorem dX7_gather_56 : decode cX7_gather 56 = .ok (.invokevirtual 55, 3) := by decide +kernel
theorem dX7_gather_59 : decode cX7_gather 59 = .ok (.istore 4, 2) := by decide +kernel
theorem dX7_gather_61 : decode cX7_gather 61 = .ok (.aload_n 0, 1) := by decide +kernel
theorem dX7_gather_62 : decode cX7_gather 62 = .ok (.aload_n 0, 1) := by decide +kernel
theorem dX7_gather_63 : decode cX7_gather 63 = .ok (.getfield 15, 3) := by decide +kernel
theorem dX7_gather_66 : decode cX7_gather 66 = .ok (.iload 4, 2) := by decide +kernel
theorem dX7_gather_68 : decode cX7_gather 68 = .ok (.invokestatic 59, 3) := by decide +kernel
theorem dX7_gather_71 : decode cX7_gather 71 = .ok (.putfield 15, 3) := by decide +kernel
theorem dX7_gather_74 : decode cX7_gather 74 = .ok (.iload 4, 2) := by decide +kernel
theorem dX7_gather_76 : decode cX7_gather 76 = .ok (.aload_n 1, 1) := by decide +kernel
theorem dX7_gather_77 : decode cX7_gather 77 = .ok (.getfield 65, 3) := by decide +kernel
theorem dX7_gather_80 : decode cX7_gather 80 = .ok (.iconst 2, 1) := by decide +kernel
theorem dX7_gather_81 : decode cX7_gather 81 = .ok (.idiv, 1) := by decide +kernel
theorem dX7_gather_82 : decode cX7_gather 82 = .ok (.if_icmp .ne 8, 3) := by decide +kernel
theorem dX7_gather_85 : decode cX7_gather 85 = .ok (.aload_n 0, 1) := by decide +kernel
theorem dX7_gather_86 : decode cX7_gather 86 = .ok (.iload_n 3, 1) := by decide +kernel
theorem dX7_gather_87 : decode cX7_gather 87 = .ok (.invokevirtual 70, 3) := by decide +kernel
theorem dX7_gather_90 : decode cX7_gather 90 = .ok (.iinc 3 1, 3) := by decide +kernel
theorem dX7_gather_93 : decode cX7_gather 93 = .ok (.goto (-73), 3) := by decide +kernel
theorem dX7_gather_96 : decode cX7_gather 96 = .ok (.return_, 1) := by decide +kernel
theorem dX7_toldBy_0 : decode cX7_toldBy 0 = .ok (.aload_n 0, 1) := by decide +kernel
theorem dX7_toldBy_1 : decode cX7_toldBy 1 = .ok (.getfield 35, 3) := by decide +kernel
theorem dX7_toldBy_4 : decode cX7_toldBy 4 = .ok (.aload_n 0, 1) := by decide +kernel
theorem dX7_toldBy_5 : decode cX7_toldBy 5 = .ok (.getfield 26, 3) := by decide +kernel
theorem dX7_toldBy_8 : decode cX7_toldBy 8 = .ok (.iload_n 3, 1) := by decide +kernel
theorem dX7_toldBy_9 : decode cX7_toldBy 9 = .ok (.invokevirtual 74, 3) := by decide +kernel
theorem dX7_toldBy_12 : decode cX7_toldBy 12 = .ok (.aload_n 0, 1) := by decide +kernel
theorem dX7_toldBy_13 : decode cX7_toldBy 13 = .ok (.getfield 35, 3) := by decide +kernel
theorem dX7_toldBy_16 : decode cX7_toldBy 16 = .ok (.iload_n 1, 1) := by decide +kernel
theorem dX7_toldBy_17 : decode cX7_toldBy 17 = .ok (.putfield 78, 3) := by decide +kernel
theorem dX7_toldBy_20 : decode cX7_toldBy 20 = .ok (.iconst 0, 1) := by decide +kernel
theorem dX7_toldBy_21 : decode cX7_toldBy 21 = .ok (.istore 4, 2) := by decide +kernel
theorem dX7_toldBy_23 : decode cX7_toldBy 23 = .ok (.iconst 0, 1) := by decide +kernel
theorem dX7_toldBy_24 : decode cX7_toldBy 24 = .ok (.istore 5, 2) := by decide +kernel
theorem dX7_toldBy_26 : decode cX7_toldBy 26 = .ok (.iload 5, 2) := by decide +kernel
theorem dX7_toldBy_28 : decode cX7_toldBy 28 = .ok (.aload_n 2, 1) := by decide +kernel
theorem dX7_toldBy_29 : decode cX7_toldBy 29 = .ok (.getfield 65, 3) := by decide +kernel
theorem dX7_toldBy_32 : decode cX7_toldBy 32 = .ok (.if_icmp .ge 63, 3) := by decide +kernel
theorem dX7_toldBy_35 : decode cX7_toldBy 35 = .ok (.aload_n 0, 1) := by decide +kernel
theorem dX7_toldBy_36 : decode cX7_toldBy 36 = .ok (.getfield 35, 3) := by decide +kernel
theorem dX7_toldBy_39 : decode cX7_toldBy 39 = .ok (.invokevirtual 81, 3) := by decide +kernel
theorem dX7_toldBy_42 : decode cX7_toldBy 42 = .ok (.ifCond .eq 53, 3) := by decide +kernel
theorem dX7_toldBy_45 : decode cX7_toldBy 45 = .ok (.aload_n 2, 1) := by decide +kernel
theorem dX7_toldBy_46 : decode cX7_toldBy 46 = .ok (.iload 5, 2) := by decide +kernel
theorem dX7_toldBy_48 : decode cX7_toldBy 48 = .ok (.invokevirtual 85, 3) := by decide +kernel
theorem dX7_toldBy_51 : decode cX7_toldBy 51 = .ok (.aload_n 0, 1) := by decide +kernel
theorem dX7_toldBy_52 : decode cX7_toldBy 52 = .ok (.getfield 35, 3) := by decide +kernel
theorem dX7_toldBy_55 : decode cX7_toldBy 55 = .ok (.getfield 89, 3) := by decide +kernel
theorem dX7_toldBy_58 : decode cX7_toldBy 58 = .ok (.i2l, 1) := by decide +kernel
theorem dX7_toldBy_59 : decode cX7_toldBy 59 = .ok (.lcmp, 1) := by decide +kernel
theorem dX7_toldBy_60 : decode cX7_toldBy 60 = .ok (.ifCond .ne 35, 3) := by decide +kernel
theorem dX7_toldBy_63 : decode cX7_toldBy 63 = .ok (.aload_n 2, 1) := by decide +kernel
theorem dX7_toldBy_64 : decode cX7_toldBy 64 = .ok (.iload 5, 2) := by decide +kernel
theorem dX7_toldBy_66 : decode cX7_toldBy 66 = .ok (.iconst 1, 1) := by decide +kernel
theorem dX7_toldBy_67 : decode cX7_toldBy 67 = .ok (.iadd, 1) := by decide +kernel
theorem dX7_toldBy_68 : decode cX7_toldBy 68 = .ok (.invokevirtual 85, 3) := by decide +kernel
theorem dX7_toldBy_71 : decode cX7_toldBy 71 = .ok (.aload_n 0, 1) := by decide +kernel
theorem dX7_toldBy_72 : decode cX7_toldBy 72 = .ok (.getfield 35, 3) := by decide +kernel
theorem dX7_toldBy_75 : decode cX7_toldBy 75 = .ok (.getfield 92, 3) := by decide +kernel
theorem dX7_toldBy_78 : decode cX7_toldBy 78 = .ok (.i2l, 1) := by decide +kernel
theorem dX7_toldBy_79 : decode cX7_toldBy 79 = .ok (.lcmp, 1) := by decide +kernel
theorem dX7_toldBy_80 : decode cX7_toldBy 80 = .ok (.ifCond .eq 6, 3) := by decide +kernel
theorem dX7_toldBy_83 : decode cX7_toldBy 83 = .ok (.goto 12, 3) := by decide +kernel
theorem dX7_toldBy_86 : decode cX7_toldBy 86 = .ok (.iinc 4 1, 3) := by decide +kernel
theorem dX7_toldBy_89 : decode cX7_toldBy 89 = .ok (.iinc 5 2, 3) := by decide +kernel
theorem dX7_toldBy_92 : decode cX7_toldBy 92 = .ok (.goto (-66), 3) := by decide +kernel
theorem dX7_toldBy_95 : decode cX7_toldBy 95 = .ok (.iload 4, 2) := by decide +kernel
theorem dX7_toldBy_97 : decode cX7_toldBy 97 = .ok (.ireturn, 1) := by decide +kernel
theorem dX7_countSet_0 : decode cX7_countSet 0 = .ok (.aload_n 0, 1) := by decide +kernel
theorem dX7_countSet_1 : decode cX7_countSet 1 = .ok (.dup, 1) := by decide +kernel
theorem dX7_countSet_2 : decode cX7_countSet 2 = .ok (.getfield 9, 3) := by decide +kernel
theorem dX7_countSet_5 : decode cX7_countSet 5 = .ok (.iconst 1, 1) := by decide +kernel
theorem dX7_countSet_6 : decode cX7_countSet 6 = .ok (.iadd, 1) := by decide +kernel
theorem dX7_countSet_7 : decode cX7_countSet 7 = .ok (.putfield 9, 3) := by decide +kernel
theorem dX7_countSet_10 : decode cX7_countSet 10 = .ok (.iconst 0, 1) := by decide +kernel
theorem dX7_countSet_11 : decode cX7_countSet 11 = .ok (.istore_n 2, 1) := by decide +kernel
theorem dX7_countSet_12 : decode cX7_countSet 12 = .ok (.iload_n 2, 1) := by decide +kernel
theorem dX7_countSet_13 : decode cX7_countSet 13 = .ok (.bipush 12, 2) := by decide +kernel
theorem dX7_countSet_15 : decode cX7_countSet 15 = .ok (.if_icmp .ge 27, 3) := by decide +kernel
theorem dX7_countSet_18 : decode cX7_countSet 18 = .ok (.iload_n 1, 1) := by decide +kernel
theorem dX7_countSet_19 : decode cX7_countSet 19 = .ok (.iconst 1, 1) := by decide +kernel
theorem dX7_countSet_20 : decode cX7_countSet 20 = .ok (.iload_n 2, 1) := by decide +kernel
theorem dX7_countSet_21 : decode cX7_countSet 21 = .ok (.ishl, 1) := by decide +kernel
theorem dX7_countSet_22 : decode cX7_countSet 22 = .ok (.iand, 1) := by decide +kernel
theorem dX7_countSet_23 : decode cX7_countSet 23 = .ok (.ifCond .eq 13, 3) := by decide +kernel
theorem dX7_countSet_26 : decode cX7_countSet 26 = .ok (.aload_n 0, 1) := by decide +kernel
theorem dX7_countSet_27 : decode cX7_countSet 27 = .ok (.getfield 18, 3) := by decide +kernel
theorem dX7_countSet_30 : decode cX7_countSet 30 = .ok (.iload_n 2, 1) := by decide +kernel
theorem dX7_countSet_31 : decode cX7_countSet 31 = .ok (.dup2, 1) := by decide +kernel
theorem dX7_countSet_32 : decode cX7_countSet 32 = .ok (.iaload, 1) := by decide +kernel
theorem dX7_countSet_33 : decode cX7_countSet 33 = .ok (.iconst 1, 1) := by decide +kernel
theorem dX7_countSet_34 : decode cX7_countSet 34 = .ok (.iadd, 1) := by decide +kernel
theorem dX7_countSet_35 : decode cX7_countSet 35 = .ok (.iastore, 1) := by decide +kernel
theorem dX7_countSet_36 : decode cX7_countSet 36 = .ok (.iinc 2 1, 3) := by decide +kernel
theorem dX7_countSet_39 : decode cX7_countSet 39 = .ok (.goto (-27), 3) := by decide +kernel
theorem dX7_countSet_42 : decode cX7_countSet 42 = .ok (.return_, 1) := by decide +kernel
theorem dX7_inAll_0 : decode cX7_inAll 0 = .ok (.iconst 0, 1) := by decide +kernel
theorem dX7_inAll_1 : decode cX7_inAll 1 = .ok (.istore_n 1, 1) := by decide +kernel
theorem dX7_inAll_2 : decode cX7_inAll 2 = .ok (.iconst 0, 1) := by decide +kernel
theorem dX7_inAll_3 : decode cX7_inAll 3 = .ok (.istore_n 2, 1) := by decide +kernel
theorem dX7_inAll_4 : decode cX7_inAll 4 = .ok (.iload_n 2, 1) := by decide +kernel
theorem dX7_inAll_5 : decode cX7_inAll 5 = .ok (.bipush 12, 2) := by decide +kernel
theorem dX7_inAll_7 : decode cX7_inAll 7 = .ok (.if_icmp .ge 35, 3) := by decide +kernel
theorem dX7_inAll_10 : decode cX7_inAll 10 = .ok (.aload_n 0, 1) := by decide +kernel
theorem dX7_inAll_11 : decode cX7_inAll 11 = .ok (.getfield 9, 3) := by decide +kernel
theorem dX7_inAll_14 : decode cX7_inAll 14 = .ok (.ifCond .le 22, 3) := by decide +kernel
theorem dX7_inAll_17 : decode cX7_inAll 17 = .ok (.aload_n 0, 1) := by decide +kernel
theorem dX7_inAll_18 : decode cX7_inAll 18 = .ok (.getfield 18, 3) := by decide +kernel
theorem dX7_inAll_21 : decode cX7_inAll 21 = .ok (.iload_n 2, 1) := by decide +kernel
theorem dX7_inAll_22 : decode cX7_inAll 22 = .ok (.iaload, 1) := by decide +kernel
theorem dX7_inAll_23 : decode cX7_inAll 23 = .ok (.aload_n 0, 1) := by decide +kernel
theorem dX7_inAll_24 : decode cX7_inAll 24 = .ok (.getfield 9, 3) := by decide +kernel
theorem dX7_inAll_27 : decode cX7_inAll 27 = .ok (.if_icmp .ne 9, 3) := by decide +kernel
theorem dX7_inAll_30 : decode cX7_inAll 30 = .ok (.iload_n 1, 1) := by decide +kernel
theorem dX7_inAll_31 : decode cX7_inAll 31 = .ok (.iconst 1, 1) := by decide +kernel
theorem dX7_inAll_32 : decode cX7_inAll 32 = .ok (.iload_n 2, 1) := by decide +kernel
theorem dX7_inAll_33 : decode cX7_inAll 33 = .ok (.ishl, 1) := by decide +kernel
theorem dX7_inAll_34 : decode cX7_inAll 34 = .ok (.ior, 1) := by decide +kernel
theorem dX7_inAll_35 : decode cX7_inAll 35 = .ok (.istore_n 1, 1) := by decide +kernel
theorem dX7_inAll_36 : decode cX7_inAll 36 = .ok (.iinc 2 1, 3) := by decide +kernel
theorem dX7_inAll_39 : decode cX7_inAll 39 = .ok (.goto (-35), 3) := by decide +kernel
theorem dX7_inAll_42 : decode cX7_inAll 42 = .ok (.iload_n 1, 1) := by decide +kernel
theorem dX7_inAll_43 : decode cX7_inAll 43 = .ok (.ireturn, 1) := by decide +kernel
theorem dX7_mostEven_0 : decode cX7_mostEven 0 = .ok (.iconst (-1), 1) := by decide +kernel
theorem dX7_mostEven_1 : decode cX7_mostEven 1 = .ok (.istore_n 2, 1) := by decide +kernel
theorem dX7_mostEven_2 : decode cX7_mostEven 2 = .ok (.iconst (-1), 1) := by decide +kernel
theorem dX7_mostEven_3 : decode cX7_mostEven 3 = .ok (.istore_n 3, 1) := by decide +kernel
theorem dX7_mostEven_4 : decode cX7_mostEven 4 = .ok (.iconst 0, 1) := by decide +kernel
theorem dX7_mostEven_5 : decode cX7_mostEven 5 = .ok (.istore 4, 2) := by decide +kernel
theorem dX7_mostEven_7 : decode cX7_mostEven 7 = .ok (.iload 4, 2) := by decide +kernel
theorem dX7_mostEven_9 : decode cX7_mostEven 9 = .ok (.aload_n 0, 1) := by decide +kernel
theorem dX7_mostEven_10 : decode cX7_mostEven 10 = .ok (.getfield 22, 3) := by decide +kernel
theorem dX7_mostEven_13 : decode cX7_mostEven 13 = .ok (.getfield 45, 3) := by decide +kernel
theorem dX7_mostEven_16 : decode cX7_mostEven 16 = .ok (.if_icmp .ge 66, 3) := by decide +kernel
theorem dX7_mostEven_19 : decode cX7_mostEven 19 = .ok (.aload_n 0, 1) := by decide +kernel
theorem dX7_mostEven_20 : decode cX7_mostEven 20 = .ok (.getfield 9, 3) := by decide +kernel
theorem dX7_mostEven_23 : decode cX7_mostEven 23 = .ok (.ifCond .le 59, 3) := by decide +kernel
theorem dX7_mostEven_26 : decode cX7_mostEven 26 = .ok (.aload_n 0, 1) := by decide +kernel
theorem dX7_mostEven_27 : decode cX7_mostEven 27 = .ok (.getfield 18, 3) := by decide +kernel
theorem dX7_mostEven_30 : decode cX7_mostEven 30 = .ok (.iload 4, 2) := by decide +kernel
theorem dX7_mostEven_32 : decode cX7_mostEven 32 = .ok (.iaload, 1) := by decide +kernel
theorem dX7_mostEven_33 : decode cX7_mostEven 33 = .ok (.aload_n 0, 1) := by decide +kernel
theorem dX7_mostEven_34 : decode cX7_mostEven 34 = .ok (.getfield 9, 3) := by decide +kernel
theorem dX7_mostEven_37 : decode cX7_mostEven 37 = .ok (.aload_n 0, 1) := by decide +kernel
theorem dX7_mostEven_38 : decode cX7_mostEven 38 = .ok (.getfield 18, 3) := by decide +kernel
theorem dX7_mostEven_41 : decode cX7_mostEven 41 = .ok (.iload 4, 2) := by decide +kernel
theorem dX7_mostEven_43 : decode cX7_mostEven 43 = .ok (.iaload, 1) := by decide +kernel
theorem dX7_mostEven_44 : decode cX7_mostEven 44 = .ok (.isub, 1) := by decide +kernel
theorem dX7_mostEven_45 : decode cX7_mostEven 45 = .ok (.invokestatic 95, 3) := by decide +kernel
theorem dX7_mostEven_48 : decode cX7_mostEven 48 = .ok (.istore 5, 2) := by decide +kernel
theorem dX7_mostEven_50 : decode cX7_mostEven 50 = .ok (.iload 4, 2) := by decide +kernel
theorem dX7_mostEven_52 : decode cX7_mostEven 52 = .ok (.aload_n 0, 1) := by decide +kernel
theorem dX7_mostEven_53 : decode cX7_mostEven 53 = .ok (.getfield 26, 3) := by decide +kernel
theorem dX7_mostEven_56 : decode cX7_mostEven 56 = .ok (.getfield 50, 3) := by decide +kernel
theorem dX7_mostEven_59 : decode cX7_mostEven 59 = .ok (.iload_n 1, 1) := by decide +kernel
theorem dX7_mostEven_60 : decode cX7_mostEven 60 = .ok (.iaload, 1) := by decide +kernel
theorem dX7_mostEven_61 : decode cX7_mostEven 61 = .ok (.if_icmp .eq 15, 3) := by decide +kernel
theorem dX7_mostEven_64 : decode cX7_mostEven 64 = .ok (.iload 5, 2) := by decide +kernel
theorem dX7_mostEven_66 : decode cX7_mostEven 66 = .ok (.iload_n 3, 1) := by decide +kernel
theorem dX7_mostEven_67 : decode cX7_mostEven 67 = .ok (.if_icmp .le 9, 3) := by decide +kernel
theorem dX7_mostEven_70 : decode cX7_mostEven 70 = .ok (.iload 5, 2) := by decide +kernel
theorem dX7_mostEven_72 : decode cX7_mostEven 72 = .ok (.istore_n 3, 1) := by decide +kernel
theorem dX7_mostEven_73 : decode cX7_mostEven 73 = .ok (.iload 4, 2) := by decide +kernel
theorem dX7_mostEven_75 : decode cX7_mostEven 75 = .ok (.istore_n 2, 1) := by decide +kernel
theorem dX7_mostEven_76 : decode cX7_mostEven 76 = .ok (.iinc 4 1, 3) := by decide +kernel
theorem dX7_mostEven_79 : decode cX7_mostEven 79 = .ok (.goto (-72), 3) := by decide +kernel
theorem dX7_mostEven_82 : decode cX7_mostEven 82 = .ok (.iload_n 2, 1) := by decide +kernel
theorem dX7_mostEven_83 : decode cX7_mostEven 83 = .ok (.ireturn, 1) := by decide +kernel
theorem dX9_init_0 : decode cX9_init 0 = .ok (.aload_n 0, 1) := by decide +kernel
theorem dX9_init_1 : decode cX9_init 1 = .ok (.invokespecial 3, 3) := by decide +kernel
theorem dX9_init_4 : decode cX9_init 4 = .ok (.aload_n 0, 1) := by decide +kernel
theorem dX9_init_5 : decode cX9_init 5 = .ok (.iconst (-1), 1) := by decide +kernel
theorem dX9_init_6 : decode cX9_init 6 = .ok (.putfield 9, 3) := by decide +kernel
theorem dX9_init_9 : decode cX9_init 9 = .ok (.aload_n 0, 1) := by decide +kernel
theorem dX9_init_10 : decode cX9_init 10 = .ok (.iconst 0, 1) := by decide +kernel
theorem dX9_init_11 : decode cX9_init 11 = .ok (.putfield 15, 3) := by decide +kernel
theorem dX9_init_14 : decode cX9_init 14 = .ok (.aload_n 0, 1) := by decide +kernel
theorem dX9_init_15 : decode cX9_init 15 = .ok (.bipush 40, 2) := by decide +kernel
theorem dX9_init_17 : decode cX9_init 17 = .ok (.newarray .long, 2) := by decide +kernel
theorem dX9_init_19 : decode cX9_init 19 = .ok (.putfield 18, 3) := by decide +kernel
theorem dX9_init_22 : decode cX9_init 22 = .ok (.return_, 1) := by decide +kernel
theorem dX9_become_0 : decode cX9_become 0 = .ok (.aload_n 0, 1) := by decide +kernel
theorem dX9_become_1 : decode cX9_become 1 = .ok (.iload_n 1, 1) := by decide +kernel
theorem dX9_become_2 : decode cX9_become 2 = .ok (.putfield 15, 3) := by decide +kernel
theorem dX9_become_5 : decode cX9_become 5 = .ok (.aload_n 0, 1) := by decide +kernel
theorem dX9_become_6 : decode cX9_become 6 = .ok (.iload_n 2, 1) := by decide +kernel
theorem dX9_become_7 : decode cX9_become 7 = .ok (.putfield 9, 3) := by decide +kernel
theorem dX9_become_10 : decode cX9_become 10 = .ok (.aload_n 0, 1) := by decide +kernel
theorem dX9_become_11 : decode cX9_become 11 = .ok (.getfield 18, 3) := by decide +kernel
theorem dX9_become_14 : decode cX9_become 14 = .ok (.lconst 0, 1) := by decide +kernel
theorem dX9_become_15 : decode cX9_become 15 = .ok (.invokestatic 22, 3) := by decide +kernel
theorem dX9_become_18 : decode cX9_become 18 = .ok (.return_, 1) := by decide +kernel
theorem dX9_isMissing_0 : decode cX9_isMissing 0 = .ok (.aload_n 0, 1) := by decide +kernel
theorem dX9_isMissing_1 : decode cX9_isMissing 1 = .ok (.getfield 9, 3) := by decide +kernel
theorem dX9_isMissing_4 : decode cX9_isMissing 4 = .ok (.iconst (-1), 1) := by decide +kernel
theorem dX9_isMissing_5 : decode cX9_isMissing 5 = .ok (.if_icmp .ne 7, 3) := by decide +kernel
theorem dX9_isMissing_8 : decode cX9_isMissing 8 = .ok (.iconst 1, 1) := by decide +kernel
theorem dX9_isMissing_9 : decode cX9_isMissing 9 = .ok (.goto 4, 3) := by decide +kernel
theorem dX9_isMissing_12 : decode cX9_isMissing 12 = .ok (.iconst 0, 1) := by decide +kernel
theorem dX9_isMissing_13 : decode cX9_isMissing 13 = .ok (.ireturn, 1) := by decide +kernel
theorem dX9_has_0 : decode cX9_has 0 = .ok (.iload_n 1, 1) := by decide +kernel
theorem dX9_has_1 : decode cX9_has 1 = .ok (.ifCond .lt 15, 3) := by decide +kernel
theorem dX9_has_4 : decode cX9_has 4 = .ok (.iload_n 1, 1) := by decide +kernel
theorem dX9_has_5 : decode cX9_has 5 = .ok (.aload_n 0, 1) := by decide +kernel
theorem dX9_has_6 : decode cX9_has 6 = .ok (.getfield 9, 3) := by decide +kernel
theorem dX9_has_9 : decode cX9_has 9 = .ok (.if_icmp .ge 7, 3) := by decide +kernel
theorem dX9_has_12 : decode cX9_has 12 = .ok (.iconst 1, 1) := by decide +kernel
theorem dX9_has_13 : decode cX9_has 13 = .ok (.goto 4, 3) := by decide +kernel
theorem dX9_has_16 : decode cX9_has 16 = .ok (.iconst 0, 1) := by decide +kernel
theorem dX9_has_17 : decode cX9_has 17 = .ok (.ireturn, 1) := by decide +kernel
theorem dX9_get_0 : decode cX9_get 0 = .ok (.aload_n 0, 1) := by decide +kernel
theorem dX9_get_1 : decode cX9_get 1 = .ok (.iload_n 1, 1) := by decide +kernel
theorem dX9_get_2 : decode cX9_get 2 = .ok (.invokevirtual 28, 3) := by decide +kernel
theorem dX9_get_5 : decode cX9_get 5 = .ok (.ifCond .eq 12, 3) := by decide +kernel
theorem dX9_get_8 : decode cX9_get 8 = .ok (.aload_n 0, 1) := by decide +kernel
theorem dX9_get_9 : decode cX9_get 9 = .ok (.getfield 18, 3) := by decide +kernel
theorem dX9_get_12 : decode cX9_get 12 = .ok (.iload_n 1, 1) := by decide +kernel
theorem dX9_get_13 : decode cX9_get 13 = .ok (.laload, 1) := by decide +kernel
theorem dX9_get_14 : decode cX9_get 14 = .ok (.goto 4, 3) := by decide +kernel
theorem dX9_get_17 : decode cX9_get 17 = .ok (.lconst 0, 1) := by decide +kernel
theorem dX9_get_18 : decode cX9_get 18 = .ok (.lreturn, 1) := by decide +kernel
theorem dX9_put_0 : decode cX9_put 0 = .ok (.aload_n 0, 1) := by decide +kernel
theorem dX9_put_1 : decode cX9_put 1 = .ok (.iload_n 1, 1) := by decide +kernel
theorem dX9_put_2 : decode cX9_put 2 = .ok (.invokevirtual 28, 3) := by decide +kernel
theorem dX9_put_5 : decode cX9_put 5 = .ok (.ifCond .ne 5, 3) := by decide +kernel
theorem dX9_put_8 : decode cX9_put 8 = .ok (.lconst 0, 1) := by decide +kernel
theorem dX9_put_9 : decode cX9_put 9 = .ok (.lreturn, 1) := by decide +kernel
theorem dX9_put_10 : decode cX9_put 10 = .ok (.aload_n 0, 1) := by decide +kernel
theorem dX9_put_11 : decode cX9_put 11 = .ok (.getfield 18, 3) := by decide +kernel
theorem dX9_put_14 : decode cX9_put 14 = .ok (.iload_n 1, 1) := by decide +kernel
theorem dX9_put_15 : decode cX9_put 15 = .ok (.aload_n 0, 1) := by decide +kernel
theorem dX9_put_16 : decode cX9_put 16 = .ok (.lload_n 2, 1) := by decide +kernel
theorem dX9_put_17 : decode cX9_put 17 = .ok (.invokevirtual 32, 3) := by decide +kernel
theorem dX9_put_20 : decode cX9_put 20 = .ok (.lastore, 1) := by decide +kernel
theorem dX9_put_21 : decode cX9_put 21 = .ok (.aload_n 0, 1) := by decide +kernel
theorem dX9_put_22 : decode cX9_put 22 = .ok (.getfield 18, 3) := by decide +kernel
theorem dX9_put_25 : decode cX9_put 25 = .ok (.iload_n 1, 1) := by decide +kernel
theorem dX9_put_26 : decode cX9_put 26 = .ok (.laload, 1) := by decide +kernel
theorem dX9_put_27 : decode cX9_put 27 = .ok (.lreturn, 1) := by decide +kernel
theorem dX9_cut_0 : decode cX9_cut 0 = .ok (.aload_n 0, 1) := by decide +kernel
theorem dX9_cut_1 : decode cX9_cut 1 = .ok (.getfield 15, 3) := by decide +kernel
theorem dX9_cut_4 : decode cX9_cut 4 = .ok (.tableswitch 42 0 2 #[28, 33, 38], 28) := by decide +kernel
theorem dX9_cut_32 : decode cX9_cut 32 = .ok (.lload_n 1, 1) := by decide +kernel
theorem dX9_cut_33 : decode cX9_cut 33 = .ok (.l2i, 1) := by decide +kernel
theorem dX9_cut_34 : decode cX9_cut 34 = .ok (.i2b, 1) := by decide +kernel
theorem dX9_cut_35 : decode cX9_cut 35 = .ok (.i2l, 1) := by decide +kernel
theorem dX9_cut_36 : decode cX9_cut 36 = .ok (.lreturn, 1) := by decide +kernel
theorem dX9_cut_37 : decode cX9_cut 37 = .ok (.lload_n 1, 1) := by decide +kernel
theorem dX9_cut_38 : decode cX9_cut 38 = .ok (.l2i, 1) := by decide +kernel
theorem dX9_cut_39 : decode cX9_cut 39 = .ok (.i2s, 1) := by decide +kernel
theorem dX9_cut_40 : decode cX9_cut 40 = .ok (.i2l, 1) := by decide +kernel
theorem dX9_cut_41 : decode cX9_cut 41 = .ok (.lreturn, 1) := by decide +kernel
theorem dX9_cut_42 : decode cX9_cut 42 = .ok (.lload_n 1, 1) := by decide +kernel
theorem dX9_cut_43 : decode cX9_cut 43 = .ok (.l2i, 1) := by decide +kernel
theorem dX9_cut_44 : decode cX9_cut 44 = .ok (.i2l, 1) := by decide +kernel
theorem dX9_cut_45 : decode cX9_cut 45 = .ok (.lreturn, 1) := by decide +kernel
theorem dX9_cut_46 : decode cX9_cut 46 = .ok (.lload_n 1, 1) := by decide +kernel
theorem dX9_cut_47 : decode cX9_cut 47 = .ok (.lreturn, 1) := by decide +kernel
theorem dX10_init_0 : decode cX10_init 0 = .ok (.aload_n 0, 1) := by decide +kernel
theorem dX10_init_1 : decode cX10_init 1 = .ok (.invokespecial 3, 3) := by decide +kernel
theorem dX10_init_4 : decode cX10_init 4 = .ok (.aload_n 0, 1) := by decide +kernel
theorem dX10_init_5 : decode cX10_init 5 = .ok (.iconst 0, 1) := by decide +kernel
theorem dX10_init_6 : decode cX10_init 6 = .ok (.putfield 9, 3) := by decide +kernel
theorem dX10_init_9 : decode cX10_init 9 = .ok (.aload_n 0, 1) := by decide +kernel
theorem dX10_init_10 : decode cX10_init 10 = .ok (.iconst 0, 1) := by decide +kernel
theorem dX10_init_11 : decode cX10_init 11 = .ok (.putfield 15, 3) := by decide +kernel
theorem dX10_init_14 : decode cX10_init 14 = .ok (.aload_n 0, 1) := by decide +kernel
theorem dX10_init_15 : decode cX10_init 15 = .ok (.iconst 0, 1) := by decide +kernel
theorem dX10_init_16 : decode cX10_init 16 = .ok (.putfield 18, 3) := by decide +kernel
theorem dX10_init_19 : decode cX10_init 19 = .ok (.aload_n 0, 1) := by decide +kernel
theorem dX10_init_20 : decode cX10_init 20 = .ok (.iconst 0, 1) := by decide +kernel
theorem dX10_init_21 : decode cX10_init 21 = .ok (.putfield 21, 3) := by decide +kernel
theorem dX10_init_24 : decode cX10_init 24 = .ok (.aload_n 0, 1) := by decide +kernel
theorem dX10_init_25 : decode cX10_init 25 = .ok (.iconst 1, 1) := by decide +kernel
theorem dX10_init_26 : decode cX10_init 26 = .ok (.putfield 24, 3) := by decide +kernel
theorem dX10_init_29 : decode cX10_init 29 = .ok (.aload_n 0, 1) := by decide +kernel
theorem dX10_init_30 : decode cX10_init 30 = .ok (.iconst 0, 1) := by decide +kernel
theorem dX10_init_31 : decode cX10_init 31 = .ok (.putfield 27, 3) := by decide +kernel
theorem dX10_init_34 : decode cX10_init 34 = .ok (.aload_n 0, 1) := by decide +kernel
theorem dX10_init_35 : decode cX10_init 35 = .ok (.aload_n 1, 1) := by decide +kernel
theorem dX10_init_36 : decode cX10_init 36 = .ok (.putfield 30, 3) := by decide +kernel
theorem dX10_init_39 : decode cX10_init 39 = .ok (.return_, 1) := by decide +kernel
theorem dX10_begin_0 : decode cX10_begin 0 = .ok (.aload_n 0, 1) := by decide +kernel
theorem dX10_begin_1 : decode cX10_begin 1 = .ok (.iload_n 2, 1) := by decide +kernel
theorem dX10_begin_2 : decode cX10_begin 2 = .ok (.putfield 9, 3) := by decide +kernel
theorem dX10_begin_5 : decode cX10_begin 5 = .ok (.aload_n 0, 1) := by decide +kernel
theorem dX10_begin_6 : decode cX10_begin 6 = .ok (.aload_n 1, 1) := by decide +kernel
theorem dX10_begin_7 : decode cX10_begin 7 = .ok (.getfield 34, 3) := by decide +kernel
theorem dX10_begin_10 : decode cX10_begin 10 = .ok (.iload_n 2, 1) := by decide +kernel
theorem dX10_begin_11 : decode cX10_begin 11 = .ok (.iaload, 1) := by decide +kernel
theorem dX10_begin_12 : decode cX10_begin 12 = .ok (.putfield 15, 3) := by decide +kernel
theorem dX10_begin_15 : decode cX10_begin 15 = .ok (.aload_n 0, 1) := by decide +kernel
theorem dX10_begin_16 : decode cX10_begin 16 = .ok (.aload_n 1, 1) := by decide +kernel
theorem dX10_begin_17 : decode cX10_begin 17 = .ok (.getfield 40, 3) := by decide +kernel
theorem dX10_begin_20 : decode cX10_begin 20 = .ok (.iload_n 2, 1) := by decide +kernel
theorem dX10_begin_21 : decode cX10_begin 21 = .ok (.iaload, 1) := by decide +kernel
theorem dX10_begin_22 : decode cX10_begin 22 = .ok (.putfield 18, 3) := by decide +kernel
theorem dX10_begin_25 : decode cX10_begin 25 = .ok (.aload_n 0, 1) := by decide +kernel
theorem dX10_begin_26 : decode cX10_begin 26 = .ok (.aload_n 1, 1) := by decide +kernel
theorem dX10_begin_27 : decode cX10_begin 27 = .ok (.getfield 43, 3) := by decide +kernel
theorem dX10_begin_30 : decode cX10_begin 30 = .ok (.iload_n 2, 1) := by decide +kernel
theorem dX10_begin_31 : decode cX10_begin 31 = .ok (.iaload, 1) := by decide +kernel
theorem dX10_begin_32 : decode cX10_begin 32 = .ok (.putfield 21, 3) := by decide +kernel
theorem dX10_begin_35 : decode cX10_begin 35 = .ok (.aload_n 0, 1) := by decide +kernel
theorem dX10_begin_36 : decode cX10_begin 36 = .ok (.aload_n 1, 1) := by decide +kernel
theorem dX10_begin_37 : decode cX10_begin 37 = .ok (.getfield 45, 3) := by decide +kernel
theorem dX10_begin_40 : decode cX10_begin 40 = .ok (.iload_n 2, 1) := by decide +kernel
theorem dX10_begin_41 : decode cX10_begin 41 = .ok (.iaload, 1) := by decide +kernel
theorem dX10_begin_42 : decode cX10_begin 42 = .ok (.putfield 24, 3) := by decide +kernel
theorem dX10_begin_45 : decode cX10_begin 45 = .ok (.aload_n 0, 1) := by decide +kernel
theorem dX10_begin_46 : decode cX10_begin 46 = .ok (.aload_n 0, 1) := by decide +kernel
theorem dX10_begin_47 : decode cX10_begin 47 = .ok (.getfield 18, 3) := by decide +kernel
theorem dX10_begin_50 : decode cX10_begin 50 = .ok (.putfield 27, 3) := by decide +kernel
theorem dX10_begin_53 : decode cX10_begin 53 = .ok (.return_, 1) := by decide +kernel
theorem dX10_nextStop_0 : decode cX10_nextStop 0 = .ok (.aload_n 0, 1) := by decide +kernel
theorem dX10_nextStop_1 : decode cX10_nextStop 1 = .ok (.getfield 24, 3) := by decide +kernel
theorem dX10_nextStop_4 : decode cX10_nextStop 4 = .ok (.iconst 1, 1) := by decide +kernel
theorem dX10_nextStop_5 : decode cX10_nextStop 5 = .ok (.if_icmp .ne 10, 3) := by decide +kernel
theorem dX10_nextStop_8 : decode cX10_nextStop 8 = .ok (.aload_n 0, 1) := by decide +kernel
theorem dX10_nextStop_9 : decode cX10_nextStop 9 = .ok (.invokevirtual 47, 3) := by decide +kernel
theorem dX10_nextStop_12 : decode cX10_nextStop 12 = .ok (.goto 7, 3) := by decide +kernel
theorem dX10_nextStop_15 : decode cX10_nextStop 15 = .ok (.aload_n 0, 1) := by decide +kernel
theorem dX10_nextStop_16 : decode cX10_nextStop 16 = .ok (.invokevirtual 51, 3) := by decide +kernel
theorem dX10_nextStop_19 : decode cX10_nextStop 19 = .ok (.istore_n 1, 1) := by decide +kernel
theorem dX10_nextStop_20 : decode cX10_nextStop 20 = .ok (.iload_n 1, 1) := by decide +kernel
theorem dX10_nextStop_21 : decode cX10_nextStop 21 = .ok (.iconst (-1), 1) := by decide +kernel
theorem dX10_nextStop_22 : decode cX10_nextStop 22 = .ok (.if_icmp .eq 5, 3) := by decide +kernel
theorem dX10_nextStop_25 : decode cX10_nextStop 25 = .ok (.iload_n 1, 1) := by decide +kernel
theorem dX10_nextStop_26 : decode cX10_nextStop 26 = .ok (.ireturn, 1) := by decide +kernel
theorem dX10_nextStop_27 : decode cX10_nextStop 27 = .ok (.aload_n 0, 1) := by decide +kernel
theorem dX10_nextStop_28 : decode cX10_nextStop 28 = .ok (.getfield 24, 3) := by decide +kernel
theorem dX10_nextStop_31 : decode cX10_nextStop 31 = .ok (.iconst 1, 1) := by decide +kernel
theorem dX10_nextStop_32 : decode cX10_nextStop 32 = .ok (.if_icmp .ne 10, 3) := by decide +kernel
theorem dX10_nextStop_35 : decode cX10_nextStop 35 = .ok (.aload_n 0, 1) := by decide +kernel
theorem dX10_nextStop_36 : decode cX10_nextStop 36 = .ok (.invokevirtual 51, 3) := by decide +kernel
theorem dX10_nextStop_39 : decode cX10_nextStop 39 = .ok (.goto 7, 3) := by decide +kernel
theorem dX10_nextStop_42 : decode cX10_nextStop 42 = .ok (.aload_n 0, 1) := by decide +kernel
theorem dX10_nextStop_43 : decode cX10_nextStop 43 = .ok (.invokevirtual 47, 3) := by decide +kernel
theorem dX10_nextStop_46 : decode cX10_nextStop 46 = .ok (.ireturn, 1) := by decide +kernel
theorem dX10_rideOn_0 : decode cX10_rideOn 0 = .ok (.aload_n 0, 1) := by decide +kernel
theorem dX10_rideOn_1 : decode cX10_rideOn 1 = .ok (.invokevirtual 54, 3) := by decide +kernel
theorem dX10_rideOn_4 : decode cX10_rideOn 4 = .ok (.istore_n 1, 1) := by decide +kernel
theorem dX10_rideOn_5 : decode cX10_rideOn 5 = .ok (.iload_n 1, 1) := by decide +kernel
theorem dX10_rideOn_6 : decode cX10_rideOn 6 = .ok (.iconst (-1), 1) := by decide +kernel
theorem dX10_rideOn_7 : decode cX10_rideOn 7 = .ok (.if_icmp .ne 5, 3) := by decide +kernel
theorem dX10_rideOn_10 : decode cX10_rideOn 10 = .ok (.iconst 0, 1) := by decide +kernel
theorem dX10_rideOn_11 : decode cX10_rideOn 11 = .ok (.ireturn, 1) := by decide +kernel
theorem dX10_rideOn_12 : decode cX10_rideOn 12 = .ok (.aload_n 0, 1) := by decide +kernel
theorem dX10_rideOn_13 : decode cX10_rideOn 13 = .ok (.aload_n 0, 1) := by decide +kernel
theorem dX10_rideOn_14 : decode cX10_rideOn 14 = .ok (.getfield 18, 3) := by decide +kernel
theorem dX10_rideOn_17 : decode cX10_rideOn 17 = .ok (.aload_n 0, 1) := by decide +kernel
theorem dX10_rideOn_18 : decode cX10_rideOn 18 = .ok (.getfield 30, 3) := by decide +kernel
theorem dX10_rideOn_21 : decode cX10_rideOn 21 = .ok (.getfield 57, 3) := by decide +kernel
theorem dX10_rideOn_24 : decode cX10_rideOn 24 = .ok (.aload_n 0, 1) := by decide +kernel
theorem dX10_rideOn_25 : decode cX10_rideOn 25 = .ok (.getfield 9, 3) := by decide +kernel
theorem dX10_rideOn_28 : decode cX10_rideOn 28 = .ok (.iaload, 1) := by decide +kernel
theorem dX10_rideOn_29 : decode cX10_rideOn 29 = .ok (.iload_n 1, 1) := by decide +kernel
theorem dX10_rideOn_30 : decode cX10_rideOn 30 = .ok (.aload_n 0, 1) := by decide +kernel
theorem dX10_rideOn_31 : decode cX10_rideOn 31 = .ok (.getfield 15, 3) := by decide +kernel
theorem dX10_rideOn_34 : decode cX10_rideOn 34 = .ok (.isub, 1) := by decide +kernel
theorem dX10_rideOn_35 : decode cX10_rideOn 35 = .ok (.invokestatic 62, 3) := by decide +kernel
theorem dX10_rideOn_38 : decode cX10_rideOn 38 = .ok (.imul, 1) := by decide +kernel
theorem dX10_rideOn_39 : decode cX10_rideOn 39 = .ok (.iadd, 1) := by decide +kernel
theorem dX10_rideOn_40 : decode cX10_rideOn 40 = .ok (.putfield 27, 3) := by decide +kernel
theorem dX10_rideOn_43 : decode cX10_rideOn 43 = .ok (.aload_n 0, 1) := by decide +kernel
theorem dX10_rideOn_44 : decode cX10_rideOn 44 = .ok (.aload_n 0, 1) := by decide +kernel
theorem dX10_rideOn_45 : decode cX10_rideOn 45 = .ok (.getfield 27, 3) := by decide +kernel
theorem dX10_rideOn_48 : decode cX10_rideOn 48 = .ok (.aload_n 0, 1) := by decide +kernel
theorem dX10_rideOn_49 : decode cX10_rideOn 49 = .ok (.getfield 30, 3) := by decide +kernel
theorem dX10_rideOn_52 : decode cX10_rideOn 52 = .ok (.aload_n 0, 1) := by decide +kernel
theorem dX10_rideOn_53 : decode cX10_rideOn 53 = .ok (.getfield 9, 3) := by decide +kernel
theorem dX10_rideOn_56 : decode cX10_rideOn 56 = .ok (.iload_n 1, 1) := by decide +kernel
theorem dX10_rideOn_57 : decode cX10_rideOn 57 = .ok (.aload_n 0, 1) := by decide +kernel
theorem dX10_rideOn_58 : decode cX10_rideOn 58 = .ok (.getfield 21, 3) := by decide +kernel
theorem dX10_rideOn_61 : decode cX10_rideOn 61 = .ok (.invokestatic 68, 3) := by decide +kernel
theorem dX10_rideOn_64 : decode cX10_rideOn 64 = .ok (.invokevirtual 73, 3) := by decide +kernel
theorem dX10_rideOn_67 : decode cX10_rideOn 67 = .ok (.iadd, 1) := by decide +kernel
theorem dX10_rideOn_68 : decode cX10_rideOn 68 = .ok (.putfield 18, 3) := by decide +kernel
theorem dX10_rideOn_71 : decode cX10_rideOn 71 = .ok (.aload_n 0, 1) := by decide +kernel
theorem dX10_rideOn_72 : decode cX10_rideOn 72 = .ok (.iload_n 1, 1) := by decide +kernel
theorem dX10_rideOn_73 : decode cX10_rideOn 73 = .ok (.aload_n 0, 1) := by decide +kernel
theorem dX10_rideOn_74 : decode cX10_rideOn 74 = .ok (.getfield 15, 3) := by decide +kernel
theorem dX10_rideOn_77 : decode cX10_rideOn 77 = .ok (.if_icmp .le 7, 3) := by decide +kernel
theorem dX10_rideOn_80 : decode cX10_rideOn 80 = .ok (.iconst 1, 1) := by decide +kernel
theorem dX10_rideOn_81 : decode cX10_rideOn 81 = .ok (.goto 4, 3) := by decide +kernel
theorem dX10_rideOn_84 : decode cX10_rideOn 84 = .ok (.iconst 0, 1) := by decide +kernel
theorem dX10_rideOn_85 : decode cX10_rideOn 85 = .ok (.putfield 24, 3) := by decide +kernel
theorem dX10_rideOn_88 : decode cX10_rideOn 88 = .ok (.aload_n 0, 1) := by decide +kernel
theorem dX10_rideOn_89 : decode cX10_rideOn 89 = .ok (.dup, 1) := by decide +kernel
theorem dX10_rideOn_90 : decode cX10_rideOn 90 = .ok (.getfield 21, 3) := by decide +kernel
theorem dX10_rideOn_93 : decode cX10_rideOn 93 = .ok (.iconst 1, 1) := by decide +kernel
theorem dX10_rideOn_94 : decode cX10_rideOn 94 = .ok (.iload_n 1, 1) := by decide +kernel
theorem dX10_rideOn_95 : decode cX10_rideOn 95 = .ok (.ishl, 1) := by decide +kernel
theorem dX10_rideOn_96 : decode cX10_rideOn 96 = .ok (.ixor, 1) := by decide +kernel
theorem dX10_rideOn_97 : decode cX10_rideOn 97 = .ok (.putfield 21, 3) := by decide +kernel
theorem dX10_rideOn_100 : decode cX10_rideOn 100 = .ok (.aload_n 0, 1) := by decide +kernel
theorem dX10_rideOn_101 : decode cX10_rideOn 101 = .ok (.iload_n 1, 1) := by decide +kernel
theorem dX10_rideOn_102 : decode cX10_rideOn 102 = .ok (.putfield 15, 3) := by decide +kernel
theorem dX10_rideOn_105 : decode cX10_rideOn 105 = .ok (.iconst 1, 1) := by decide +kernel
theorem dX10_rideOn_106 : decode cX10_rideOn 106 = .ok (.ireturn, 1) := by decide +kernel
theorem dX10_rideOut_0 : decode cX10_rideOut 0 = .ok (.iconst 0, 1) := by decide +kernel
theorem dX10_rideOut_1 : decode cX10_rideOut 1 = .ok (.istore_n 1, 1) := by decide +kernel
theorem dX10_rideOut_2 : decode cX10_rideOut 2 = .ok (.iload_n 1, 1) := by decide +kernel
theorem dX10_rideOut_3 : decode cX10_rideOut 3 = .ok (.bipush 12, 2) := by decide +kernel
theorem dX10_rideOut_5 : decode cX10_rideOut 5 = .ok (.if_icmp .ge 14, 3) := by decide +kernel
theorem dX10_rideOut_8 : decode cX10_rideOut 8 = .ok (.aload_n 0, 1) := by decide +kernel
theorem dX10_rideOut_9 : decode cX10_rideOut 9 = .ok (.invokevirtual 77, 3) := by decide +kernel
theorem dX10_rideOut_12 : decode cX10_rideOut 12 = .ok (.pop, 1) := by decide +kernel
theorem dX10_rideOut_13 : decode cX10_rideOut 13 = .ok (.iinc 1 1, 3) := by decide +kernel
theorem dX10_rideOut_16 : decode cX10_rideOut 16 = .ok (.goto (-14), 3) := by decide +kernel
theorem dX10_rideOut_19 : decode cX10_rideOut 19 = .ok (.return_, 1) := by decide +kernel
theorem dX10_comesTo_0 : decode cX10_comesTo 0 = .ok (.iconst 0, 1) := by decide +kernel
theorem dX10_comesTo_1 : decode cX10_comesTo 1 = .ok (.istore_n 2, 1) := by decide +kernel
theorem dX10_comesTo_2 : decode cX10_comesTo 2 = .ok (.iload_n 2, 1) := by decide +kernel
theorem dX10_comesTo_3 : decode cX10_comesTo 3 = .ok (.bipush 12, 2) := by decide +kernel
theorem dX10_comesTo_5 : decode cX10_comesTo 5 = .ok (.if_icmp .ge 29, 3) := by decide +kernel
theorem dX10_comesTo_8 : decode cX10_comesTo 8 = .ok (.aload_n 0, 1) := by decide +kernel
theorem dX10_comesTo_9 : decode cX10_comesTo 9 = .ok (.invokevirtual 77, 3) := by decide +kernel
theorem dX10_comesTo_12 : decode cX10_comesTo 12 = .ok (.ifCond .eq 22, 3) := by decide +kernel
theorem dX10_comesTo_15 : decode cX10_comesTo 15 = .ok (.aload_n 0, 1) := by decide +kernel
theorem dX10_comesTo_16 : decode cX10_comesTo 16 = .ok (.getfield 15, 3) := by decide +kernel
theorem dX10_comesTo_19 : decode cX10_comesTo 19 = .ok (.iload_n 1, 1) := by decide +kernel
theorem dX10_comesTo_20 : decode cX10_comesTo 20 = .ok (.if_icmp .ne 8, 3) := by decide +kernel
theorem dX10_comesTo_23 : decode cX10_comesTo 23 = .ok (.aload_n 0, 1) := by decide +kernel
theorem dX10_comesTo_24 : decode cX10_comesTo 24 = .ok (.getfield 27, 3) := by decide +kernel
theorem dX10_comesTo_27 : decode cX10_comesTo 27 = .ok (.ireturn, 1) := by decide +kernel
theorem dX10_comesTo_28 : decode cX10_comesTo 28 = .ok (.iinc 2 1, 3) := by decide +kernel
theorem dX10_comesTo_31 : decode cX10_comesTo 31 = .ok (.goto (-29), 3) := by decide +kernel
theorem dX10_comesTo_34 : decode cX10_comesTo 34 = .ok (.iconst (-1), 1) := by decide +kernel
theorem dX10_comesTo_35 : decode cX10_comesTo 35 = .ok (.ireturn, 1) := by decide +kernel
theorem dX10_nextAbove_0 : decode cX10_nextAbove 0 = .ok (.aload_n 0, 1) := by decide +kernel
theorem dX10_nextAbove_1 : decode cX10_nextAbove 1 = .ok (.getfield 15, 3) := by decide +kernel
theorem dX10_nextAbove_4 : decode cX10_nextAbove 4 = .ok (.iconst 1, 1) := by decide +kernel
theorem dX10_nextAbove_5 : decode cX10_nextAbove 5 = .ok (.iadd, 1) := by decide +kernel
theorem dX10_nextAbove_6 : decode cX10_nextAbove 6 = .ok (.istore_n 1, 1) := by decide +kernel
theorem dX10_nextAbove_7 : decode cX10_nextAbove 7 = .ok (.iload_n 1, 1) := by decide +kernel
theorem dX10_nextAbove_8 : decode cX10_nextAbove 8 = .ok (.bipush 12, 2) := by decide +kernel
theorem dX10_nextAbove_10 : decode cX10_nextAbove 10 = .ok (.if_icmp .ge 22, 3) := by decide +kernel
theorem dX10_nextAbove_13 : decode cX10_nextAbove 13 = .ok (.aload_n 0, 1) := by decide +kernel
theorem dX10_nextAbove_14 : decode cX10_nextAbove 14 = .ok (.getfield 21, 3) := by decide +kernel
theorem dX10_nextAbove_17 : decode cX10_nextAbove 17 = .ok (.iconst 1, 1) := by decide +kernel
theorem dX10_nextAbove_18 : decode cX10_nextAbove 18 = .ok (.iload_n 1, 1) := by decide +kernel
theorem dX10_nextAbove_19 : decode cX10_nextAbove 19 = .ok (.ishl, 1) := by decide +kernel
theorem dX10_nextAbove_20 : decode cX10_nextAbove 20 = .ok (.iand, 1) := by decide +kernel
theorem dX10_nextAbove_21 : decode cX10_nextAbove 21 = .ok (.ifCond .eq 5, 3) := by decide +kernel
theorem dX10_nextAbove_24 : decode cX10_nextAbove 24 = .ok (.iload_n 1, 1) := by decide +kernel
theorem dX10_nextAbove_25 : decode cX10_nextAbove 25 = .ok (.ireturn, 1) := by decide +kernel
theorem dX10_nextAbove_26 : decode cX10_nextAbove 26 = .ok (.iinc 1 1, 3) := by decide +kernel
theorem dX10_nextAbove_29 : decode cX10_nextAbove 29 = .ok (.goto (-22), 3) := by decide +kernel
theorem dX10_nextAbove_32 : decode cX10_nextAbove 32 = .ok (.iconst (-1), 1) := by decide +kernel
theorem dX10_nextAbove_33 : decode cX10_nextAbove 33 = .ok (.ireturn, 1) := by decide +kernel
theorem dX10_nextBelow_0 : decode cX10_nextBelow 0 = .ok (.aload_n 0, 1) := by decide +kernel
theorem dX10_nextBelow_1 : decode cX10_nextBelow 1 = .ok (.getfield 15, 3) := by decide +kernel
theorem dX10_nextBelow_4 : decode cX10_nextBelow 4 = .ok (.iconst 1, 1) := by decide +kernel
theorem dX10_nextBelow_5 : decode cX10_nextBelow 5 = .ok (.isub, 1) := by decide +kernel
theorem dX10_nextBelow_6 : decode cX10_nextBelow 6 = .ok (.istore_n 1, 1) := by decide +kernel
theorem dX10_nextBelow_7 : decode cX10_nextBelow 7 = .ok (.iload_n 1, 1) := by decide +kernel
theorem dX10_nextBelow_8 : decode cX10_nextBelow 8 = .ok (.ifCond .lt 22, 3) := by decide +kernel
theorem dX10_nextBelow_11 : decode cX10_nextBelow 11 = .ok (.aload_n 0, 1) := by decide +kernel
theorem dX10_nextBelow_12 : decode cX10_nextBelow 12 = .ok (.getfield 21, 3) := by decide +kernel
theorem dX10_nextBelow_15 : decode cX10_nextBelow 15 = .ok (.iconst 1, 1) := by decide +kernel
theorem dX10_nextBelow_16 : decode cX10_nextBelow 16 = .ok (.iload_n 1, 1) := by decide +kernel
theorem dX10_nextBelow_17 : decode cX10_nextBelow 17 = .ok (.ishl, 1) := by decide +kernel
theorem dX10_nextBelow_18 : decode cX10_nextBelow 18 = .ok (.iand, 1) := by decide +kernel
theorem dX10_nextBelow_19 : decode cX10_nextBelow 19 = .ok (.ifCond .eq 5, 3) := by decide +kernel
theorem dX10_nextBelow_22 : decode cX10_nextBelow 22 = .ok (.iload_n 1, 1) := by decide +kernel
theorem dX10_nextBelow_23 : decode cX10_nextBelow 23 = .ok (.ireturn, 1) := by decide +kernel
theorem dX10_nextBelow_24 : decode cX10_nextBelow 24 = .ok (.iinc 1 (-1), 3) := by decide +kernel
theorem dX10_nextBelow_27 : decode cX10_nextBelow 27 = .ok (.goto (-20), 3) := by decide +kernel
theorem dX10_nextBelow_30 : decode cX10_nextBelow 30 = .ok (.iconst (-1), 1) := by decide +kernel
theorem dX10_nextBelow_31 : decode cX10_nextBelow 31 = .ok (.ireturn, 1) := by decide +kernel
theorem dX3_init_0 : decode cX3_init 0 = .ok (.aload_n 0, 1) := by decide +kernel
theorem dX3_init_1 : decode cX3_init 1 = .ok (.invokespecial 3, 3) := by decide +kernel
theorem dX3_init_4 : decode cX3_init 4 = .ok (.aload_n 0, 1) := by decide +kernel
theorem dX3_init_5 : decode cX3_init 5 = .ok (.bipush 8, 2) := by decide +kernel
theorem dX3_init_7 : decode cX3_init 7 = .ok (.newarray .int, 2) := by decide +kernel
theorem dX3_init_9 : decode cX3_init 9 = .ok (.putfield 9, 3) := by decide +kernel
theorem dX3_init_12 : decode cX3_init 12 = .ok (.aload_n 0, 1) := by decide +kernel
theorem dX3_init_13 : decode cX3_init 13 = .ok (.bipush 8, 2) := by decide +kernel
theorem dX3_init_15 : decode cX3_init 15 = .ok (.newarray .int, 2) := by decide +kernel
theorem dX3_init_17 : decode cX3_init 17 = .ok (.putfield 15, 3) := by decide +kernel
theorem dX3_init_20 : decode cX3_init 20 = .ok (.aload_n 0, 1) := by decide +kernel
theorem dX3_init_21 : decode cX3_init 21 = .ok (.lconst 0, 1) := by decide +kernel
theorem dX3_init_22 : decode cX3_init 22 = .ok (.putfield 18, 3) := by decide +kernel
theorem dX3_init_25 : decode cX3_init 25 = .ok (.aload_n 0, 1) := by decide +kernel
theorem dX3_init_26 : decode cX3_init 26 = .ok (.iconst 0, 1) := by decide +kernel
theorem dX3_init_27 : decode cX3_init 27 = .ok (.putfield 22, 3) := by decide +kernel
theorem dX3_init_30 : decode cX3_init 30 = .ok (.aload_n 0, 1) := by decide +kernel
theorem dX3_init_31 : decode cX3_init 31 = .ok (.lconst 0, 1) := by decide +kernel
theorem dX3_init_32 : decode cX3_init 32 = .ok (.putfield 26, 3) := by decide +kernel
theorem dX3_init_35 : decode cX3_init 35 = .ok (.aload_n 0, 1) := by decide +kernel
theorem dX3_init_36 : decode cX3_init 36 = .ok (.lconst 1, 1) := by decide +kernel
theorem dX3_init_37 : decode cX3_init 37 = .ok (.putfield 29, 3) := by decide +kernel
theorem dX3_init_40 : decode cX3_init 40 = .ok (.aload_n 0, 1) := by decide +kernel
theorem dX3_init_41 : decode cX3_init 41 = .ok (.aload_n 1, 1) := by decide +kernel
theorem dX3_init_42 : decode cX3_init 42 = .ok (.putfield 32, 3) := by decide +kernel
theorem dX3_init_45 : decode cX3_init 45 = .ok (.aload_n 0, 1) := by decide +kernel
theorem dX3_init_46 : decode cX3_init 46 = .ok (.aload_n 2, 1) := by decide +kernel
theorem dX3_init_47 : decode cX3_init 47 = .ok (.putfield 36, 3) := by decide +kernel
theorem dX3_init_50 : decode cX3_init 50 = .ok (.aload_n 0, 1) := by decide +kernel
theorem dX3_init_51 : decode cX3_init 51 = .ok (.new 40, 3) := by decide +kernel
theorem dX3_init_54 : decode cX3_init 54 = .ok (.dup, 1) := by decide +kernel
theorem dX3_init_55 : decode cX3_init 55 = .ok (.aload_n 1, 1) := by decide +kernel
theorem dX3_init_56 : decode cX3_init 56 = .ok (.invokespecial 42, 3) := by decide +kernel
theorem dX3_init_59 : decode cX3_init 59 = .ok (.putfield 45, 3) := by decide +kernel
theorem dX3_init_62 : decode cX3_init 62 = .ok (.return_, 1) := by decide +kernel
theorem dX3_weigh_0 : decode cX3_weigh 0 = .ok (.aload_n 0, 1) := by decide +kernel
theorem dX3_weigh_1 : decode cX3_weigh 1 = .ok (.getfield 45, 3) := by decide +kernel
theorem dX3_weigh_4 : decode cX3_weigh 4 = .ok (.aload_n 0, 1) := by decide +kernel
theorem dX3_weigh_5 : decode cX3_weigh 5 = .ok (.getfield 36, 3) := by decide +kernel
theorem dX3_weigh_8 : decode cX3_weigh 8 = .ok (.iload_n 1, 1) := by decide +kernel
theorem dX3_weigh_9 : decode cX3_weigh 9 = .ok (.invokevirtual 49, 3) := by decide +kernel
theorem dX3_weigh_12 : decode cX3_weigh 12 = .ok (.aload_n 0, 1) := by decide +kernel
theorem dX3_weigh_13 : decode cX3_weigh 13 = .ok (.getfield 45, 3) := by decide +kernel
theorem dX3_weigh_16 : decode cX3_weigh 16 = .ok (.iload_n 2, 1) := by decide +kernel
theorem dX3_weigh_17 : decode cX3_weigh 17 = .ok (.putfield 53, 3) := by decide +kernel
theorem dX3_weigh_20 : decode cX3_weigh 20 = .ok (.iconst 0, 1) := by decide +kernel
theorem dX3_weigh_21 : decode cX3_weigh 21 = .ok (.istore_n 3, 1) := by decide +kernel
theorem dX3_weigh_22 : decode cX3_weigh 22 = .ok (.iload_n 3, 1) := by decide +kernel
theorem dX3_weigh_23 : decode cX3_weigh 23 = .ok (.aload_n 0, 1) := by decide +kernel
theorem dX3_weigh_24 : decode cX3_weigh 24 = .ok (.getfield 32, 3) := by decide +kernel
theorem dX3_weigh_27 : decode cX3_weigh 27 = .ok (.getfield 56, 3) := by decide +kernel
theorem dX3_weigh_30 : decode cX3_weigh 30 = .ok (.if_icmp .ge 53, 3) := by decide +kernel
theorem dX3_weigh_33 : decode cX3_weigh 33 = .ok (.aload_n 0, 1) := by decide +kernel
theorem dX3_weigh_34 : decode cX3_weigh 34 = .ok (.getfield 15, 3) := by decide +kernel
theorem dX3_weigh_37 : decode cX3_weigh 37 = .ok (.iload_n 3, 1) := by decide +kernel
theorem dX3_weigh_38 : decode cX3_weigh 38 = .ok (.aload_n 0, 1) := by decide +kernel
theorem dX3_weigh_39 : decode cX3_weigh 39 = .ok (.getfield 45, 3) := by decide +kernel
theorem dX3_weigh_42 : decode cX3_weigh 42 = .ok (.getfield 61, 3) := by decide +kernel
theorem dX3_weigh_45 : decode cX3_weigh 45 = .ok (.iastore, 1) := by decide +kernel
theorem dX3_weigh_46 : decode cX3_weigh 46 = .ok (.aload_n 0, 1) := by decide +kernel
theorem dX3_weigh_47 : decode cX3_weigh 47 = .ok (.getfield 9, 3) := by decide +kernel
theorem dX3_weigh_50 : decode cX3_weigh 50 = .ok (.iload_n 3, 1) := by decide +kernel
theorem dX3_weigh_51 : decode cX3_weigh 51 = .ok (.aload_n 0, 1) := by decide +kernel
theorem dX3_weigh_52 : decode cX3_weigh 52 = .ok (.getfield 36, 3) := by decide +kernel
theorem dX3_weigh_55 : decode cX3_weigh 55 = .ok (.getfield 64, 3) := by decide +kernel
theorem dX3_weigh_58 : decode cX3_weigh 58 = .ok (.iload_n 3, 1) := by decide +kernel
theorem dX3_weigh_59 : decode cX3_weigh 59 = .ok (.iaload, 1) := by decide +kernel
theorem dX3_weigh_60 : decode cX3_weigh 60 = .ok (.aload_n 0, 1) := by decide +kernel
theorem dX3_weigh_61 : decode cX3_weigh 61 = .ok (.getfield 32, 3) := by decide +kernel
theorem dX3_weigh_64 : decode cX3_weigh 64 = .ok (.iload_n 3, 1) := by decide +kernel
theorem dX3_weigh_65 : decode cX3_weigh 65 = .ok (.aload_n 0, 1) := by decide +kernel
theorem dX3_weigh_66 : decode cX3_weigh 66 = .ok (.getfield 45, 3) := by decide +kernel
theorem dX3_weigh_69 : decode cX3_weigh 69 = .ok (.getfield 61, 3) := by decide +kernel
theorem dX3_weigh_72 : decode cX3_weigh 72 = .ok (.invokevirtual 69, 3) := by decide +kernel
theorem dX3_weigh_75 : decode cX3_weigh 75 = .ok (.iadd, 1) := by decide +kernel
theorem dX3_weigh_76 : decode cX3_weigh 76 = .ok (.iastore, 1) := by decide +kernel
theorem dX3_weigh_77 : decode cX3_weigh 77 = .ok (.iinc 3 1, 3) := by decide +kernel
theorem dX3_weigh_80 : decode cX3_weigh 80 = .ok (.goto (-58), 3) := by decide +kernel
theorem dX3_weigh_83 : decode cX3_weigh 83 = .ok (.iconst 0, 1) := by decide +kernel
theorem dX3_weigh_84 : decode cX3_weigh 84 = .ok (.istore_n 3, 1) := by decide +kernel
theorem dX3_weigh_85 : decode cX3_weigh 85 = .ok (.iload_n 3, 1) := by decide +kernel
theorem dX3_weigh_86 : decode cX3_weigh 86 = .ok (.bipush 12, 2) := by decide +kernel
theorem dX3_weigh_88 : decode cX3_weigh 88 = .ok (.if_icmp .ge 24, 3) := by decide +kernel
theorem dX3_weigh_91 : decode cX3_weigh 91 = .ok (.aload_n 0, 1) := by decide +kernel
theorem dX3_weigh_92 : decode cX3_weigh 92 = .ok (.getfield 45, 3) := by decide +kernel
theorem dX3_weigh_95 : decode cX3_weigh 95 = .ok (.invokevirtual 73, 3) := by decide +kernel
theorem dX3_weigh_98 : decode cX3_weigh 98 = .ok (.ifCond .eq 14, 3) := by decide +kernel
theorem dX3_weigh_101 : decode cX3_weigh 101 = .ok (.aload_n 0, 1) := by decide +kernel
theorem dX3_weigh_102 : decode cX3_weigh 102 = .ok (.iload_n 1, 1) := by decide +kernel
theorem dX3_weigh_103 : decode cX3_weigh 103 = .ok (.invokevirtual 77, 3) := by decide +kernel
theorem dX3_weigh_106 : decode cX3_weigh 106 = .ok (.iinc 3 1, 3) := by decide +kernel
theorem dX3_weigh_109 : decode cX3_weigh 109 = .ok (.goto (-24), 3) := by decide +kernel
theorem dX3_weigh_112 : decode cX3_weigh 112 = .ok (.aload_n 0, 1) := by decide +kernel
theorem dX3_weigh_113 : decode cX3_weigh 113 = .ok (.iload_n 1, 1) := by decide +kernel
theorem dX3_weigh_114 : decode cX3_weigh 114 = .ok (.invokevirtual 81, 3) := by decide +kernel
theorem dX3_weigh_117 : decode cX3_weigh 117 = .ok (.return_, 1) := by decide +kernel
theorem dX3_offerStop_0 : decode cX3_offerStop 0 = .ok (.iconst 0, 1) := by decide +kernel
theorem dX3_offerStop_1 : decode cX3_offerStop 1 = .ok (.istore_n 2, 1) := by decide +kernel
theorem dX3_offerStop_2 : decode cX3_offerStop 2 = .ok (.iload_n 2, 1) := by decide +kernel
theorem dX3_offerStop_3 : decode cX3_offerStop 3 = .ok (.aload_n 0, 1) := by decide +kernel
theorem dX3_offerStop_4 : decode cX3_offerStop 4 = .ok (.getfield 32, 3) := by decide +kernel
theorem dX3_offerStop_7 : decode cX3_offerStop 7 = .ok (.getfield 56, 3) := by decide +kernel
theorem dX3_offerStop_10 : decode cX3_offerStop 10 = .ok (.if_icmp .ge 76, 3) := by decide +kernel
theorem dX3_offerStop_13 : decode cX3_offerStop 13 = .ok (.aload_n 0, 1) := by decide +kernel
theorem dX3_offerStop_14 : decode cX3_offerStop 14 = .ok (.getfield 45, 3) := by decide +kernel
theorem dX3_offerStop_17 : decode cX3_offerStop 17 = .ok (.getfield 84, 3) := by decide +kernel
theorem dX3_offerStop_20 : decode cX3_offerStop 20 = .ok (.aload_n 0, 1) := by decide +kernel
theorem dX3_offerStop_21 : decode cX3_offerStop 21 = .ok (.getfield 32, 3) := by decide +kernel
theorem dX3_offerStop_24 : decode cX3_offerStop 24 = .ok (.iload_n 2, 1) := by decide +kernel
theorem dX3_offerStop_25 : decode cX3_offerStop 25 = .ok (.aload_n 0, 1) := by decide +kernel
theorem dX3_offerStop_26 : decode cX3_offerStop 26 = .ok (.getfield 45, 3) := by decide +kernel
theorem dX3_offerStop_29 : decode cX3_offerStop 29 = .ok (.getfield 61, 3) := by decide +kernel
theorem dX3_offerStop_32 : decode cX3_offerStop 32 = .ok (.invokevirtual 69, 3) := by decide +kernel
theorem dX3_offerStop_35 : decode cX3_offerStop 35 = .ok (.iadd, 1) := by decide +kernel
theorem dX3_offerStop_36 : decode cX3_offerStop 36 = .ok (.istore_n 3, 1) := by decide +kernel
theorem dX3_offerStop_37 : decode cX3_offerStop 37 = .ok (.aload_n 0, 1) := by decide +kernel
theorem dX3_offerStop_38 : decode cX3_offerStop 38 = .ok (.getfield 36, 3) := by decide +kernel
theorem dX3_offerStop_41 : decode cX3_offerStop 41 = .ok (.getfield 87, 3) := by decide +kernel
theorem dX3_offerStop_44 : decode cX3_offerStop 44 = .ok (.iload_n 2, 1) := by decide +kernel
theorem dX3_offerStop_45 : decode cX3_offerStop 45 = .ok (.iaload, 1) := by decide +kernel
theorem dX3_offerStop_46 : decode cX3_offerStop 46 = .ok (.iload_n 1, 1) := by decide +kernel
theorem dX3_offerStop_47 : decode cX3_offerStop 47 = .ok (.if_icmp .ne 33, 3) := by decide +kernel
theorem dX3_offerStop_50 : decode cX3_offerStop 50 = .ok (.iload_n 3, 1) := by decide +kernel
theorem dX3_offerStop_51 : decode cX3_offerStop 51 = .ok (.aload_n 0, 1) := by decide +kernel
theorem dX3_offerStop_52 : decode cX3_offerStop 52 = .ok (.getfield 9, 3) := by decide +kernel
theorem dX3_offerStop_55 : decode cX3_offerStop 55 = .ok (.iload_n 2, 1) := by decide +kernel
theorem dX3_offerStop_56 : decode cX3_offerStop 56 = .ok (.iaload, 1) := by decide +kernel
theorem dX3_offerStop_57 : decode cX3_offerStop 57 = .ok (.if_icmp .ge 23, 3) := by decide +kernel
theorem dX3_offerStop_60 : decode cX3_offerStop 60 = .ok (.aload_n 0, 1) := by decide +kernel
theorem dX3_offerStop_61 : decode cX3_offerStop 61 = .ok (.getfield 9, 3) := by decide +kernel
theorem dX3_offerStop_64 : decode cX3_offerStop 64 = .ok (.iload_n 2, 1) := by decide +kernel
theorem dX3_offerStop_65 : decode cX3_offerStop 65 = .ok (.iload_n 3, 1) := by decide +kernel
theorem dX3_offerStop_66 : decode cX3_offerStop 66 = .ok (.iastore, 1) := by decide +kernel
theorem dX3_offerStop_67 : decode cX3_offerStop 67 = .ok (.aload_n 0, 1) := by decide +kernel
theorem dX3_offerStop_68 : decode cX3_offerStop 68 = .ok (.getfield 15, 3) := by decide +kernel
theorem dX3_offerStop_71 : decode cX3_offerStop 71 = .ok (.iload_n 2, 1) := by decide +kernel
theorem dX3_offerStop_72 : decode cX3_offerStop 72 = .ok (.aload_n 0, 1) := by decide +kernel
theorem dX3_offerStop_73 : decode cX3_offerStop 73 = .ok (.getfield 45, 3) := by decide +kernel
theorem dX3_offerStop_76 : decode cX3_offerStop 76 = .ok (.getfield 61, 3) := by decide +kernel
theorem dX3_offerStop_79 : decode cX3_offerStop 79 = .ok (.iastore, 1) := by decide +kernel
theorem dX3_offerStop_80 : decode cX3_offerStop 80 = .ok (.iinc 2 1, 3) := by decide +kernel
theorem dX3_offerStop_83 : decode cX3_offerStop 83 = .ok (.goto (-81), 3) := by decide +kernel
theorem dX3_offerStop_86 : decode cX3_offerStop 86 = .ok (.return_, 1) := by decide +kernel
theorem dX3_addUp_0 : decode cX3_addUp 0 = .ok (.aload_n 0, 1) := by decide +kernel
theorem dX3_addUp_1 : decode cX3_addUp 1 = .ok (.lconst 0, 1) := by decide +kernel
theorem dX3_addUp_2 : decode cX3_addUp 2 = .ok (.putfield 18, 3) := by decide +kernel
theorem dX3_addUp_5 : decode cX3_addUp 5 = .ok (.aload_n 0, 1) := by decide +kernel
theorem dX3_addUp_6 : decode cX3_addUp 6 = .ok (.iconst 0, 1) := by decide +kernel
theorem dX3_addUp_7 : decode cX3_addUp 7 = .ok (.putfield 22, 3) := by decide +kernel
theorem dX3_addUp_10 : decode cX3_addUp 10 = .ok (.iconst 0, 1) := by decide +kernel
theorem dX3_addUp_11 : decode cX3_addUp 11 = .ok (.istore_n 2, 1) := by decide +kernel
theorem dX3_addUp_12 : decode cX3_addUp 12 = .ok (.iload_n 2, 1) := by decide +kernel
theorem dX3_addUp_13 : decode cX3_addUp 13 = .ok (.aload_n 0, 1) := by decide +kernel
theorem dX3_addUp_14 : decode cX3_addUp 14 = .ok (.getfield 32, 3) := by decide +kernel
theorem dX3_addUp_17 : decode cX3_addUp 17 = .ok (.getfield 56, 3) := by decide +kernel
theorem dX3_addUp_20 : decode cX3_addUp 20 = .ok (.if_icmp .ge 66, 3) := by decide +kernel
theorem dX3_addUp_23 : decode cX3_addUp 23 = .ok (.aload_n 0, 1) := by decide +kernel
theorem dX3_addUp_24 : decode cX3_addUp 24 = .ok (.getfield 36, 3) := by decide +kernel
theorem dX3_addUp_27 : decode cX3_addUp 27 = .ok (.getfield 87, 3) := by decide +kernel
theorem dX3_addUp_30 : decode cX3_addUp 30 = .ok (.iload_n 2, 1) := by decide +kernel
theorem dX3_addUp_31 : decode cX3_addUp 31 = .ok (.iaload, 1) := by decide +kernel
theorem dX3_addUp_32 : decode cX3_addUp 32 = .ok (.iload_n 1, 1) := by decide +kernel
theorem dX3_addUp_33 : decode cX3_addUp 33 = .ok (.if_icmp .ne 47, 3) := by decide +kernel
theorem dX3_addUp_36 : decode cX3_addUp 36 = .ok (.aload_n 0, 1) := by decide +kernel
theorem dX3_addUp_37 : decode cX3_addUp 37 = .ok (.dup, 1) := by decide +kernel
theorem dX3_addUp_38 : decode cX3_addUp 38 = .ok (.getfield 18, 3) := by decide +kernel
theorem dX3_addUp_41 : decode cX3_addUp 41 = .ok (.aload_n 0, 1) := by decide +kernel
theorem dX3_addUp_42 : decode cX3_addUp 42 = .ok (.getfield 9, 3) := by decide +kernel
theorem dX3_addUp_45 : decode cX3_addUp 45 = .ok (.iload_n 2, 1) := by decide +kernel
theorem dX3_addUp_46 : decode cX3_addUp 46 = .ok (.iaload, 1) := by decide +kernel
theorem dX3_addUp_47 : decode cX3_addUp 47 = .ok (.i2l, 1) := by decide +kernel
theorem dX3_addUp_48 : decode cX3_addUp 48 = .ok (.aload_n 0, 1) := by decide +kernel
theorem dX3_addUp_49 : decode cX3_addUp 49 = .ok (.getfield 32, 3) := by decide +kernel
theorem dX3_addUp_52 : decode cX3_addUp 52 = .ok (.getfield 90, 3) := by decide +kernel
theorem dX3_addUp_55 : decode cX3_addUp 55 = .ok (.iload_n 2, 1) := by decide +kernel
theorem dX3_addUp_56 : decode cX3_addUp 56 = .ok (.iaload, 1) := by decide +kernel
theorem dX3_addUp_57 : decode cX3_addUp 57 = .ok (.i2l, 1) := by decide +kernel
theorem dX3_addUp_58 : decode cX3_addUp 58 = .ok (.lmul, 1) := by decide +kernel
theorem dX3_addUp_59 : decode cX3_addUp 59 = .ok (.ladd, 1) := by decide +kernel
theorem dX3_addUp_60 : decode cX3_addUp 60 = .ok (.putfield 18, 3) := by decide +kernel
theorem dX3_addUp_63 : decode cX3_addUp 63 = .ok (.aload_n 0, 1) := by decide +kernel
theorem dX3_addUp_64 : decode cX3_addUp 64 = .ok (.aload_n 0, 1) := by decide +kernel
theorem dX3_addUp_65 : decode cX3_addUp 65 = .ok (.getfield 22, 3) := by decide +kernel
theorem dX3_addUp_68 : decode cX3_addUp 68 = .ok (.aload_n 0, 1) := by decide +kernel
theorem dX3_addUp_69 : decode cX3_addUp 69 = .ok (.getfield 9, 3) := by decide +kernel
theorem dX3_addUp_72 : decode cX3_addUp 72 = .ok (.iload_n 2, 1) := by decide +kernel
theorem dX3_addUp_73 : decode cX3_addUp 73 = .ok (.iaload, 1) := by decide +kernel
theorem dX3_addUp_74 : decode cX3_addUp 74 = .ok (.invokestatic 93, 3) := by decide +kernel
theorem dX3_addUp_77 : decode cX3_addUp 77 = .ok (.putfield 22, 3) := by decide +kernel
theorem dX3_addUp_80 : decode cX3_addUp 80 = .ok (.iinc 2 1, 3) := by decide +kernel
theorem dX3_addUp_83 : decode cX3_addUp 83 = .ok (.goto (-71), 3) := by decide +kernel
theorem dX3_addUp_86 : decode cX3_addUp 86 = .ok (.return_, 1) := by decide +kernel
theorem dX3_sumWith_0 : decode cX3_sumWith 0 = .ok (.aload_n 0, 1) := by decide +kernel
theorem dX3_sumWith_1 : decode cX3_sumWith 1 = .ok (.iload_n 1, 1) := by decide +kernel
theorem dX3_sumWith_2 : decode cX3_sumWith 2 = .ok (.iload_n 2, 1) := by decide +kernel
theorem dX3_sumWith_3 : decode cX3_sumWith 3 = .ok (.invokevirtual 98, 3) := by decide +kernel
theorem dX3_sumWith_6 : decode cX3_sumWith 6 = .ok (.aload_n 0, 1) := by decide +kernel
theorem dX3_sumWith_7 : decode cX3_sumWith 7 = .ok (.getfield 18, 3) := by decide +kernel
theorem dX3_sumWith_10 : decode cX3_sumWith 10 = .ok (.lreturn, 1) := by decide +kernel
theorem dX3_lastWith_0 : decode cX3_lastWith 0 = .ok (.aload_n 0, 1) := by decide +kernel
theorem dX3_lastWith_1 : decode cX3_lastWith 1 = .ok (.iload_n 1, 1) := by decide +kernel
theorem dX3_lastWith_2 : decode cX3_lastWith 2 = .ok (.iload_n 2, 1) := by decide +kernel
theorem dX3_lastWith_3 : decode cX3_lastWith 3 = .ok (.invokevirtual 98, 3) := by decide +kernel
theorem dX3_lastWith_6 : decode cX3_lastWith 6 = .ok (.aload_n 0, 1) := by decide +kernel
theorem dX3_lastWith_7 : decode cX3_lastWith 7 = .ok (.getfield 22, 3) := by decide +kernel
theorem dX3_lastWith_10 : decode cX3_lastWith 10 = .ok (.ireturn, 1) := by decide +kernel
theorem dX3_keptFor_0 : decode cX3_keptFor 0 = .ok (.iconst 0, 1) := by decide +kernel
theorem dX3_keptFor_1 : decode cX3_keptFor 1 = .ok (.istore_n 3, 1) := by decide +kernel
theorem dX3_keptFor_2 : decode cX3_keptFor 2 = .ok (.iload_n 2, 1) := by decide +kernel
theorem dX3_keptFor_3 : decode cX3_keptFor 3 = .ok (.ifCond .eq 13, 3) := by decide +kernel
theorem dX3_keptFor_6 : decode cX3_keptFor 6 = .ok (.aload_n 0, 1) := by decide +kernel
theorem dX3_keptFor_7 : decode cX3_keptFor 7 = .ok (.iload_n 1, 1) := by decide +kernel
theorem dX3_keptFor_8 : decode cX3_keptFor 8 = .ok (.iconst 0, 1) := by decide +kernel
theorem dX3_keptFor_9 : decode cX3_keptFor 9 = .ok (.invokevirtual 102, 3) := by decide +kernel
theorem dX3_keptFor_12 : decode cX3_keptFor 12 = .ok (.i2l, 1) := by decide +kernel
theorem dX3_keptFor_13 : decode cX3_keptFor 13 = .ok (.goto 9, 3) := by decide +kernel
theorem dX3_keptFor_16 : decode cX3_keptFor 16 = .ok (.aload_n 0, 1) := by decide +kernel
theorem dX3_keptFor_17 : decode cX3_keptFor 17 = .ok (.iload_n 1, 1) := by decide +kernel
theorem dX3_keptFor_18 : decode cX3_keptFor 18 = .ok (.iconst 0, 1) := by decide +kernel
theorem dX3_keptFor_19 : decode cX3_keptFor 19 = .ok (.invokevirtual 105, 3) := by decide +kernel
theorem dX3_keptFor_22 : decode cX3_keptFor 22 = .ok (.lstore 4, 2) := by decide +kernel
theorem dX3_keptFor_24 : decode cX3_keptFor 24 = .ok (.aload_n 0, 1) := by decide +kernel
theorem dX3_keptFor_25 : decode cX3_keptFor 25 = .ok (.getfield 36, 3) := by decide +kernel
theorem dX3_keptFor_28 : decode cX3_keptFor 28 = .ok (.getfield 109, 3) := by decide +kernel
theorem dX3_keptFor_31 : decode cX3_keptFor 31 = .ok (.iload_n 1, 1) := by decide +kernel
theorem dX3_keptFor_32 : decode cX3_keptFor 32 = .ok (.iaload, 1) := by decide +kernel
theorem dX3_keptFor_33 : decode cX3_keptFor 33 = .ok (.istore 6, 2) := by decide +kernel
theorem dX3_keptFor_35 : decode cX3_keptFor 35 = .ok (.iconst 1, 1) := by decide +kernel
theorem dX3_keptFor_36 : decode cX3_keptFor 36 = .ok (.istore 7, 2) := by decide +kernel
theorem dX3_keptFor_38 : decode cX3_keptFor 38 = .ok (.iload 7, 2) := by decide +kernel
theorem dX3_keptFor_40 : decode cX3_keptFor 40 = .ok (.iload 6, 2) := by decide +kernel
theorem dX3_keptFor_42 : decode cX3_keptFor 42 = .ok (.if_icmp .gt 93, 3) := by decide +kernel
theorem dX3_keptFor_45 : decode cX3_keptFor 45 = .ok (.iload 7, 2) := by decide +kernel
theorem dX3_keptFor_47 : decode cX3_keptFor 47 = .ok (.iload 6, 2) := by decide +kernel
theorem dX3_keptFor_49 : decode cX3_keptFor 49 = .ok (.iconst (-1), 1) := by decide +kernel
theorem dX3_keptFor_50 : decode cX3_keptFor 50 = .ok (.ixor, 1) := by decide +kernel
theorem dX3_keptFor_51 : decode cX3_keptFor 51 = .ok (.iand, 1) := by decide +kernel
theorem dX3_keptFor_52 : decode cX3_keptFor 52 = .ok (.ifCond .eq 6, 3) := by decide +kernel
theorem dX3_keptFor_55 : decode cX3_keptFor 55 = .ok (.goto 74, 3) := by decide +kernel
theorem dX3_keptFor_58 : decode cX3_keptFor 58 = .ok (.iload_n 2, 1) := by decide +kernel
theorem dX3_keptFor_59 : decode cX3_keptFor 59 = .ok (.ifCond .eq 14, 3) := by decide +kernel
theorem dX3_keptFor_62 : decode cX3_keptFor 62 = .ok (.aload_n 0, 1) := by decide +kernel
theorem dX3_keptFor_63 : decode cX3_keptFor 63 = .ok (.iload_n 1, 1) := by decide +kernel
theorem dX3_keptFor_64 : decode cX3_keptFor 64 = .ok (.iload 7, 2) := by decide +kernel
theorem dX3_keptFor_66 : decode cX3_keptFor 66 = .ok (.invokevirtual 102, 3) := by decide +kernel
theorem dX3_keptFor_69 : decode cX3_keptFor 69 = .ok (.i2l, 1) := by decide +kernel
theorem dX3_keptFor_70 : decode cX3_keptFor 70 = .ok (.goto 10, 3) := by decide +kernel
theorem dX3_keptFor_73 : decode cX3_keptFor 73 = .ok (.aload_n 0, 1) := by decide +kernel
theorem dX3_keptFor_74 : decode cX3_keptFor 74 = .ok (.iload_n 1, 1) := by decide +kernel
theorem dX3_keptFor_75 : decode cX3_keptFor 75 = .ok (.iload 7, 2) := by decide +kernel
theorem dX3_keptFor_77 : decode cX3_keptFor 77 = .ok (.invokevirtual 105, 3) := by decide +kernel
theorem dX3_keptFor_80 : decode cX3_keptFor 80 = .ok (.lstore 8, 2) := by decide +kernel
theorem dX3_keptFor_82 : decode cX3_keptFor 82 = .ok (.lload 8, 2) := by decide +kernel
theorem dX3_keptFor_84 : decode cX3_keptFor 84 = .ok (.lload 4, 2) := by decide +kernel
theorem dX3_keptFor_86 : decode cX3_keptFor 86 = .ok (.lcmp, 1) := by decide +kernel
theorem dX3_keptFor_87 : decode cX3_keptFor 87 = .ok (.ifCond .ne 19, 3) := by decide +kernel
theorem dX3_keptFor_90 : decode cX3_keptFor 90 = .ok (.iload 7, 2) := by decide +kernel
theorem dX3_keptFor_92 : decode cX3_keptFor 92 = .ok (.invokestatic 111, 3) := by decide +kernel
theorem dX3_keptFor_95 : decode cX3_keptFor 95 = .ok (.iload_n 3, 1) := by decide +kernel
theorem dX3_keptFor_96 : decode cX3_keptFor 96 = .ok (.invokestatic 111, 3) := by decide +kernel
theorem dX3_keptFor_99 : decode cX3_keptFor 99 = .ok (.if_icmp .ge 7, 3) := by decide +kernel
theorem dX3_keptFor_102 : decode cX3_keptFor 102 = .ok (.iconst 1, 1) := by decide +kernel
theorem dX3_keptFor_103 : decode cX3_keptFor 103 = .ok (.goto 4, 3) := by decide +kernel
theorem dX3_keptFor_106 : decode cX3_keptFor 106 = .ok (.iconst 0, 1) := by decide +kernel
theorem dX3_keptFor_107 : decode cX3_keptFor 107 = .ok (.istore 10, 2) := by decide +kernel
theorem dX3_keptFor_109 : decode cX3_keptFor 109 = .ok (.lload 8, 2) := by decide +kernel
theorem dX3_keptFor_111 : decode cX3_keptFor 111 = .ok (.lload 4, 2) := by decide +kernel
theorem dX3_keptFor_113 : decode cX3_keptFor 113 = .ok (.lcmp, 1) := by decide +kernel
theorem dX3_keptFor_114 : decode cX3_keptFor 114 = .ok (.ifCond .lt 8, 3) := by decide +kernel
theorem dX3_keptFor_117 : decode cX3_keptFor 117 = .ok (.iload 10, 2) := by decide +kernel
theorem dX3_keptFor_119 : decode cX3_keptFor 119 = .ok (.ifCond .eq 10, 3) := by decide +kernel
theorem dX3_keptFor_122 : decode cX3_keptFor 122 = .ok (.lload 8, 2) := by decide +kernel
theorem dX3_keptFor_124 : decode cX3_keptFor 124 = .ok (.lstore 4, 2) := by decide +kernel
theorem dX3_keptFor_126 : decode cX3_keptFor 126 = .ok (.iload 7, 2) := by decide +kernel
theorem dX3_keptFor_128 : decode cX3_keptFor 128 = .ok (.istore_n 3, 1) := by decide +kernel
theorem dX3_keptFor_129 : decode cX3_keptFor 129 = .ok (.iinc 7 1, 3) := by decide +kernel
theorem dX3_keptFor_132 : decode cX3_keptFor 132 = .ok (.goto (-94), 3) := by decide +kernel
theorem dX3_keptFor_135 : decode cX3_keptFor 135 = .ok (.iload_n 3, 1) := by decide +kernel
theorem dX3_keptFor_136 : decode cX3_keptFor 136 = .ok (.ireturn, 1) := by decide +kernel
theorem dX3_toTurn_0 : decode cX3_toTurn 0 = .ok (.iconst (-1), 1) := by decide +kernel
theorem dX3_toTurn_1 : decode cX3_toTurn 1 = .ok (.istore_n 3, 1) := by decide +kernel
theorem dX3_toTurn_2 : decode cX3_toTurn 2 = .ok (.aload_n 0, 1) := by decide +kernel
theorem dX3_toTurn_3 : decode cX3_toTurn 3 = .ok (.iload_n 1, 1) := by decide +kernel
theorem dX3_toTurn_4 : decode cX3_toTurn 4 = .ok (.aload_n 0, 1) := by decide +kernel
theorem dX3_toTurn_5 : decode cX3_toTurn 5 = .ok (.getfield 36, 3) := by decide +kernel
theorem dX3_toTurn_8 : decode cX3_toTurn 8 = .ok (.getfield 109, 3) := by decide +kernel
theorem dX3_toTurn_11 : decode cX3_toTurn 11 = .ok (.iload_n 1, 1) := by decide +kernel
theorem dX3_toTurn_12 : decode cX3_toTurn 12 = .ok (.iaload, 1) := by decide +kernel
theorem dX3_toTurn_13 : decode cX3_toTurn 13 = .ok (.invokevirtual 105, 3) := by decide +kernel
theorem dX3_toTurn_16 : decode cX3_toTurn 16 = .ok (.lstore 4, 2) := by decide +kernel
theorem dX3_toTurn_18 : decode cX3_toTurn 18 = .ok (.iconst 0, 1) := by decide +kernel
theorem dX3_toTurn_19 : decode cX3_toTurn 19 = .ok (.istore 6, 2) := by decide +kernel
theorem dX3_toTurn_21 : decode cX3_toTurn 21 = .ok (.iload 6, 2) := by decide +kernel
theorem dX3_toTurn_23 : decode cX3_toTurn 23 = .ok (.aload_n 0, 1) := by decide +kernel
theorem dX3_toTurn_24 : decode cX3_toTurn 24 = .ok (.getfield 32, 3) := by decide +kernel
theorem dX3_toTurn_27 : decode cX3_toTurn 27 = .ok (.getfield 117, 3) := by decide +kernel
theorem dX3_toTurn_30 : decode cX3_toTurn 30 = .ok (.if_icmp .ge 57, 3) := by decide +kernel
theorem dX3_toTurn_33 : decode cX3_toTurn 33 = .ok (.iload_n 2, 1) := by decide +kernel
theorem dX3_toTurn_34 : decode cX3_toTurn 34 = .ok (.iconst 1, 1) := by decide +kernel
theorem dX3_toTurn_35 : decode cX3_toTurn 35 = .ok (.iload 6, 2) := by decide +kernel
theorem dX3_toTurn_37 : decode cX3_toTurn 37 = .ok (.ishl, 1) := by decide +kernel
theorem dX3_toTurn_38 : decode cX3_toTurn 38 = .ok (.iand, 1) := by decide +kernel
theorem dX3_toTurn_39 : decode cX3_toTurn 39 = .ok (.ifCond .ne 6, 3) := by decide +kernel
theorem dX3_toTurn_42 : decode cX3_toTurn 42 = .ok (.goto 39, 3) := by decide +kernel
theorem dX3_toTurn_45 : decode cX3_toTurn 45 = .ok (.aload_n 0, 1) := by decide +kernel
theorem dX3_toTurn_46 : decode cX3_toTurn 46 = .ok (.iload_n 1, 1) := by decide +kernel
theorem dX3_toTurn_47 : decode cX3_toTurn 47 = .ok (.aload_n 0, 1) := by decide +kernel
theorem dX3_toTurn_48 : decode cX3_toTurn 48 = .ok (.getfield 36, 3) := by decide +kernel
theorem dX3_toTurn_51 : decode cX3_toTurn 51 = .ok (.getfield 109, 3) := by decide +kernel
theorem dX3_toTurn_54 : decode cX3_toTurn 54 = .ok (.iload_n 1, 1) := by decide +kernel
theorem dX3_toTurn_55 : decode cX3_toTurn 55 = .ok (.iaload, 1) := by decide +kernel
theorem dX3_toTurn_56 : decode cX3_toTurn 56 = .ok (.iconst 1, 1) := by decide +kernel
theorem dX3_toTurn_57 : decode cX3_toTurn 57 = .ok (.iload 6, 2) := by decide +kernel
theorem dX3_toTurn_59 : decode cX3_toTurn 59 = .ok (.ishl, 1) := by decide +kernel
theorem dX3_toTurn_60 : decode cX3_toTurn 60 = .ok (.ixor, 1) := by decide +kernel
theorem dX3_toTurn_61 : decode cX3_toTurn 61 = .ok (.invokevirtual 105, 3) := by decide +kernel
theorem dX3_toTurn_64 : decode cX3_toTurn 64 = .ok (.lstore 7, 2) := by decide +kernel
theorem dX3_toTurn_66 : decode cX3_toTurn 66 = .ok (.lload 7, 2) := by decide +kernel
theorem dX3_toTurn_68 : decode cX3_toTurn 68 = .ok (.lload 4, 2) := by decide +kernel
theorem dX3_toTurn_70 : decode cX3_toTurn 70 = .ok (.lcmp, 1) := by decide +kernel
theorem dX3_toTurn_71 : decode cX3_toTurn 71 = .ok (.ifCond .ge 10, 3) := by decide +kernel
theorem dX3_toTurn_74 : decode cX3_toTurn 74 = .ok (.lload 7, 2) := by decide +kernel
theorem dX3_toTurn_76 : decode cX3_toTurn 76 = .ok (.lstore 4, 2) := by decide +kernel
theorem dX3_toTurn_78 : decode cX3_toTurn 78 = .ok (.iload 6, 2) := by decide +kernel
theorem dX3_toTurn_80 : decode cX3_toTurn 80 = .ok (.istore_n 3, 1) := by decide +kernel
theorem dX3_toTurn_81 : decode cX3_toTurn 81 = .ok (.iinc 6 1, 3) := by decide +kernel
theorem dX3_toTurn_84 : decode cX3_toTurn 84 = .ok (.goto (-63), 3) := by decide +kernel
theorem dX3_toTurn_87 : decode cX3_toTurn 87 = .ok (.iload_n 3, 1) := by decide +kernel
theorem dX3_toTurn_88 : decode cX3_toTurn 88 = .ok (.ireturn, 1) := by decide +kernel
theorem dX3_unlit_0 : decode cX3_unlit 0 = .ok (.iconst 1, 1) := by decide +kernel
theorem dX3_unlit_1 : decode cX3_unlit 1 = .ok (.aload_n 0, 1) := by decide +kernel
theorem dX3_unlit_2 : decode cX3_unlit 2 = .ok (.getfield 32, 3) := by decide +kernel
theorem dX3_unlit_5 : decode cX3_unlit 5 = .ok (.getfield 117, 3) := by decide +kernel
theorem dX3_unlit_8 : decode cX3_unlit 8 = .ok (.ishl, 1) := by decide +kernel
theorem dX3_unlit_9 : decode cX3_unlit 9 = .ok (.iconst 1, 1) := by decide +kernel
theorem dX3_unlit_10 : decode cX3_unlit 10 = .ok (.isub, 1) := by decide +kernel
theorem dX3_unlit_11 : decode cX3_unlit 11 = .ok (.istore_n 2, 1) := by decide +kernel
theorem dX3_unlit_12 : decode cX3_unlit 12 = .ok (.iload_n 2, 1) := by decide +kernel
theorem dX3_unlit_13 : decode cX3_unlit 13 = .ok (.aload_n 0, 1) := by decide +kernel
theorem dX3_unlit_14 : decode cX3_unlit 14 = .ok (.getfield 36, 3) := by decide +kernel
theorem dX3_unlit_17 : decode cX3_unlit 17 = .ok (.getfield 109, 3) := by decide +kernel
theorem dX3_unlit_20 : decode cX3_unlit 20 = .ok (.iload_n 1, 1) := by decide +kernel
theorem dX3_unlit_21 : decode cX3_unlit 21 = .ok (.iaload, 1) := by decide +kernel
theorem dX3_unlit_22 : decode cX3_unlit 22 = .ok (.iconst (-1), 1) := by decide +kernel
theorem dX3_unlit_23 : decode cX3_unlit 23 = .ok (.ixor, 1) := by decide +kernel
theorem dX3_unlit_24 : decode cX3_unlit 24 = .ok (.iand, 1) := by decide +kernel
theorem dX3_unlit_25 : decode cX3_unlit 25 = .ok (.iconst 1, 1) := by decide +kernel
theorem dX3_unlit_26 : decode cX3_unlit 26 = .ok (.aload_n 0, 1) := by decide +kernel
theorem dX3_unlit_27 : decode cX3_unlit 27 = .ok (.getfield 36, 3) := by decide +kernel
theorem dX3_unlit_30 : decode cX3_unlit 30 = .ok (.getfield 120, 3) := by decide +kernel
theorem dX3_unlit_33 : decode cX3_unlit 33 = .ok (.iload_n 1, 1) := by decide +kernel
theorem dX3_unlit_34 : decode cX3_unlit 34 = .ok (.iaload, 1) := by decide +kernel
theorem dX3_unlit_35 : decode cX3_unlit 35 = .ok (.ishl, 1) := by decide +kernel
theorem dX3_unlit_36 : decode cX3_unlit 36 = .ok (.iconst (-1), 1) := by decide +kernel
theorem dX3_unlit_37 : decode cX3_unlit 37 = .ok (.ixor, 1) := by decide +kernel
theorem dX3_unlit_38 : decode cX3_unlit 38 = .ok (.iand, 1) := by decide +kernel
theorem dX3_unlit_39 : decode cX3_unlit 39 = .ok (.ireturn, 1) := by decide +kernel
theorem dX3_letBoyPress_0 : decode cX3_letBoyPress 0 = .ok (.aload_n 0, 1) := by decide +kernel
theorem dX3_letBoyPress_1 : decode cX3_letBoyPress 1 = .ok (.iload_n 1, 1) := by decide +kernel
theorem dX3_letBoyPress_2 : decode cX3_letBoyPress 2 = .ok (.invokevirtual 123, 3) := by decide +kernel
theorem dX3_letBoyPress_5 : decode cX3_letBoyPress 5 = .ok (.istore_n 3, 1) := by decide +kernel
theorem dX3_letBoyPress_6 : decode cX3_letBoyPress 6 = .ok (.aload_n 0, 1) := by decide +kernel
theorem dX3_letBoyPress_7 : decode cX3_letBoyPress 7 = .ok (.iload_n 1, 1) := by decide +kernel
theorem dX3_letBoyPress_8 : decode cX3_letBoyPress 8 = .ok (.aload_n 0, 1) := by decide +kernel
theorem dX3_letBoyPress_9 : decode cX3_letBoyPress 9 = .ok (.getfield 36, 3) := by decide +kernel
theorem dX3_letBoyPress_12 : decode cX3_letBoyPress 12 = .ok (.getfield 109, 3) := by decide +kernel
theorem dX3_letBoyPress_15 : decode cX3_letBoyPress 15 = .ok (.iload_n 1, 1) := by decide +kernel
theorem dX3_letBoyPress_16 : decode cX3_letBoyPress 16 = .ok (.iaload, 1) := by decide +kernel
theorem dX3_letBoyPress_17 : decode cX3_letBoyPress 17 = .ok (.invokevirtual 105, 3) := by decide +kernel
theorem dX3_letBoyPress_20 : decode cX3_letBoyPress 20 = .ok (.lstore 4, 2) := by decide +kernel
theorem dX3_letBoyPress_22 : decode cX3_letBoyPress 22 = .ok (.lconst 0, 1) := by decide +kernel
theorem dX3_letBoyPress_23 : decode cX3_letBoyPress 23 = .ok (.lstore 6, 2) := by decide +kernel
theorem dX3_letBoyPress_25 : decode cX3_letBoyPress 25 = .ok (.lconst 0, 1) := by decide +kernel
theorem dX3_letBoyPress_26 : decode cX3_letBoyPress 26 = .ok (.lstore 8, 2) := by decide +kernel
theorem dX3_letBoyPress_28 : decode cX3_letBoyPress 28 = .ok (.iconst 0, 1) := by decide +kernel
theorem dX3_letBoyPress_29 : decode cX3_letBoyPress 29 = .ok (.istore 10, 2) := by decide +kernel
theorem dX3_letBoyPress_31 : decode cX3_letBoyPress 31 = .ok (.iload 10, 2) := by decide +kernel
theorem dX3_letBoyPress_33 : decode cX3_letBoyPress 33 = .ok (.iload_n 3, 1) := by decide +kernel
theorem dX3_letBoyPress_34 : decode cX3_letBoyPress 34 = .ok (.if_icmp .gt 61, 3) := by decide +kernel
theorem dX3_letBoyPress_37 : decode cX3_letBoyPress 37 = .ok (.iload 10, 2) := by decide +kernel
theorem dX3_letBoyPress_39 : decode cX3_letBoyPress 39 = .ok (.iload_n 3, 1) := by decide +kernel
theorem dX3_letBoyPress_40 : decode cX3_letBoyPress 40 = .ok (.iconst (-1), 1) := by decide +kernel
theorem dX3_letBoyPress_41 : decode cX3_letBoyPress 41 = .ok (.ixor, 1) := by decide +kernel
theorem dX3_letBoyPress_42 : decode cX3_letBoyPress 42 = .ok (.iand, 1) := by decide +kernel
theorem dX3_letBoyPress_43 : decode cX3_letBoyPress 43 = .ok (.ifCond .ne 46, 3) := by decide +kernel
theorem dX3_letBoyPress_46 : decode cX3_letBoyPress 46 = .ok (.iload 10, 2) := by decide +kernel
theorem dX3_letBoyPress_48 : decode cX3_letBoyPress 48 = .ok (.invokestatic 111, 3) := by decide +kernel
theorem dX3_letBoyPress_51 : decode cX3_letBoyPress 51 = .ok (.iload_n 2, 1) := by decide +kernel
theorem dX3_letBoyPress_52 : decode cX3_letBoyPress 52 = .ok (.if_icmp .eq 6, 3) := by decide +kernel
theorem dX3_letBoyPress_55 : decode cX3_letBoyPress 55 = .ok (.goto 34, 3) := by decide +kernel
theorem dX3_letBoyPress_58 : decode cX3_letBoyPress 58 = .ok (.lload 6, 2) := by decide +kernel
theorem dX3_letBoyPress_60 : decode cX3_letBoyPress 60 = .ok (.aload_n 0, 1) := by decide +kernel
theorem dX3_letBoyPress_61 : decode cX3_letBoyPress 61 = .ok (.iload_n 1, 1) := by decide +kernel
theorem dX3_letBoyPress_62 : decode cX3_letBoyPress 62 = .ok (.aload_n 0, 1) := by decide +kernel
theorem dX3_letBoyPress_63 : decode cX3_letBoyPress 63 = .ok (.getfield 36, 3) := by decide +kernel
theorem dX3_letBoyPress_66 : decode cX3_letBoyPress 66 = .ok (.getfield 109, 3) := by decide +kernel
theorem dX3_letBoyPress_69 : decode cX3_letBoyPress 69 = .ok (.iload_n 1, 1) := by decide +kernel
theorem dX3_letBoyPress_70 : decode cX3_letBoyPress 70 = .ok (.iaload, 1) := by decide +kernel
theorem dX3_letBoyPress_71 : decode cX3_letBoyPress 71 = .ok (.iload 10, 2) := by decide +kernel
theorem dX3_letBoyPress_73 : decode cX3_letBoyPress 73 = .ok (.ior, 1) := by decide +kernel
theorem dX3_letBoyPress_74 : decode cX3_letBoyPress 74 = .ok (.invokevirtual 105, 3) := by decide +kernel
theorem dX3_letBoyPress_77 : decode cX3_letBoyPress 77 = .ok (.lload 4, 2) := by decide +kernel
theorem dX3_letBoyPress_79 : decode cX3_letBoyPress 79 = .ok (.lsub, 1) := by decide +kernel
theorem dX3_letBoyPress_80 : decode cX3_letBoyPress 80 = .ok (.ladd, 1) := by decide +kernel
theorem dX3_letBoyPress_81 : decode cX3_letBoyPress 81 = .ok (.lstore 6, 2) := by decide +kernel
theorem dX3_letBoyPress_83 : decode cX3_letBoyPress 83 = .ok (.lload 8, 2) := by decide +kernel
theorem dX3_letBoyPress_85 : decode cX3_letBoyPress 85 = .ok (.lconst 1, 1) := by decide +kernel
theorem dX3_letBoyPress_86 : decode cX3_letBoyPress 86 = .ok (.ladd, 1) := by decide +kernel
theorem dX3_letBoyPress_87 : decode cX3_letBoyPress 87 = .ok (.lstore 8, 2) := by decide +kernel
theorem dX3_letBoyPress_89 : decode cX3_letBoyPress 89 = .ok (.iinc 10 1, 3) := by decide +kernel
theorem dX3_letBoyPress_92 : decode cX3_letBoyPress 92 = .ok (.goto (-61), 3) := by decide +kernel
theorem dX3_letBoyPress_95 : decode cX3_letBoyPress 95 = .ok (.lload 6, 2) := by decide +kernel
theorem dX3_letBoyPress_97 : decode cX3_letBoyPress 97 = .ok (.invokestatic 126, 3) := by decide +kernel
theorem dX3_letBoyPress_100 : decode cX3_letBoyPress 100 = .ok (.lload 8, 2) := by decide +kernel
theorem dX3_letBoyPress_102 : decode cX3_letBoyPress 102 = .ok (.invokestatic 130, 3) := by decide +kernel
theorem dX3_letBoyPress_105 : decode cX3_letBoyPress 105 = .ok (.lstore 10, 2) := by decide +kernel
theorem dX3_letBoyPress_107 : decode cX3_letBoyPress 107 = .ok (.aload_n 0, 1) := by decide +kernel
theorem dX3_letBoyPress_108 : decode cX3_letBoyPress 108 = .ok (.lload 10, 2) := by decide +kernel
theorem dX3_letBoyPress_110 : decode cX3_letBoyPress 110 = .ok (.lconst 0, 1) := by decide +kernel
theorem dX3_letBoyPress_111 : decode cX3_letBoyPress 111 = .ok (.lcmp, 1) := by decide +kernel
theorem dX3_letBoyPress_112 : decode cX3_letBoyPress 112 = .ok (.ifCond .le 11, 3) := by decide +kernel
theorem dX3_letBoyPress_115 : decode cX3_letBoyPress 115 = .ok (.lload 6, 2) := by decide +kernel
theorem dX3_letBoyPress_117 : decode cX3_letBoyPress 117 = .ok (.lload 10, 2) := by decide +kernel
theorem dX3_letBoyPress_119 : decode cX3_letBoyPress 119 = .ok (.ldiv, 1) := by decide +kernel
theorem dX3_letBoyPress_120 : decode cX3_letBoyPress 120 = .ok (.goto 4, 3) := by decide +kernel
theorem dX3_letBoyPress_123 : decode cX3_letBoyPress 123 = .ok (.lconst 0, 1) := by decide +kernel
theorem dX3_letBoyPress_124 : decode cX3_letBoyPress 124 = .ok (.putfield 26, 3) := by decide +kernel
theorem dX3_letBoyPress_127 : decode cX3_letBoyPress 127 = .ok (.aload_n 0, 1) := by decide +kernel
theorem dX3_letBoyPress_128 : decode cX3_letBoyPress 128 = .ok (.lload 10, 2) := by decide +kernel
theorem dX3_letBoyPress_130 : decode cX3_letBoyPress 130 = .ok (.lconst 0, 1) := by decide +kernel
theorem dX3_letBoyPress_131 : decode cX3_letBoyPress 131 = .ok (.lcmp, 1) := by decide +kernel
theorem dX3_letBoyPress_132 : decode cX3_letBoyPress 132 = .ok (.ifCond .le 11, 3) := by decide +kernel
theorem dX3_letBoyPress_135 : decode cX3_letBoyPress 135 = .ok (.lload 8, 2) := by decide +kernel
theorem dX3_letBoyPress_137 : decode cX3_letBoyPress 137 = .ok (.lload 10, 2) := by decide +kernel
theorem dX3_letBoyPress_139 : decode cX3_letBoyPress 139 = .ok (.ldiv, 1) := by decide +kernel
theorem dX3_letBoyPress_140 : decode cX3_letBoyPress 140 = .ok (.goto 4, 3) := by decide +kernel
theorem dX3_letBoyPress_143 : decode cX3_letBoyPress 143 = .ok (.lconst 1, 1) := by decide +kernel
theorem dX3_letBoyPress_144 : decode cX3_letBoyPress 144 = .ok (.putfield 29, 3) := by decide +kernel
theorem dX3_letBoyPress_147 : decode cX3_letBoyPress 147 = .ok (.return_, 1) := by decide +kernel
theorem dX3_commonDivisor_0 : decode cX3_commonDivisor 0 = .ok (.lload_n 0, 1) := by decide +kernel
theorem dX3_commonDivisor_1 : decode cX3_commonDivisor 1 = .ok (.lstore 4, 2) := by decide +kernel
theorem dX3_commonDivisor_3 : decode cX3_commonDivisor 3 = .ok (.lload_n 2, 1) := by decide +kernel
theorem dX3_commonDivisor_4 : decode cX3_commonDivisor 4 = .ok (.lstore 6, 2) := by decide +kernel
theorem dX3_commonDivisor_6 : decode cX3_commonDivisor 6 = .ok (.iconst 0, 1) := by decide +kernel
theorem dX3_commonDivisor_7 : decode cX3_commonDivisor 7 = .ok (.istore 8, 2) := by decide +kernel
theorem dX3_commonDivisor_9 : decode cX3_commonDivisor 9 = .ok (.iload 8, 2) := by decide +kernel
theorem dX3_commonDivisor_11 : decode cX3_commonDivisor 11 = .ok (.sipush 200, 3) := by decide +kernel
theorem dX3_commonDivisor_14 : decode cX3_commonDivisor 14 = .ok (.if_icmp .ge 31, 3) := by decide +kernel
theorem dX3_commonDivisor_17 : decode cX3_commonDivisor 17 = .ok (.lload 6, 2) := by decide +kernel
theorem dX3_commonDivisor_19 : decode cX3_commonDivisor 19 = .ok (.lconst 0, 1) := by decide +kernel
theorem dX3_commonDivisor_20 : decode cX3_commonDivisor 20 = .ok (.lcmp, 1) := by decide +kernel
theorem dX3_commonDivisor_21 : decode cX3_commonDivisor 21 = .ok (.ifCond .eq 24, 3) := by decide +kernel
theorem dX3_commonDivisor_24 : decode cX3_commonDivisor 24 = .ok (.lload 4, 2) := by decide +kernel
theorem dX3_commonDivisor_26 : decode cX3_commonDivisor 26 = .ok (.lload 6, 2) := by decide +kernel
theorem dX3_commonDivisor_28 : decode cX3_commonDivisor 28 = .ok (.lrem, 1) := by decide +kernel
theorem dX3_commonDivisor_29 : decode cX3_commonDivisor 29 = .ok (.lstore 9, 2) := by decide +kernel
theorem dX3_commonDivisor_31 : decode cX3_commonDivisor 31 = .ok (.lload 6, 2) := by decide +kernel
theorem dX3_commonDivisor_33 : decode cX3_commonDivisor 33 = .ok (.lstore 4, 2) := by decide +kernel
theorem dX3_commonDivisor_35 : decode cX3_commonDivisor 35 = .ok (.lload 9, 2) := by decide +kernel
theorem dX3_commonDivisor_37 : decode cX3_commonDivisor 37 = .ok (.lstore 6, 2) := by decide +kernel
theorem dX3_commonDivisor_39 : decode cX3_commonDivisor 39 = .ok (.iinc 8 1, 3) := by decide +kernel
theorem dX3_commonDivisor_42 : decode cX3_commonDivisor 42 = .ok (.goto (-33), 3) := by decide +kernel
theorem dX3_commonDivisor_45 : decode cX3_commonDivisor 45 = .ok (.lload 4, 2) := by decide +kernel
theorem dX3_commonDivisor_47 : decode cX3_commonDivisor 47 = .ok (.lreturn, 1) := by decide +kernel
