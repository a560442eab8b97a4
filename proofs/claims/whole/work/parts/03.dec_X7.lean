theorem dJx00060_init_a7421_0 : decode cJx00060_init_a7421 0 = .ok (.aload_n 0, 1) := by decide +kernel
theorem dJx00060_init_a7421_1 : decode cJx00060_init_a7421 1 = .ok (.aload_n 1, 1) := by decide +kernel
theorem dJx00060_init_a7421_2 : decode cJx00060_init_a7421 2 = .ok (.invokespecial 7, 3) := by decide +kernel
theorem dJx00060_init_a7421_5 : decode cJx00060_init_a7421 5 = .ok (.return_, 1) := by decide +kernel
theorem dJ6_bitCount_0f7a4_0 : decode cJ6_bitCount_0f7a4 0 = .ok (.iload_n 0, 1) := by decide +kernel
theorem dJ6_bitCount_0f7a4_1 : decode cJ6_bitCount_0f7a4 1 = .ok (.iload_n 0, 1) := by decide +kernel
theorem dJ6_bitCount_0f7a4_2 : decode cJ6_bitCount_0f7a4 2 = .ok (.iconst 1, 1) := by decide +kernel
theorem dJ6_bitCount_0f7a4_3 : decode cJ6_bitCount_0f7a4 3 = .ok (.iushr, 1) := by decide +kernel
theorem dJ6_bitCount_0f7a4_4 : decode cJ6_bitCount_0f7a4 4 = .ok (.ldc_w 265, 3) := by decide +kernel
theorem dJ6_bitCount_0f7a4_7 : decode cJ6_bitCount_0f7a4 7 = .ok (.iand, 1) := by decide +kernel
theorem dJ6_bitCount_0f7a4_8 : decode cJ6_bitCount_0f7a4 8 = .ok (.isub, 1) := by decide +kernel
theorem dJ6_bitCount_0f7a4_9 : decode cJ6_bitCount_0f7a4 9 = .ok (.istore_n 0, 1) := by decide +kernel
theorem dJ6_bitCount_0f7a4_10 : decode cJ6_bitCount_0f7a4 10 = .ok (.iload_n 0, 1) := by decide +kernel
theorem dJ6_bitCount_0f7a4_11 : decode cJ6_bitCount_0f7a4 11 = .ok (.ldc_w 266, 3) := by decide +kernel
theorem dJ6_bitCount_0f7a4_14 : decode cJ6_bitCount_0f7a4 14 = .ok (.iand, 1) := by decide +kernel
theorem dJ6_bitCount_0f7a4_15 : decode cJ6_bitCount_0f7a4 15 = .ok (.iload_n 0, 1) := by decide +kernel
theorem dJ6_bitCount_0f7a4_16 : decode cJ6_bitCount_0f7a4 16 = .ok (.iconst 2, 1) := by decide +kernel
theorem dJ6_bitCount_0f7a4_17 : decode cJ6_bitCount_0f7a4 17 = .ok (.iushr, 1) := by decide +kernel
theorem dJ6_bitCount_0f7a4_18 : decode cJ6_bitCount_0f7a4 18 = .ok (.ldc_w 266, 3) := by decide +kernel
theorem dJ6_bitCount_0f7a4_21 : decode cJ6_bitCount_0f7a4 21 = .ok (.iand, 1) := by decide +kernel
theorem dJ6_bitCount_0f7a4_22 : decode cJ6_bitCount_0f7a4 22 = .ok (.iadd, 1) := by decide +kernel
theorem dJ6_bitCount_0f7a4_23 : decode cJ6_bitCount_0f7a4 23 = .ok (.istore_n 0, 1) := by decide +kernel
theorem dJ6_bitCount_0f7a4_24 : decode cJ6_bitCount_0f7a4 24 = .ok (.iload_n 0, 1) := by decide +kernel
theorem dJ6_bitCount_0f7a4_25 : decode cJ6_bitCount_0f7a4 25 = .ok (.iload_n 0, 1) := by decide +kernel
theorem dJ6_bitCount_0f7a4_26 : decode cJ6_bitCount_0f7a4 26 = .ok (.iconst 4, 1) := by decide +kernel
theorem dJ6_bitCount_0f7a4_27 : decode cJ6_bitCount_0f7a4 27 = .ok (.iushr, 1) := by decide +kernel
theorem dJ6_bitCount_0f7a4_28 : decode cJ6_bitCount_0f7a4 28 = .ok (.iadd, 1) := by decide +kernel
theorem dJ6_bitCount_0f7a4_29 : decode cJ6_bitCount_0f7a4 29 = .ok (.ldc_w 267, 3) := by decide +kernel
theorem dJ6_bitCount_0f7a4_32 : decode cJ6_bitCount_0f7a4 32 = .ok (.iand, 1) := by decide +kernel
theorem dJ6_bitCount_0f7a4_33 : decode cJ6_bitCount_0f7a4 33 = .ok (.istore_n 0, 1) := by decide +kernel
theorem dJ6_bitCount_0f7a4_34 : decode cJ6_bitCount_0f7a4 34 = .ok (.iload_n 0, 1) := by decide +kernel
theorem dJ6_bitCount_0f7a4_35 : decode cJ6_bitCount_0f7a4 35 = .ok (.iload_n 0, 1) := by decide +kernel
theorem dJ6_bitCount_0f7a4_36 : decode cJ6_bitCount_0f7a4 36 = .ok (.bipush 8, 2) := by decide +kernel
theorem dJ6_bitCount_0f7a4_38 : decode cJ6_bitCount_0f7a4 38 = .ok (.iushr, 1) := by decide +kernel
theorem dJ6_bitCount_0f7a4_39 : decode cJ6_bitCount_0f7a4 39 = .ok (.iadd, 1) := by decide +kernel
theorem dJ6_bitCount_0f7a4_40 : decode cJ6_bitCount_0f7a4 40 = .ok (.istore_n 0, 1) := by decide +kernel
theorem dJ6_bitCount_0f7a4_41 : decode cJ6_bitCount_0f7a4 41 = .ok (.iload_n 0, 1) := by decide +kernel
theorem dJ6_bitCount_0f7a4_42 : decode cJ6_bitCount_0f7a4 42 = .ok (.iload_n 0, 1) := by decide +kernel
theorem dJ6_bitCount_0f7a4_43 : decode cJ6_bitCount_0f7a4 43 = .ok (.bipush 16, 2) := by decide +kernel
theorem dJ6_bitCount_0f7a4_45 : decode cJ6_bitCount_0f7a4 45 = .ok (.iushr, 1) := by decide +kernel
theorem dJ6_bitCount_0f7a4_46 : decode cJ6_bitCount_0f7a4 46 = .ok (.iadd, 1) := by decide +kernel
theorem dJ6_bitCount_0f7a4_47 : decode cJ6_bitCount_0f7a4 47 = .ok (.istore_n 0, 1) := by decide +kernel
theorem dJ6_bitCount_0f7a4_48 : decode cJ6_bitCount_0f7a4 48 = .ok (.iload_n 0, 1) := by decide +kernel
theorem dJ6_bitCount_0f7a4_49 : decode cJ6_bitCount_0f7a4 49 = .ok (.bipush 63, 2) := by decide +kernel
theorem dJ6_bitCount_0f7a4_51 : decode cJ6_bitCount_0f7a4 51 = .ok (.iand, 1) := by decide +kernel
theorem dJ6_bitCount_0f7a4_52 : decode cJ6_bitCount_0f7a4 52 = .ok (.ireturn, 1) := by decide +kernel
theorem dJ9_max_7cf53_0 : decode cJ9_max_7cf53 0 = .ok (.iload_n 0, 1) := by decide +kernel
theorem dJ9_max_7cf53_1 : decode cJ9_max_7cf53 1 = .ok (.iload_n 1, 1) := by decide +kernel
theorem dJ9_max_7cf53_2 : decode cJ9_max_7cf53 2 = .ok (.if_icmp .lt 7, 3) := by decide +kernel
theorem dJ9_max_7cf53_5 : decode cJ9_max_7cf53 5 = .ok (.iload_n 0, 1) := by decide +kernel
theorem dJ9_max_7cf53_6 : decode cJ9_max_7cf53 6 = .ok (.goto 4, 3) := by decide +kernel
theorem dJ9_max_7cf53_9 : decode cJ9_max_7cf53 9 = .ok (.iload_n 1, 1) := by decide +kernel
theorem dJ9_max_7cf53_10 : decode cJ9_max_7cf53 10 = .ok (.ireturn, 1) := by decide +kernel
theorem dJ9_min_7cf53_0 : decode cJ9_min_7cf53 0 = .ok (.iload_n 0, 1) := by decide +kernel
theorem dJ9_min_7cf53_1 : decode cJ9_min_7cf53 1 = .ok (.iload_n 1, 1) := by decide +kernel
theorem dJ9_min_7cf53_2 : decode cJ9_min_7cf53 2 = .ok (.if_icmp .gt 7, 3) := by decide +kernel
theorem dJ9_min_7cf53_5 : decode cJ9_min_7cf53 5 = .ok (.iload_n 0, 1) := by decide +kernel
theorem dJ9_min_7cf53_6 : decode cJ9_min_7cf53 6 = .ok (.goto 4, 3) := by decide +kernel
theorem dJ9_min_7cf53_9 : decode cJ9_min_7cf53 9 = .ok (.iload_n 1, 1) := by decide +kernel
theorem dJ9_min_7cf53_10 : decode cJ9_min_7cf53 10 = .ok (.ireturn, 1) := by decide +kernel
theorem dJ0_length_8abf5_0 : decode cJ0_length_8abf5 0 = .ok (.aload_n 0, 1) := by decide +kernel
theorem dJ0_length_8abf5_1 : decode cJ0_length_8abf5 1 = .ok (.getfield 9, 3) := by decide +kernel
theorem dJ0_length_8abf5_4 : decode cJ0_length_8abf5 4 = .ok (.arraylength, 1) := by decide +kernel
theorem dJ0_length_8abf5_5 : decode cJ0_length_8abf5 5 = .ok (.aload_n 0, 1) := by decide +kernel
theorem dJ0_length_8abf5_6 : decode cJ0_length_8abf5 6 = .ok (.invokevirtual 335, 3) := by decide +kernel
theorem dJ0_length_8abf5_9 : decode cJ0_length_8abf5 9 = .ok (.ishr, 1) := by decide +kernel
theorem dJ0_length_8abf5_10 : decode cJ0_length_8abf5 10 = .ok (.ireturn, 1) := by decide +kernel
theorem dJ0_charAt_5068e_0 : decode cJ0_charAt_5068e 0 = .ok (.aload_n 0, 1) := by decide +kernel
theorem dJ0_charAt_5068e_1 : decode cJ0_charAt_5068e 1 = .ok (.invokevirtual 492, 3) := by decide +kernel
theorem dJ0_charAt_5068e_4 : decode cJ0_charAt_5068e 4 = .ok (.ifCond .eq 12, 3) := by decide +kernel
theorem dJ0_charAt_5068e_7 : decode cJ0_charAt_5068e 7 = .ok (.aload_n 0, 1) := by decide +kernel
theorem dJ0_charAt_5068e_8 : decode cJ0_charAt_5068e 8 = .ok (.getfield 9, 3) := by decide +kernel
theorem dJ0_charAt_5068e_11 : decode cJ0_charAt_5068e 11 = .ok (.iload_n 1, 1) := by decide +kernel
theorem dJ0_charAt_5068e_12 : decode cJ0_charAt_5068e 12 = .ok (.invokestatic 495, 3) := by decide +kernel
theorem dJ0_charAt_5068e_15 : decode cJ0_charAt_5068e 15 = .ok (.ireturn, 1) := by decide +kernel
theorem dJ0_charAt_5068e_16 : decode cJ0_charAt_5068e 16 = .ok (.aload_n 0, 1) := by decide +kernel
theorem dJ0_charAt_5068e_17 : decode cJ0_charAt_5068e 17 = .ok (.getfield 9, 3) := by decide +kernel
theorem dJ0_charAt_5068e_20 : decode cJ0_charAt_5068e 20 = .ok (.iload_n 1, 1) := by decide +kernel
theorem dJ0_charAt_5068e_21 : decode cJ0_charAt_5068e 21 = .ok (.invokestatic 498, 3) := by decide +kernel
theorem dJ0_charAt_5068e_24 : decode cJ0_charAt_5068e 24 = .ok (.ireturn, 1) := by decide +kernel
theorem dJ0_coder_7d493_0 : decode cJ0_coder_7d493 0 = .ok (.getstatic 38, 3) := by decide +kernel
theorem dJ0_coder_7d493_3 : decode cJ0_coder_7d493 3 = .ok (.ifCond .eq 10, 3) := by decide +kernel
theorem dJ0_coder_7d493_6 : decode cJ0_coder_7d493 6 = .ok (.aload_n 0, 1) := by decide +kernel
theorem dJ0_coder_7d493_7 : decode cJ0_coder_7d493 7 = .ok (.getfield 15, 3) := by decide +kernel
theorem dJ0_coder_7d493_10 : decode cJ0_coder_7d493 10 = .ok (.goto 4, 3) := by decide +kernel
theorem dJ0_coder_7d493_13 : decode cJ0_coder_7d493 13 = .ok (.iconst 1, 1) := by decide +kernel
theorem dJ0_coder_7d493_14 : decode cJ0_coder_7d493 14 = .ok (.ireturn, 1) := by decide +kernel
theorem dJ0_isLatin1_aae02_0 : decode cJ0_isLatin1_aae02 0 = .ok (.getstatic 38, 3) := by decide +kernel
theorem dJ0_isLatin1_aae02_3 : decode cJ0_isLatin1_aae02 3 = .ok (.ifCond .eq 14, 3) := by decide +kernel
theorem dJ0_isLatin1_aae02_6 : decode cJ0_isLatin1_aae02 6 = .ok (.aload_n 0, 1) := by decide +kernel
theorem dJ0_isLatin1_aae02_7 : decode cJ0_isLatin1_aae02 7 = .ok (.getfield 15, 3) := by decide +kernel
theorem dJ0_isLatin1_aae02_10 : decode cJ0_isLatin1_aae02 10 = .ok (.ifCond .ne 7, 3) := by decide +kernel
theorem dJ0_isLatin1_aae02_13 : decode cJ0_isLatin1_aae02 13 = .ok (.iconst 1, 1) := by decide +kernel
theorem dJ0_isLatin1_aae02_14 : decode cJ0_isLatin1_aae02 14 = .ok (.goto 4, 3) := by decide +kernel
theorem dJ0_isLatin1_aae02_17 : decode cJ0_isLatin1_aae02 17 = .ok (.iconst 0, 1) := by decide +kernel
theorem dJ0_isLatin1_aae02_18 : decode cJ0_isLatin1_aae02 18 = .ok (.ireturn, 1) := by decide +kernel
theorem dJ0_checkIndex_df160_0 : decode cJ0_checkIndex_df160 0 = .ok (.iload_n 0, 1) := by decide +kernel
theorem dJ0_checkIndex_df160_1 : decode cJ0_checkIndex_df160 1 = .ok (.iload_n 1, 1) := by decide +kernel
theorem dJ0_checkIndex_df160_2 : decode cJ0_checkIndex_df160 2 = .ok (.getstatic 1053, 3) := by decide +kernel
theorem dJ0_checkIndex_df160_5 : decode cJ0_checkIndex_df160 5 = .ok (.invokestatic 1059, 3) := by decide +kernel
theorem dJ0_checkIndex_df160_8 : decode cJ0_checkIndex_df160 8 = .ok (.pop, 1) := by decide +kernel
theorem dJ0_checkIndex_df160_9 : decode cJ0_checkIndex_df160 9 = .ok (.return_, 1) := by decide +kernel
theorem dJ1_charAt_3b067_0 : decode cJ1_charAt_3b067 0 = .ok (.iload_n 1, 1) := by decide +kernel
theorem dJ1_charAt_3b067_1 : decode cJ1_charAt_3b067 1 = .ok (.aload_n 0, 1) := by decide +kernel
theorem dJ1_charAt_3b067_2 : decode cJ1_charAt_3b067 2 = .ok (.arraylength, 1) := by decide +kernel
theorem dJ1_charAt_3b067_3 : decode cJ1_charAt_3b067 3 = .ok (.invokestatic 9, 3) := by decide +kernel
theorem dJ1_charAt_3b067_6 : decode cJ1_charAt_3b067 6 = .ok (.aload_n 0, 1) := by decide +kernel
theorem dJ1_charAt_3b067_7 : decode cJ1_charAt_3b067 7 = .ok (.iload_n 1, 1) := by decide +kernel
theorem dJ1_charAt_3b067_8 : decode cJ1_charAt_3b067 8 = .ok (.baload, 1) := by decide +kernel
theorem dJ1_charAt_3b067_9 : decode cJ1_charAt_3b067 9 = .ok (.sipush 255, 3) := by decide +kernel
theorem dJ1_charAt_3b067_12 : decode cJ1_charAt_3b067 12 = .ok (.iand, 1) := by decide +kernel
theorem dJ1_charAt_3b067_13 : decode cJ1_charAt_3b067 13 = .ok (.i2c, 1) := by decide +kernel
theorem dJ1_charAt_3b067_14 : decode cJ1_charAt_3b067 14 = .ok (.ireturn, 1) := by decide +kernel
theorem dJ2_getChar_3b067_0 : decode cJ2_getChar_3b067 0 = .ok (.getstatic 44, 3) := by decide +kernel
theorem dJ2_getChar_3b067_3 : decode cJ2_getChar_3b067 3 = .ok (.ifCond .ne 25, 3) := by decide +kernel
theorem dJ2_getChar_3b067_6 : decode cJ2_getChar_3b067 6 = .ok (.iload_n 1, 1) := by decide +kernel
theorem dJ2_getChar_3b067_7 : decode cJ2_getChar_3b067 7 = .ok (.ifCond .lt 11, 3) := by decide +kernel
theorem dJ2_getChar_3b067_10 : decode cJ2_getChar_3b067 10 = .ok (.iload_n 1, 1) := by decide +kernel
theorem dJ2_getChar_3b067_11 : decode cJ2_getChar_3b067 11 = .ok (.aload_n 0, 1) := by decide +kernel
theorem dJ2_getChar_3b067_12 : decode cJ2_getChar_3b067 12 = .ok (.invokestatic 48, 3) := by decide +kernel
theorem dJ2_getChar_3b067_15 : decode cJ2_getChar_3b067 15 = .ok (.if_icmp .lt 13, 3) := by decide +kernel
theorem dJ2_getChar_3b067_18 : decode cJ2_getChar_3b067 18 = .ok (.new 52, 3) := by decide +kernel
theorem dJ2_getChar_3b067_21 : decode cJ2_getChar_3b067 21 = .ok (.dup, 1) := by decide +kernel
theorem dJ2_getChar_3b067_22 : decode cJ2_getChar_3b067 22 = .ok (.ldc 54, 2) := by decide +kernel
theorem dJ2_getChar_3b067_24 : decode cJ2_getChar_3b067 24 = .ok (.invokespecial 56, 3) := by decide +kernel
theorem dJ2_getChar_3b067_27 : decode cJ2_getChar_3b067 27 = .ok (.athrow, 1) := by decide +kernel
theorem dJ2_getChar_3b067_28 : decode cJ2_getChar_3b067 28 = .ok (.iload_n 1, 1) := by decide +kernel
theorem dJ2_getChar_3b067_29 : decode cJ2_getChar_3b067 29 = .ok (.iconst 1, 1) := by decide +kernel
theorem dJ2_getChar_3b067_30 : decode cJ2_getChar_3b067 30 = .ok (.ishl, 1) := by decide +kernel
theorem dJ2_getChar_3b067_31 : decode cJ2_getChar_3b067 31 = .ok (.istore_n 1, 1) := by decide +kernel
theorem dJ2_getChar_3b067_32 : decode cJ2_getChar_3b067 32 = .ok (.aload_n 0, 1) := by decide +kernel
theorem dJ2_getChar_3b067_33 : decode cJ2_getChar_3b067 33 = .ok (.iload_n 1, 1) := by decide +kernel
theorem dJ2_getChar_3b067_34 : decode cJ2_getChar_3b067 34 = .ok (.iinc 1 1, 3) := by decide +kernel
theorem dJ2_getChar_3b067_37 : decode cJ2_getChar_3b067 37 = .ok (.baload, 1) := by decide +kernel
theorem dJ2_getChar_3b067_38 : decode cJ2_getChar_3b067 38 = .ok (.sipush 255, 3) := by decide +kernel
theorem dJ2_getChar_3b067_41 : decode cJ2_getChar_3b067 41 = .ok (.iand, 1) := by decide +kernel
theorem dJ2_getChar_3b067_42 : decode cJ2_getChar_3b067 42 = .ok (.getstatic 59, 3) := by decide +kernel
theorem dJ2_getChar_3b067_45 : decode cJ2_getChar_3b067 45 = .ok (.ishl, 1) := by decide +kernel
theorem dJ2_getChar_3b067_46 : decode cJ2_getChar_3b067 46 = .ok (.aload_n 0, 1) := by decide +kernel
theorem dJ2_getChar_3b067_47 : decode cJ2_getChar_3b067 47 = .ok (.iload_n 1, 1) := by decide +kernel
theorem dJ2_getChar_3b067_48 : decode cJ2_getChar_3b067 48 = .ok (.baload, 1) := by decide +kernel
theorem dJ2_getChar_3b067_49 : decode cJ2_getChar_3b067 49 = .ok (.sipush 255, 3) := by decide +kernel
theorem dJ2_getChar_3b067_52 : decode cJ2_getChar_3b067 52 = .ok (.iand, 1) := by decide +kernel
theorem dJ2_getChar_3b067_53 : decode cJ2_getChar_3b067 53 = .ok (.getstatic 63, 3) := by decide +kernel
theorem dJ2_getChar_3b067_56 : decode cJ2_getChar_3b067 56 = .ok (.ishl, 1) := by decide +kernel
theorem dJ2_getChar_3b067_57 : decode cJ2_getChar_3b067 57 = .ok (.ior, 1) := by decide +kernel
theorem dJ2_getChar_3b067_58 : decode cJ2_getChar_3b067 58 = .ok (.i2c, 1) := by decide +kernel
theorem dJ2_getChar_3b067_59 : decode cJ2_getChar_3b067 59 = .ok (.ireturn, 1) := by decide +kernel
theorem dJ2_length_9d52b_0 : decode cJ2_length_9d52b 0 = .ok (.aload_n 0, 1) := by decide +kernel
theorem dJ2_length_9d52b_1 : decode cJ2_length_9d52b 1 = .ok (.arraylength, 1) := by decide +kernel
theorem dJ2_length_9d52b_2 : decode cJ2_length_9d52b 2 = .ok (.iconst 1, 1) := by decide +kernel
theorem dJ2_length_9d52b_3 : decode cJ2_length_9d52b 3 = .ok (.ishr, 1) := by decide +kernel
theorem dJ2_length_9d52b_4 : decode cJ2_length_9d52b 4 = .ok (.ireturn, 1) := by decide +kernel
theorem dJ2_charAt_3b067_0 : decode cJ2_charAt_3b067 0 = .ok (.iload_n 1, 1) := by decide +kernel
theorem dJ2_charAt_3b067_1 : decode cJ2_charAt_3b067 1 = .ok (.aload_n 0, 1) := by decide +kernel
theorem dJ2_charAt_3b067_2 : decode cJ2_charAt_3b067 2 = .ok (.invokestatic 67, 3) := by decide +kernel
theorem dJ2_charAt_3b067_5 : decode cJ2_charAt_3b067 5 = .ok (.aload_n 0, 1) := by decide +kernel
theorem dJ2_charAt_3b067_6 : decode cJ2_charAt_3b067 6 = .ok (.iload_n 1, 1) := by decide +kernel
theorem dJ2_charAt_3b067_7 : decode cJ2_charAt_3b067 7 = .ok (.invokestatic 71, 3) := by decide +kernel
theorem dJ2_charAt_3b067_10 : decode cJ2_charAt_3b067 10 = .ok (.ireturn, 1) := by decide +kernel
theorem dJ2_checkIndex_2214a_0 : decode cJ2_checkIndex_2214a 0 = .ok (.iload_n 0, 1) := by decide +kernel
theorem dJ2_checkIndex_2214a_1 : decode cJ2_checkIndex_2214a 1 = .ok (.aload_n 1, 1) := by decide +kernel
theorem dJ2_checkIndex_2214a_2 : decode cJ2_checkIndex_2214a 2 = .ok (.invokestatic 48, 3) := by decide +kernel
theorem dJ2_checkIndex_2214a_5 : decode cJ2_checkIndex_2214a 5 = .ok (.invokestatic 414, 3) := by decide +kernel
theorem dJ2_checkIndex_2214a_8 : decode cJ2_checkIndex_2214a 8 = .ok (.return_, 1) := by decide +kernel
theorem dJxa1e45_init_da8c8_0 : decode cJxa1e45_init_da8c8 0 = .ok (.aload_n 0, 1) := by decide +kernel
theorem dJxa1e45_init_da8c8_1 : decode cJxa1e45_init_da8c8 1 = .ok (.invokespecial 1, 3) := by decide +kernel
theorem dJxa1e45_init_da8c8_4 : decode cJxa1e45_init_da8c8 4 = .ok (.return_, 1) := by decide +kernel
theorem dJxc12de_init_da8c8_0 : decode cJxc12de_init_da8c8 0 = .ok (.aload_n 0, 1) := by decide +kernel
theorem dJxc12de_init_da8c8_1 : decode cJxc12de_init_da8c8 1 = .ok (.invokespecial 1, 3) := by decide +kernel
theorem dJxc12de_init_da8c8_4 : decode cJxc12de_init_da8c8 4 = .ok (.aload_n 0, 1) := by decide +kernel
theorem dJxc12de_init_da8c8_5 : decode cJxc12de_init_da8c8 5 = .ok (.iconst 0, 1) := by decide +kernel
theorem dJxc12de_init_da8c8_6 : decode cJxc12de_init_da8c8 6 = .ok (.putfield 7, 3) := by decide +kernel
theorem dJxc12de_init_da8c8_9 : decode cJxc12de_init_da8c8 9 = .ok (.return_, 1) := by decide +kernel
theorem dJx4a65c_init_da8c8_0 : decode cJx4a65c_init_da8c8 0 = .ok (.aload_n 0, 1) := by decide +kernel
theorem dJx4a65c_init_da8c8_1 : decode cJx4a65c_init_da8c8 1 = .ok (.invokespecial 1, 3) := by decide +kernel
theorem dJx4a65c_init_da8c8_4 : decode cJx4a65c_init_da8c8 4 = .ok (.aload_n 0, 1) := by decide +kernel
theorem dJx4a65c_init_da8c8_5 : decode cJx4a65c_init_da8c8 5 = .ok (.getstatic 39, 3) := by decide +kernel
theorem dJx4a65c_init_da8c8_8 : decode cJx4a65c_init_da8c8 8 = .ok (.putfield 9, 3) := by decide +kernel
theorem dJx4a65c_init_da8c8_11 : decode cJx4a65c_init_da8c8 11 = .ok (.return_, 1) := by decide +kernel
theorem dJx4a65c_grow_92f84_0 : decode cJx4a65c_grow_92f84 0 = .ok (.aload_n 0, 1) := by decide +kernel
theorem dJx4a65c_grow_92f84_1 : decode cJx4a65c_grow_92f84 1 = .ok (.getfield 9, 3) := by decide +kernel
theorem dJx4a65c_grow_92f84_4 : decode cJx4a65c_grow_92f84 4 = .ok (.arraylength, 1) := by decide +kernel
theorem dJx4a65c_grow_92f84_5 : decode cJx4a65c_grow_92f84 5 = .ok (.istore_n 2, 1) := by decide +kernel
theorem dJx4a65c_grow_92f84_6 : decode cJx4a65c_grow_92f84 6 = .ok (.iload_n 2, 1) := by decide +kernel
theorem dJx4a65c_grow_92f84_7 : decode cJx4a65c_grow_92f84 7 = .ok (.ifCond .gt 13, 3) := by decide +kernel
theorem dJx4a65c_grow_92f84_10 : decode cJx4a65c_grow_92f84 10 = .ok (.aload_n 0, 1) := by decide +kernel
theorem dJx4a65c_grow_92f84_11 : decode cJx4a65c_grow_92f84 11 = .ok (.getfield 9, 3) := by decide +kernel
theorem dJx4a65c_grow_92f84_14 : decode cJx4a65c_grow_92f84 14 = .ok (.getstatic 39, 3) := by decide +kernel
theorem dJx4a65c_grow_92f84_17 : decode cJx4a65c_grow_92f84 17 = .ok (.if_acmp .eq 28, 3) := by decide +kernel
theorem dJx4a65c_grow_92f84_20 : decode cJx4a65c_grow_92f84 20 = .ok (.iload_n 2, 1) := by decide +kernel
theorem dJx4a65c_grow_92f84_21 : decode cJx4a65c_grow_92f84 21 = .ok (.iload_n 1, 1) := by decide +kernel
theorem dJx4a65c_grow_92f84_22 : decode cJx4a65c_grow_92f84 22 = .ok (.iload_n 2, 1) := by decide +kernel
theorem dJx4a65c_grow_92f84_23 : decode cJx4a65c_grow_92f84 23 = .ok (.isub, 1) := by decide +kernel
theorem dJx4a65c_grow_92f84_24 : decode cJx4a65c_grow_92f84 24 = .ok (.iload_n 2, 1) := by decide +kernel
theorem dJx4a65c_grow_92f84_25 : decode cJx4a65c_grow_92f84 25 = .ok (.iconst 1, 1) := by decide +kernel
theorem dJx4a65c_grow_92f84_26 : decode cJx4a65c_grow_92f84 26 = .ok (.ishr, 1) := by decide +kernel
theorem dJx4a65c_grow_92f84_27 : decode cJx4a65c_grow_92f84 27 = .ok (.invokestatic 73, 3) := by decide +kernel
theorem dJx4a65c_grow_92f84_30 : decode cJx4a65c_grow_92f84 30 = .ok (.istore_n 3, 1) := by decide +kernel
theorem dJx4a65c_grow_92f84_31 : decode cJx4a65c_grow_92f84 31 = .ok (.aload_n 0, 1) := by decide +kernel
theorem dJx4a65c_grow_92f84_32 : decode cJx4a65c_grow_92f84 32 = .ok (.aload_n 0, 1) := by decide +kernel
theorem dJx4a65c_grow_92f84_33 : decode cJx4a65c_grow_92f84 33 = .ok (.getfield 9, 3) := by decide +kernel
theorem dJx4a65c_grow_92f84_36 : decode cJx4a65c_grow_92f84 36 = .ok (.iload_n 3, 1) := by decide +kernel
theorem dJx4a65c_grow_92f84_37 : decode cJx4a65c_grow_92f84 37 = .ok (.invokestatic 66, 3) := by decide +kernel
theorem dJx4a65c_grow_92f84_40 : decode cJx4a65c_grow_92f84 40 = .ok (.dup_x1, 1) := by decide +kernel
theorem dJx4a65c_grow_92f84_41 : decode cJx4a65c_grow_92f84 41 = .ok (.putfield 9, 3) := by decide +kernel
theorem dJx4a65c_grow_92f84_44 : decode cJx4a65c_grow_92f84 44 = .ok (.areturn, 1) := by decide +kernel
theorem dJx4a65c_grow_92f84_45 : decode cJx4a65c_grow_92f84 45 = .ok (.aload_n 0, 1) := by decide +kernel
theorem dJx4a65c_grow_92f84_46 : decode cJx4a65c_grow_92f84 46 = .ok (.bipush 10, 2) := by decide +kernel
theorem dJx4a65c_grow_92f84_48 : decode cJx4a65c_grow_92f84 48 = .ok (.iload_n 1, 1) := by decide +kernel
theorem dJx4a65c_grow_92f84_49 : decode cJx4a65c_grow_92f84 49 = .ok (.invokestatic 79, 3) := by decide +kernel
theorem dJx4a65c_grow_92f84_52 : decode cJx4a65c_grow_92f84 52 = .ok (.anewarray 7, 3) := by decide +kernel
theorem dJx4a65c_grow_92f84_55 : decode cJx4a65c_grow_92f84 55 = .ok (.dup_x1, 1) := by decide +kernel
theorem dJx4a65c_grow_92f84_56 : decode cJx4a65c_grow_92f84 56 = .ok (.putfield 9, 3) := by decide +kernel
theorem dJx4a65c_grow_92f84_59 : decode cJx4a65c_grow_92f84 59 = .ok (.areturn, 1) := by decide +kernel
theorem dJx4a65c_grow_d5877_0 : decode cJx4a65c_grow_d5877 0 = .ok (.aload_n 0, 1) := by decide +kernel
theorem dJx4a65c_grow_d5877_1 : decode cJx4a65c_grow_d5877 1 = .ok (.aload_n 0, 1) := by decide +kernel
theorem dJx4a65c_grow_d5877_2 : decode cJx4a65c_grow_d5877 2 = .ok (.getfield 48, 3) := by decide +kernel
theorem dJx4a65c_grow_d5877_5 : decode cJx4a65c_grow_d5877 5 = .ok (.iconst 1, 1) := by decide +kernel
theorem dJx4a65c_grow_d5877_6 : decode cJx4a65c_grow_d5877 6 = .ok (.iadd, 1) := by decide +kernel
theorem dJx4a65c_grow_d5877_7 : decode cJx4a65c_grow_d5877 7 = .ok (.invokevirtual 69, 3) := by decide +kernel
theorem dJx4a65c_grow_d5877_10 : decode cJx4a65c_grow_d5877 10 = .ok (.areturn, 1) := by decide +kernel
theorem dJx4a65c_size_8abf5_0 : decode cJx4a65c_size_8abf5 0 = .ok (.aload_n 0, 1) := by decide +kernel
theorem dJx4a65c_size_8abf5_1 : decode cJx4a65c_size_8abf5 1 = .ok (.getfield 48, 3) := by decide +kernel
theorem dJx4a65c_size_8abf5_4 : decode cJx4a65c_size_8abf5 4 = .ok (.ireturn, 1) := by decide +kernel
theorem dJx4a65c_isEmpty_aae02_0 : decode cJx4a65c_isEmpty_aae02 0 = .ok (.aload_n 0, 1) := by decide +kernel
theorem dJx4a65c_isEmpty_aae02_1 : decode cJx4a65c_isEmpty_aae02 1 = .ok (.getfield 48, 3) := by decide +kernel
theorem dJx4a65c_isEmpty_aae02_4 : decode cJx4a65c_isEmpty_aae02 4 = .ok (.ifCond .ne 7, 3) := by decide +kernel
theorem dJx4a65c_isEmpty_aae02_7 : decode cJx4a65c_isEmpty_aae02 7 = .ok (.iconst 1, 1) := by decide +kernel
theorem dJx4a65c_isEmpty_aae02_8 : decode cJx4a65c_isEmpty_aae02 8 = .ok (.goto 4, 3) := by decide +kernel
theorem dJx4a65c_isEmpty_aae02_11 : decode cJx4a65c_isEmpty_aae02 11 = .ok (.iconst 0, 1) := by decide +kernel
theorem dJx4a65c_isEmpty_aae02_12 : decode cJx4a65c_isEmpty_aae02 12 = .ok (.ireturn, 1) := by decide +kernel
theorem dJx4a65c_elementData_915e3_0 : decode cJx4a65c_elementData_915e3 0 = .ok (.aload_n 0, 1) := by decide +kernel
theorem dJx4a65c_elementData_915e3_1 : decode cJx4a65c_elementData_915e3 1 = .ok (.getfield 9, 3) := by decide +kernel
theorem dJx4a65c_elementData_915e3_4 : decode cJx4a65c_elementData_915e3 4 = .ok (.iload_n 1, 1) := by decide +kernel
theorem dJx4a65c_elementData_915e3_5 : decode cJx4a65c_elementData_915e3 5 = .ok (.aaload, 1) := by decide +kernel
theorem dJx4a65c_elementData_915e3_6 : decode cJx4a65c_elementData_915e3 6 = .ok (.areturn, 1) := by decide +kernel
theorem dJx4a65c_get_915e3_0 : decode cJx4a65c_get_915e3 0 = .ok (.iload_n 1, 1) := by decide +kernel
theorem dJx4a65c_get_915e3_1 : decode cJx4a65c_get_915e3 1 = .ok (.aload_n 0, 1) := by decide +kernel
theorem dJx4a65c_get_915e3_2 : decode cJx4a65c_get_915e3 2 = .ok (.getfield 48, 3) := by decide +kernel
theorem dJx4a65c_get_915e3_5 : decode cJx4a65c_get_915e3 5 = .ok (.invokestatic 118, 3) := by decide +kernel
theorem dJx4a65c_get_915e3_8 : decode cJx4a65c_get_915e3 8 = .ok (.pop, 1) := by decide +kernel
theorem dJx4a65c_get_915e3_9 : decode cJx4a65c_get_915e3 9 = .ok (.aload_n 0, 1) := by decide +kernel
theorem dJx4a65c_get_915e3_10 : decode cJx4a65c_get_915e3 10 = .ok (.iload_n 1, 1) := by decide +kernel
theorem dJx4a65c_get_915e3_11 : decode cJx4a65c_get_915e3 11 = .ok (.invokevirtual 123, 3) := by decide +kernel
theorem dJx4a65c_get_915e3_14 : decode cJx4a65c_get_915e3 14 = .ok (.areturn, 1) := by decide +kernel
theorem dJx4a65c_add_72be8_0 : decode cJx4a65c_add_72be8 0 = .ok (.iload_n 3, 1) := by decide +kernel
theorem dJx4a65c_add_72be8_1 : decode cJx4a65c_add_72be8 1 = .ok (.aload_n 2, 1) := by decide +kernel
theorem dJx4a65c_add_72be8_2 : decode cJx4a65c_add_72be8 2 = .ok (.arraylength, 1) := by decide +kernel
theorem dJx4a65c_add_72be8_3 : decode cJx4a65c_add_72be8 3 = .ok (.if_icmp .ne 8, 3) := by decide +kernel
theorem dJx4a65c_add_72be8_6 : decode cJx4a65c_add_72be8 6 = .ok (.aload_n 0, 1) := by decide +kernel
theorem dJx4a65c_add_72be8_7 : decode cJx4a65c_add_72be8 7 = .ok (.invokevirtual 129, 3) := by decide +kernel
theorem dJx4a65c_add_72be8_10 : decode cJx4a65c_add_72be8 10 = .ok (.astore_n 2, 1) := by decide +kernel
theorem dJx4a65c_add_72be8_11 : decode cJx4a65c_add_72be8 11 = .ok (.aload_n 2, 1) := by decide +kernel
theorem dJx4a65c_add_72be8_12 : decode cJx4a65c_add_72be8 12 = .ok (.iload_n 3, 1) := by decide +kernel
theorem dJx4a65c_add_72be8_13 : decode cJx4a65c_add_72be8 13 = .ok (.aload_n 1, 1) := by decide +kernel
theorem dJx4a65c_add_72be8_14 : decode cJx4a65c_add_72be8 14 = .ok (.aastore, 1) := by decide +kernel
theorem dJx4a65c_add_72be8_15 : decode cJx4a65c_add_72be8 15 = .ok (.aload_n 0, 1) := by decide +kernel
theorem dJx4a65c_add_72be8_16 : decode cJx4a65c_add_72be8 16 = .ok (.iload_n 3, 1) := by decide +kernel
theorem dJx4a65c_add_72be8_17 : decode cJx4a65c_add_72be8 17 = .ok (.iconst 1, 1) := by decide +kernel
theorem dJx4a65c_add_72be8_18 : decode cJx4a65c_add_72be8 18 = .ok (.iadd, 1) := by decide +kernel
theorem dJx4a65c_add_72be8_19 : decode cJx4a65c_add_72be8 19 = .ok (.putfield 48, 3) := by decide +kernel
theorem dJx4a65c_add_72be8_22 : decode cJx4a65c_add_72be8 22 = .ok (.return_, 1) := by decide +kernel
theorem dJx4a65c_add_9ea2d_0 : decode cJx4a65c_add_9ea2d 0 = .ok (.aload_n 0, 1) := by decide +kernel
theorem dJx4a65c_add_9ea2d_1 : decode cJx4a65c_add_9ea2d 1 = .ok (.dup, 1) := by decide +kernel
theorem dJx4a65c_add_9ea2d_2 : decode cJx4a65c_add_9ea2d 2 = .ok (.getfield 63, 3) := by decide +kernel
theorem dJx4a65c_add_9ea2d_5 : decode cJx4a65c_add_9ea2d 5 = .ok (.iconst 1, 1) := by decide +kernel
theorem dJx4a65c_add_9ea2d_6 : decode cJx4a65c_add_9ea2d 6 = .ok (.iadd, 1) := by decide +kernel
theorem dJx4a65c_add_9ea2d_7 : decode cJx4a65c_add_9ea2d 7 = .ok (.putfield 63, 3) := by decide +kernel
theorem dJx4a65c_add_9ea2d_10 : decode cJx4a65c_add_9ea2d 10 = .ok (.aload_n 0, 1) := by decide +kernel
theorem dJx4a65c_add_9ea2d_11 : decode cJx4a65c_add_9ea2d 11 = .ok (.aload_n 1, 1) := by decide +kernel
theorem dJx4a65c_add_9ea2d_12 : decode cJx4a65c_add_9ea2d 12 = .ok (.aload_n 0, 1) := by decide +kernel
theorem dJx4a65c_add_9ea2d_13 : decode cJx4a65c_add_9ea2d 13 = .ok (.getfield 9, 3) := by decide +kernel
theorem dJx4a65c_add_9ea2d_16 : decode cJx4a65c_add_9ea2d 16 = .ok (.aload_n 0, 1) := by decide +kernel
theorem dJx4a65c_add_9ea2d_17 : decode cJx4a65c_add_9ea2d 17 = .ok (.getfield 48, 3) := by decide +kernel
theorem dJx4a65c_add_9ea2d_20 : decode cJx4a65c_add_9ea2d 20 = .ok (.invokevirtual 131, 3) := by decide +kernel
theorem dJx4a65c_add_9ea2d_23 : decode cJx4a65c_add_9ea2d 23 = .ok (.iconst 1, 1) := by decide +kernel
theorem dJx4a65c_add_9ea2d_24 : decode cJx4a65c_add_9ea2d 24 = .ok (.ireturn, 1) := by decide +kernel
theorem dJ7_fill_53178_0 : decode cJ7_fill_53178 0 = .ok (.iconst 0, 1) := by decide +kernel
theorem dJ7_fill_53178_1 : decode cJ7_fill_53178 1 = .ok (.istore_n 2, 1) := by decide +kernel
theorem dJ7_fill_53178_2 : decode cJ7_fill_53178 2 = .ok (.aload_n 0, 1) := by decide +kernel
theorem dJ7_fill_53178_3 : decode cJ7_fill_53178 3 = .ok (.arraylength, 1) := by decide +kernel
theorem dJ7_fill_53178_4 : decode cJ7_fill_53178 4 = .ok (.istore_n 3, 1) := by decide +kernel
theorem dJ7_fill_53178_5 : decode cJ7_fill_53178 5 = .ok (.iload_n 2, 1) := by decide +kernel
theorem dJ7_fill_53178_6 : decode cJ7_fill_53178 6 = .ok (.iload_n 3, 1) := by decide +kernel
theorem dJ7_fill_53178_7 : decode cJ7_fill_53178 7 = .ok (.if_icmp .ge 13, 3) := by decide +kernel
theorem dJ7_fill_53178_10 : decode cJ7_fill_53178 10 = .ok (.aload_n 0, 1) := by decide +kernel
theorem dJ7_fill_53178_11 : decode cJ7_fill_53178 11 = .ok (.iload_n 2, 1) := by decide +kernel
theorem dJ7_fill_53178_12 : decode cJ7_fill_53178 12 = .ok (.iload_n 1, 1) := by decide +kernel
theorem dJ7_fill_53178_13 : decode cJ7_fill_53178 13 = .ok (.iastore, 1) := by decide +kernel
theorem dJ7_fill_53178_14 : decode cJ7_fill_53178 14 = .ok (.iinc 2 1, 3) := by decide +kernel
theorem dJ7_fill_53178_17 : decode cJ7_fill_53178 17 = .ok (.goto (-12), 3) := by decide +kernel
theorem dJ7_fill_53178_20 : decode cJ7_fill_53178 20 = .ok (.return_, 1) := by decide +kernel
theorem dJ7_copyOf_1904c_0 : decode cJ7_copyOf_1904c 0 = .ok (.aload_n 0, 1) := by decide +kernel
theorem dJ7_copyOf_1904c_1 : decode cJ7_copyOf_1904c 1 = .ok (.iload_n 1, 1) := by decide +kernel
theorem dJ7_copyOf_1904c_2 : decode cJ7_copyOf_1904c 2 = .ok (.aload_n 0, 1) := by decide +kernel
theorem dJ7_copyOf_1904c_3 : decode cJ7_copyOf_1904c 3 = .ok (.invokevirtual 86, 3) := by decide +kernel
theorem dJ7_copyOf_1904c_6 : decode cJ7_copyOf_1904c 6 = .ok (.invokestatic 300, 3) := by decide +kernel
theorem dJ7_copyOf_1904c_9 : decode cJ7_copyOf_1904c 9 = .ok (.areturn, 1) := by decide +kernel
theorem dJ7_copyOf_6403c_0 : decode cJ7_copyOf_6403c 0 = .ok (.aload_n 2, 1) := by decide +kernel
theorem dJ7_copyOf_6403c_1 : decode cJ7_copyOf_6403c 1 = .ok (.ldc 110, 2) := by decide +kernel
theorem dJ7_copyOf_6403c_3 : decode cJ7_copyOf_6403c 3 = .ok (.if_acmp .ne 10, 3) := by decide +kernel
theorem dJ7_copyOf_6403c_6 : decode cJ7_copyOf_6403c 6 = .ok (.iload_n 1, 1) := by decide +kernel
theorem dJ7_copyOf_6403c_7 : decode cJ7_copyOf_6403c 7 = .ok (.anewarray 2, 3) := by decide +kernel
theorem dJ7_copyOf_6403c_10 : decode cJ7_copyOf_6403c 10 = .ok (.goto 14, 3) := by decide +kernel
theorem dJ7_copyOf_6403c_13 : decode cJ7_copyOf_6403c 13 = .ok (.aload_n 2, 1) := by decide +kernel
theorem dJ7_copyOf_6403c_14 : decode cJ7_copyOf_6403c 14 = .ok (.invokevirtual 90, 3) := by decide +kernel
theorem dJ7_copyOf_6403c_17 : decode cJ7_copyOf_6403c 17 = .ok (.iload_n 1, 1) := by decide +kernel
theorem dJ7_copyOf_6403c_18 : decode cJ7_copyOf_6403c 18 = .ok (.invokestatic 95, 3) := by decide +kernel
theorem dJ7_copyOf_6403c_21 : decode cJ7_copyOf_6403c 21 = .ok (.checkcast 110, 3) := by decide +kernel
theorem dJ7_copyOf_6403c_24 : decode cJ7_copyOf_6403c 24 = .ok (.astore_n 3, 1) := by decide +kernel
theorem dJ7_copyOf_6403c_25 : decode cJ7_copyOf_6403c 25 = .ok (.aload_n 0, 1) := by decide +kernel
theorem dJ7_copyOf_6403c_26 : decode cJ7_copyOf_6403c 26 = .ok (.iconst 0, 1) := by decide +kernel
theorem dJ7_copyOf_6403c_27 : decode cJ7_copyOf_6403c 27 = .ok (.aload_n 3, 1) := by decide +kernel
theorem dJ7_copyOf_6403c_28 : decode cJ7_copyOf_6403c 28 = .ok (.iconst 0, 1) := by decide +kernel
theorem dJ7_copyOf_6403c_29 : decode cJ7_copyOf_6403c 29 = .ok (.aload_n 0, 1) := by decide +kernel
theorem dJ7_copyOf_6403c_30 : decode cJ7_copyOf_6403c 30 = .ok (.arraylength, 1) := by decide +kernel
theorem dJ7_copyOf_6403c_31 : decode cJ7_copyOf_6403c 31 = .ok (.iload_n 1, 1) := by decide +kernel
theorem dJ7_copyOf_6403c_32 : decode cJ7_copyOf_6403c 32 = .ok (.invokestatic 304, 3) := by decide +kernel
theorem dJ7_copyOf_6403c_35 : decode cJ7_copyOf_6403c 35 = .ok (.invokestatic 150, 3) := by decide +kernel
theorem dJ7_copyOf_6403c_38 : decode cJ7_copyOf_6403c 38 = .ok (.aload_n 3, 1) := by decide +kernel
theorem dJ7_copyOf_6403c_39 : decode cJ7_copyOf_6403c 39 = .ok (.areturn, 1) := by decide +kernel
theorem dJ15_checkIndex_7cf53_0 : decode cJ15_checkIndex_7cf53 0 = .ok (.iload_n 0, 1) := by decide +kernel
theorem dJ15_checkIndex_7cf53_1 : decode cJ15_checkIndex_7cf53 1 = .ok (.iload_n 1, 1) := by decide +kernel
theorem dJ15_checkIndex_7cf53_2 : decode cJ15_checkIndex_7cf53 2 = .ok (.aconst_null, 1) := by decide +kernel
theorem dJ15_checkIndex_7cf53_3 : decode cJ15_checkIndex_7cf53 3 = .ok (.invokestatic 105, 3) := by decide +kernel
theorem dJ15_checkIndex_7cf53_6 : decode cJ15_checkIndex_7cf53 6 = .ok (.ireturn, 1) := by decide +kernel
theorem dJ8_newLength_cabcc_0 : decode cJ8_newLength_cabcc 0 = .ok (.iload_n 0, 1) := by decide +kernel
theorem dJ8_newLength_cabcc_1 : decode cJ8_newLength_cabcc 1 = .ok (.iload_n 1, 1) := by decide +kernel
theorem dJ8_newLength_cabcc_2 : decode cJ8_newLength_cabcc 2 = .ok (.iload_n 2, 1) := by decide +kernel
theorem dJ8_newLength_cabcc_3 : decode cJ8_newLength_cabcc 3 = .ok (.invokestatic 194, 3) := by decide +kernel
theorem dJ8_newLength_cabcc_6 : decode cJ8_newLength_cabcc 6 = .ok (.iadd, 1) := by decide +kernel
theorem dJ8_newLength_cabcc_7 : decode cJ8_newLength_cabcc 7 = .ok (.istore_n 3, 1) := by decide +kernel
theorem dJ8_newLength_cabcc_8 : decode cJ8_newLength_cabcc 8 = .ok (.iconst 0, 1) := by decide +kernel
theorem dJ8_newLength_cabcc_9 : decode cJ8_newLength_cabcc 9 = .ok (.iload_n 3, 1) := by decide +kernel
theorem dJ8_newLength_cabcc_10 : decode cJ8_newLength_cabcc 10 = .ok (.if_icmp .ge 11, 3) := by decide +kernel
theorem dJ8_newLength_cabcc_13 : decode cJ8_newLength_cabcc 13 = .ok (.iload_n 3, 1) := by decide +kernel
theorem dJ8_newLength_cabcc_14 : decode cJ8_newLength_cabcc 14 = .ok (.ldc 200, 2) := by decide +kernel
theorem dJ8_newLength_cabcc_16 : decode cJ8_newLength_cabcc 16 = .ok (.if_icmp .gt 5, 3) := by decide +kernel
theorem dJ8_newLength_cabcc_19 : decode cJ8_newLength_cabcc 19 = .ok (.iload_n 3, 1) := by decide +kernel
theorem dJ8_newLength_cabcc_20 : decode cJ8_newLength_cabcc 20 = .ok (.ireturn, 1) := by decide +kernel
theorem dJ8_newLength_cabcc_21 : decode cJ8_newLength_cabcc 21 = .ok (.iload_n 0, 1) := by decide +kernel
theorem dJ8_newLength_cabcc_22 : decode cJ8_newLength_cabcc 22 = .ok (.iload_n 1, 1) := by decide +kernel
theorem dJ8_newLength_cabcc_23 : decode cJ8_newLength_cabcc 23 = .ok (.invokestatic 201, 3) := by decide +kernel
theorem dJ8_newLength_cabcc_26 : decode cJ8_newLength_cabcc 26 = .ok (.ireturn, 1) := by decide +kernel
theorem dJ8_hugeLength_7cf53_0 : decode cJ8_hugeLength_7cf53 0 = .ok (.iload_n 0, 1) := by decide +kernel
theorem dJ8_hugeLength_7cf53_1 : decode cJ8_hugeLength_7cf53 1 = .ok (.iload_n 1, 1) := by decide +kernel
theorem dJ8_hugeLength_7cf53_2 : decode cJ8_hugeLength_7cf53 2 = .ok (.iadd, 1) := by decide +kernel
theorem dJ8_hugeLength_7cf53_3 : decode cJ8_hugeLength_7cf53 3 = .ok (.istore_n 2, 1) := by decide +kernel
theorem dJ8_hugeLength_7cf53_4 : decode cJ8_hugeLength_7cf53 4 = .ok (.iload_n 2, 1) := by decide +kernel
theorem dJ8_hugeLength_7cf53_5 : decode cJ8_hugeLength_7cf53 5 = .ok (.ifCond .ge 44, 3) := by decide +kernel
theorem dJ8_hugeLength_7cf53_8 : decode cJ8_hugeLength_7cf53 8 = .ok (.new 204, 3) := by decide +kernel
theorem dJ8_hugeLength_7cf53_11 : decode cJ8_hugeLength_7cf53 11 = .ok (.dup, 1) := by decide +kernel
theorem dJ8_hugeLength_7cf53_12 : decode cJ8_hugeLength_7cf53 12 = .ok (.new 89, 3) := by decide +kernel
theorem dJ8_hugeLength_7cf53_15 : decode cJ8_hugeLength_7cf53 15 = .ok (.dup, 1) := by decide +kernel
theorem dJ8_hugeLength_7cf53_16 : decode cJ8_hugeLength_7cf53 16 = .ok (.invokespecial 91, 3) := by decide +kernel
theorem dJ8_hugeLength_7cf53_19 : decode cJ8_hugeLength_7cf53 19 = .ok (.ldc 206, 2) := by decide +kernel
theorem dJ8_hugeLength_7cf53_21 : decode cJ8_hugeLength_7cf53 21 = .ok (.invokevirtual 94, 3) := by decide +kernel
theorem dJ8_hugeLength_7cf53_24 : decode cJ8_hugeLength_7cf53 24 = .ok (.iload_n 0, 1) := by decide +kernel
theorem dJ8_hugeLength_7cf53_25 : decode cJ8_hugeLength_7cf53 25 = .ok (.invokevirtual 98, 3) := by decide +kernel
theorem dJ8_hugeLength_7cf53_28 : decode cJ8_hugeLength_7cf53 28 = .ok (.ldc 208, 2) := by decide +kernel
theorem dJ8_hugeLength_7cf53_30 : decode cJ8_hugeLength_7cf53 30 = .ok (.invokevirtual 94, 3) := by decide +kernel
theorem dJ8_hugeLength_7cf53_33 : decode cJ8_hugeLength_7cf53 33 = .ok (.iload_n 1, 1) := by decide +kernel
theorem dJ8_hugeLength_7cf53_34 : decode cJ8_hugeLength_7cf53 34 = .ok (.invokevirtual 98, 3) := by decide +kernel
theorem dJ8_hugeLength_7cf53_37 : decode cJ8_hugeLength_7cf53 37 = .ok (.ldc 210, 2) := by decide +kernel
theorem dJ8_hugeLength_7cf53_39 : decode cJ8_hugeLength_7cf53 39 = .ok (.invokevirtual 94, 3) := by decide +kernel
theorem dJ8_hugeLength_7cf53_42 : decode cJ8_hugeLength_7cf53 42 = .ok (.invokevirtual 101, 3) := by decide +kernel
theorem dJ8_hugeLength_7cf53_45 : decode cJ8_hugeLength_7cf53 45 = .ok (.invokespecial 212, 3) := by decide +kernel
theorem dJ8_hugeLength_7cf53_48 : decode cJ8_hugeLength_7cf53 48 = .ok (.athrow, 1) := by decide +kernel
theorem dJ8_hugeLength_7cf53_49 : decode cJ8_hugeLength_7cf53 49 = .ok (.iload_n 2, 1) := by decide +kernel
theorem dJ8_hugeLength_7cf53_50 : decode cJ8_hugeLength_7cf53 50 = .ok (.ldc 200, 2) := by decide +kernel
theorem dJ8_hugeLength_7cf53_52 : decode cJ8_hugeLength_7cf53 52 = .ok (.if_icmp .gt 6, 3) := by decide +kernel
theorem dJ8_hugeLength_7cf53_55 : decode cJ8_hugeLength_7cf53 55 = .ok (.ldc 200, 2) := by decide +kernel
theorem dJ8_hugeLength_7cf53_57 : decode cJ8_hugeLength_7cf53 57 = .ok (.ireturn, 1) := by decide +kernel
theorem dJ8_hugeLength_7cf53_58 : decode cJ8_hugeLength_7cf53 58 = .ok (.iload_n 2, 1) := by decide +kernel
theorem dJ8_hugeLength_7cf53_59 : decode cJ8_hugeLength_7cf53 59 = .ok (.ireturn, 1) := by decide +kernel
theorem dJ3_checkIndex_8e157_0 : decode cJ3_checkIndex_8e157 0 = .ok (.iload_n 0, 1) := by decide +kernel
theorem dJ3_checkIndex_8e157_1 : decode cJ3_checkIndex_8e157 1 = .ok (.ifCond .lt 8, 3) := by decide +kernel
theorem dJ3_checkIndex_8e157_4 : decode cJ3_checkIndex_8e157 4 = .ok (.iload_n 0, 1) := by decide +kernel
theorem dJ3_checkIndex_8e157_5 : decode cJ3_checkIndex_8e157 5 = .ok (.iload_n 1, 1) := by decide +kernel
theorem dJ3_checkIndex_8e157_6 : decode cJ3_checkIndex_8e157 6 = .ok (.if_icmp .lt 10, 3) := by decide +kernel
theorem dJ3_checkIndex_8e157_9 : decode cJ3_checkIndex_8e157 9 = .ok (.aload_n 2, 1) := by decide +kernel
theorem dJ3_checkIndex_8e157_10 : decode cJ3_checkIndex_8e157 10 = .ok (.iload_n 0, 1) := by decide +kernel
theorem dJ3_checkIndex_8e157_11 : decode cJ3_checkIndex_8e157 11 = .ok (.iload_n 1, 1) := by decide +kernel
theorem dJ3_checkIndex_8e157_12 : decode cJ3_checkIndex_8e157 12 = .ok (.invokestatic 95, 3) := by decide +kernel
theorem dJ3_checkIndex_8e157_15 : decode cJ3_checkIndex_8e157 15 = .ok (.athrow, 1) := by decide +kernel
theorem dJ3_checkIndex_8e157_16 : decode cJ3_checkIndex_8e157 16 = .ok (.iload_n 0, 1) := by decide +kernel
theorem dJ3_checkIndex_8e157_17 : decode cJ3_checkIndex_8e157 17 = .ok (.ireturn, 1) := by decide +kernel
theorem dX0_init_0 : decode cX0_init 0 = .ok (.aload_n 0, 1) := by decide +kernel
theorem dX0_init_1 : decode cX0_init 1 = .ok (.invokespecial 3, 3) := by decide +kernel
theorem dX0_init_4 : decode cX0_init 4 = .ok (.aload_n 0, 1) := by decide +kernel
theorem dX0_init_5 : decode cX0_init 5 = .ok (.bipush 8, 2) := by decide +kernel
theorem dX0_init_7 : decode cX0_init 7 = .ok (.newarray .int, 2) := by decide +kernel
theorem dX0_init_9 : decode cX0_init 9 = .ok (.putfield 9, 3) := by decide +kernel
theorem dX0_init_12 : decode cX0_init 12 = .ok (.return_, 1) := by decide +kernel
theorem dX0_lackByGiving_0 : decode cX0_lackByGiving 0 = .ok (.aload_n 0, 1) := by decide +kernel
theorem dX0_lackByGiving_1 : decode cX0_lackByGiving 1 = .ok (.getfield 9, 3) := by decide +kernel
theorem dX0_lackByGiving_4 : decode cX0_lackByGiving 4 = .ok (.iconst 0, 1) := by decide +kernel
theorem dX0_lackByGiving_5 : decode cX0_lackByGiving 5 = .ok (.invokestatic 15, 3) := by decide +kernel
theorem dX0_lackByGiving_8 : decode cX0_lackByGiving 8 = .ok (.iconst 0, 1) := by decide +kernel
theorem dX0_lackByGiving_9 : decode cX0_lackByGiving 9 = .ok (.istore_n 3, 1) := by decide +kernel
theorem dX0_lackByGiving_10 : decode cX0_lackByGiving 10 = .ok (.iconst 0, 1) := by decide +kernel
theorem dX0_lackByGiving_11 : decode cX0_lackByGiving 11 = .ok (.istore 4, 2) := by decide +kernel
theorem dX0_lackByGiving_13 : decode cX0_lackByGiving 13 = .ok (.iconst 0, 1) := by decide +kernel
theorem dX0_lackByGiving_14 : decode cX0_lackByGiving 14 = .ok (.istore 5, 2) := by decide +kernel
theorem dX0_lackByGiving_16 : decode cX0_lackByGiving 16 = .ok (.iload 5, 2) := by decide +kernel
theorem dX0_lackByGiving_18 : decode cX0_lackByGiving 18 = .ok (.aload_n 1, 1) := by decide +kernel
theorem dX0_lackByGiving_19 : decode cX0_lackByGiving 19 = .ok (.getfield 21, 3) := by decide +kernel
theorem dX0_lackByGiving_22 : decode cX0_lackByGiving 22 = .ok (.invokevirtual 27, 3) := by decide +kernel
theorem dX0_lackByGiving_25 : decode cX0_lackByGiving 25 = .ok (.if_icmp .ge 74, 3) := by decide +kernel
theorem dX0_lackByGiving_28 : decode cX0_lackByGiving 28 = .ok (.aload_n 1, 1) := by decide +kernel
theorem dX0_lackByGiving_29 : decode cX0_lackByGiving 29 = .ok (.iload_n 2, 1) := by decide +kernel
theorem dX0_lackByGiving_30 : decode cX0_lackByGiving 30 = .ok (.iload 4, 2) := by decide +kernel
theorem dX0_lackByGiving_32 : decode cX0_lackByGiving 32 = .ok (.invokestatic 33, 3) := by decide +kernel
theorem dX0_lackByGiving_35 : decode cX0_lackByGiving 35 = .ok (.astore 6, 2) := by decide +kernel
theorem dX0_lackByGiving_37 : decode cX0_lackByGiving 37 = .ok (.aload 6, 2) := by decide +kernel
theorem dX0_lackByGiving_39 : decode cX0_lackByGiving 39 = .ok (.ifnonnull 5, 3) := by decide +kernel
theorem dX0_lackByGiving_42 : decode cX0_lackByGiving 42 = .ok (.iload_n 3, 1) := by decide +kernel
theorem dX0_lackByGiving_43 : decode cX0_lackByGiving 43 = .ok (.ireturn, 1) := by decide +kernel
theorem dX0_lackByGiving_44 : decode cX0_lackByGiving 44 = .ok (.iload 4, 2) := by decide +kernel
theorem dX0_lackByGiving_46 : decode cX0_lackByGiving 46 = .ok (.iconst 1, 1) := by decide +kernel
theorem dX0_lackByGiving_47 : decode cX0_lackByGiving 47 = .ok (.aload 6, 2) := by decide +kernel
theorem dX0_lackByGiving_49 : decode cX0_lackByGiving 49 = .ok (.getfield 37, 3) := by decide +kernel
theorem dX0_lackByGiving_52 : decode cX0_lackByGiving 52 = .ok (.ishl, 1) := by decide +kernel
theorem dX0_lackByGiving_53 : decode cX0_lackByGiving 53 = .ok (.ior, 1) := by decide +kernel
theorem dX0_lackByGiving_54 : decode cX0_lackByGiving 54 = .ok (.istore 4, 2) := by decide +kernel
theorem dX0_lackByGiving_56 : decode cX0_lackByGiving 56 = .ok (.iconst 0, 1) := by decide +kernel
theorem dX0_lackByGiving_57 : decode cX0_lackByGiving 57 = .ok (.istore 7, 2) := by decide +kernel
theorem dX0_lackByGiving_59 : decode cX0_lackByGiving 59 = .ok (.iload 7, 2) := by decide +kernel
theorem dX0_lackByGiving_61 : decode cX0_lackByGiving 61 = .ok (.aload 6, 2) := by decide +kernel
theorem dX0_lackByGiving_63 : decode cX0_lackByGiving 63 = .ok (.getfield 43, 3) := by decide +kernel
theorem dX0_lackByGiving_66 : decode cX0_lackByGiving 66 = .ok (.if_icmp .ge 27, 3) := by decide +kernel
theorem dX0_lackByGiving_69 : decode cX0_lackByGiving 69 = .ok (.iload_n 3, 1) := by decide +kernel
theorem dX0_lackByGiving_70 : decode cX0_lackByGiving 70 = .ok (.aload_n 0, 1) := by decide +kernel
theorem dX0_lackByGiving_71 : decode cX0_lackByGiving 71 = .ok (.aload_n 1, 1) := by decide +kernel
theorem dX0_lackByGiving_72 : decode cX0_lackByGiving 72 = .ok (.aload 6, 2) := by decide +kernel
theorem dX0_lackByGiving_74 : decode cX0_lackByGiving 74 = .ok (.invokevirtual 46, 3) := by decide +kernel
theorem dX0_lackByGiving_77 : decode cX0_lackByGiving 77 = .ok (.ifCond .eq 7, 3) := by decide +kernel
theorem dX0_lackByGiving_80 : decode cX0_lackByGiving 80 = .ok (.iconst 0, 1) := by decide +kernel
theorem dX0_lackByGiving_81 : decode cX0_lackByGiving 81 = .ok (.goto 4, 3) := by decide +kernel
theorem dX0_lackByGiving_84 : decode cX0_lackByGiving 84 = .ok (.iconst 1, 1) := by decide +kernel
theorem dX0_lackByGiving_85 : decode cX0_lackByGiving 85 = .ok (.iadd, 1) := by decide +kernel
theorem dX0_lackByGiving_86 : decode cX0_lackByGiving 86 = .ok (.istore_n 3, 1) := by decide +kernel
theorem dX0_lackByGiving_87 : decode cX0_lackByGiving 87 = .ok (.iinc 7 1, 3) := by decide +kernel
theorem dX0_lackByGiving_90 : decode cX0_lackByGiving 90 = .ok (.goto (-31), 3) := by decide +kernel
theorem dX0_lackByGiving_93 : decode cX0_lackByGiving 93 = .ok (.iinc 5 1, 3) := by decide +kernel
theorem dX0_lackByGiving_96 : decode cX0_lackByGiving 96 = .ok (.goto (-80), 3) := by decide +kernel
theorem dX0_lackByGiving_99 : decode cX0_lackByGiving 99 = .ok (.iload_n 3, 1) := by decide +kernel
theorem dX0_lackByGiving_100 : decode cX0_lackByGiving 100 = .ok (.ireturn, 1) := by decide +kernel
theorem dX0_largestGroup_0 : decode cX0_largestGroup 0 = .ok (.aconst_null, 1) := by decide +kernel
theorem dX0_largestGroup_1 : decode cX0_largestGroup 1 = .ok (.astore_n 3, 1) := by decide +kernel
theorem dX0_largestGroup_2 : decode cX0_largestGroup 2 = .ok (.iconst 0, 1) := by decide +kernel
theorem dX0_largestGroup_3 : decode cX0_largestGroup 3 = .ok (.istore 4, 2) := by decide +kernel
theorem dX0_largestGroup_5 : decode cX0_largestGroup 5 = .ok (.iload 4, 2) := by decide +kernel
theorem dX0_largestGroup_7 : decode cX0_largestGroup 7 = .ok (.aload_n 0, 1) := by decide +kernel
theorem dX0_largestGroup_8 : decode cX0_largestGroup 8 = .ok (.getfield 21, 3) := by decide +kernel
theorem dX0_largestGroup_11 : decode cX0_largestGroup 11 = .ok (.invokevirtual 27, 3) := by decide +kernel
theorem dX0_largestGroup_14 : decode cX0_largestGroup 14 = .ok (.if_icmp .ge 66, 3) := by decide +kernel
theorem dX0_largestGroup_17 : decode cX0_largestGroup 17 = .ok (.aload_n 0, 1) := by decide +kernel
theorem dX0_largestGroup_18 : decode cX0_largestGroup 18 = .ok (.getfield 21, 3) := by decide +kernel
theorem dX0_largestGroup_21 : decode cX0_largestGroup 21 = .ok (.iload 4, 2) := by decide +kernel
theorem dX0_largestGroup_23 : decode cX0_largestGroup 23 = .ok (.invokevirtual 50, 3) := by decide +kernel
theorem dX0_largestGroup_26 : decode cX0_largestGroup 26 = .ok (.checkcast 38, 3) := by decide +kernel
theorem dX0_largestGroup_29 : decode cX0_largestGroup 29 = .ok (.astore 5, 2) := by decide +kernel
theorem dX0_largestGroup_31 : decode cX0_largestGroup 31 = .ok (.aload 5, 2) := by decide +kernel
theorem dX0_largestGroup_33 : decode cX0_largestGroup 33 = .ok (.getfield 54, 3) := by decide +kernel
theorem dX0_largestGroup_36 : decode cX0_largestGroup 36 = .ok (.iload_n 1, 1) := by decide +kernel
theorem dX0_largestGroup_37 : decode cX0_largestGroup 37 = .ok (.if_icmp .ne 37, 3) := by decide +kernel
theorem dX0_largestGroup_40 : decode cX0_largestGroup 40 = .ok (.iload_n 2, 1) := by decide +kernel
theorem dX0_largestGroup_41 : decode cX0_largestGroup 41 = .ok (.iload 4, 2) := by decide +kernel
theorem dX0_largestGroup_43 : decode cX0_largestGroup 43 = .ok (.invokestatic 57, 3) := by decide +kernel
theorem dX0_largestGroup_46 : decode cX0_largestGroup 46 = .ok (.ifCond .ne 28, 3) := by decide +kernel
theorem dX0_largestGroup_49 : decode cX0_largestGroup 49 = .ok (.aload_n 3, 1) := by decide +kernel
theorem dX0_largestGroup_50 : decode cX0_largestGroup 50 = .ok (.ifnull 21, 3) := by decide +kernel
theorem dX0_largestGroup_53 : decode cX0_largestGroup 53 = .ok (.aload 5, 2) := by decide +kernel
theorem dX0_largestGroup_55 : decode cX0_largestGroup 55 = .ok (.getfield 61, 3) := by decide +kernel
theorem dX0_largestGroup_58 : decode cX0_largestGroup 58 = .ok (.getfield 65, 3) := by decide +kernel
theorem dX0_largestGroup_61 : decode cX0_largestGroup 61 = .ok (.aload_n 3, 1) := by decide +kernel
theorem dX0_largestGroup_62 : decode cX0_largestGroup 62 = .ok (.getfield 61, 3) := by decide +kernel
theorem dX0_largestGroup_65 : decode cX0_largestGroup 65 = .ok (.getfield 65, 3) := by decide +kernel
theorem dX0_largestGroup_68 : decode cX0_largestGroup 68 = .ok (.if_icmp .le 6, 3) := by decide +kernel
theorem dX0_largestGroup_71 : decode cX0_largestGroup 71 = .ok (.aload 5, 2) := by decide +kernel
theorem dX0_largestGroup_73 : decode cX0_largestGroup 73 = .ok (.astore_n 3, 1) := by decide +kernel
theorem dX0_largestGroup_74 : decode cX0_largestGroup 74 = .ok (.iinc 4 1, 3) := by decide +kernel
theorem dX0_largestGroup_77 : decode cX0_largestGroup 77 = .ok (.goto (-72), 3) := by decide +kernel
theorem dX0_largestGroup_80 : decode cX0_largestGroup 80 = .ok (.aload_n 3, 1) := by decide +kernel
theorem dX0_largestGroup_81 : decode cX0_largestGroup 81 = .ok (.areturn, 1) := by decide +kernel
theorem dX0_giveHour_0 : decode cX0_giveHour 0 = .ok (.iconst 0, 1) := by decide +kernel
theorem dX0_giveHour_1 : decode cX0_giveHour 1 = .ok (.istore_n 3, 1) := by decide +kernel
theorem dX0_giveHour_2 : decode cX0_giveHour 2 = .ok (.iload_n 3, 1) := by decide +kernel
theorem dX0_giveHour_3 : decode cX0_giveHour 3 = .ok (.aload_n 1, 1) := by decide +kernel
theorem dX0_giveHour_4 : decode cX0_giveHour 4 = .ok (.getfield 70, 3) := by decide +kernel
theorem dX0_giveHour_7 : decode cX0_giveHour 7 = .ok (.invokevirtual 27, 3) := by decide +kernel
theorem dX0_giveHour_10 : decode cX0_giveHour 10 = .ok (.if_icmp .ge 89, 3) := by decide +kernel
theorem dX0_giveHour_13 : decode cX0_giveHour 13 = .ok (.iload_n 3, 1) := by decide +kernel
theorem dX0_giveHour_14 : decode cX0_giveHour 14 = .ok (.aload_n 0, 1) := by decide +kernel
theorem dX0_giveHour_15 : decode cX0_giveHour 15 = .ok (.getfield 9, 3) := by decide +kernel
theorem dX0_giveHour_18 : decode cX0_giveHour 18 = .ok (.arraylength, 1) := by decide +kernel
theorem dX0_giveHour_19 : decode cX0_giveHour 19 = .ok (.if_icmp .ge 80, 3) := by decide +kernel
theorem dX0_giveHour_22 : decode cX0_giveHour 22 = .ok (.aload_n 1, 1) := by decide +kernel
theorem dX0_giveHour_23 : decode cX0_giveHour 23 = .ok (.getfield 70, 3) := by decide +kernel
theorem dX0_giveHour_26 : decode cX0_giveHour 26 = .ok (.iload_n 3, 1) := by decide +kernel
theorem dX0_giveHour_27 : decode cX0_giveHour 27 = .ok (.invokevirtual 50, 3) := by decide +kernel
theorem dX0_giveHour_30 : decode cX0_giveHour 30 = .ok (.checkcast 73, 3) := by decide +kernel
theorem dX0_giveHour_33 : decode cX0_giveHour 33 = .ok (.astore 4, 2) := by decide +kernel
theorem dX0_giveHour_35 : decode cX0_giveHour 35 = .ok (.aload 4, 2) := by decide +kernel
theorem dX0_giveHour_37 : decode cX0_giveHour 37 = .ok (.getfield 75, 3) := by decide +kernel
theorem dX0_giveHour_40 : decode cX0_giveHour 40 = .ok (.ifCond .eq 53, 3) := by decide +kernel
theorem dX0_giveHour_43 : decode cX0_giveHour 43 = .ok (.aload 4, 2) := by decide +kernel
theorem dX0_giveHour_45 : decode cX0_giveHour 45 = .ok (.getfield 79, 3) := by decide +kernel
theorem dX0_giveHour_48 : decode cX0_giveHour 48 = .ok (.aload_n 2, 1) := by decide +kernel
theorem dX0_giveHour_49 : decode cX0_giveHour 49 = .ok (.getfield 54, 3) := by decide +kernel
theorem dX0_giveHour_52 : decode cX0_giveHour 52 = .ok (.if_icmp .ne 41, 3) := by decide +kernel
theorem dX0_giveHour_55 : decode cX0_giveHour 55 = .ok (.aload 4, 2) := by decide +kernel
theorem dX0_giveHour_57 : decode cX0_giveHour 57 = .ok (.getfield 80, 3) := by decide +kernel
theorem dX0_giveHour_60 : decode cX0_giveHour 60 = .ok (.aload_n 2, 1) := by decide +kernel
theorem dX0_giveHour_61 : decode cX0_giveHour 61 = .ok (.getfield 61, 3) := by decide +kernel
theorem dX0_giveHour_64 : decode cX0_giveHour 64 = .ok (.getfield 65, 3) := by decide +kernel
theorem dX0_giveHour_67 : decode cX0_giveHour 67 = .ok (.if_icmp .lt 26, 3) := by decide +kernel
theorem dX0_giveHour_70 : decode cX0_giveHour 70 = .ok (.aload_n 0, 1) := by decide +kernel
theorem dX0_giveHour_71 : decode cX0_giveHour 71 = .ok (.getfield 9, 3) := by decide +kernel
theorem dX0_giveHour_74 : decode cX0_giveHour 74 = .ok (.iload_n 3, 1) := by decide +kernel
theorem dX0_giveHour_75 : decode cX0_giveHour 75 = .ok (.iaload, 1) := by decide +kernel
theorem dX0_giveHour_76 : decode cX0_giveHour 76 = .ok (.bipush 30, 2) := by decide +kernel
theorem dX0_giveHour_78 : decode cX0_giveHour 78 = .ok (.if_icmp .ge 15, 3) := by decide +kernel
theorem dX0_giveHour_81 : decode cX0_giveHour 81 = .ok (.aload_n 0, 1) := by decide +kernel
theorem dX0_giveHour_82 : decode cX0_giveHour 82 = .ok (.getfield 9, 3) := by decide +kernel
theorem dX0_giveHour_85 : decode cX0_giveHour 85 = .ok (.iload_n 3, 1) := by decide +kernel
theorem dX0_giveHour_86 : decode cX0_giveHour 86 = .ok (.dup2, 1) := by decide +kernel
theorem dX0_giveHour_87 : decode cX0_giveHour 87 = .ok (.iaload, 1) := by decide +kernel
theorem dX0_giveHour_88 : decode cX0_giveHour 88 = .ok (.iconst 1, 1) := by decide +kernel
theorem dX0_giveHour_89 : decode cX0_giveHour 89 = .ok (.iadd, 1) := by decide +kernel
theorem dX0_giveHour_90 : decode cX0_giveHour 90 = .ok (.iastore, 1) := by decide +kernel
theorem dX0_giveHour_91 : decode cX0_giveHour 91 = .ok (.iconst 1, 1) := by decide +kernel
theorem dX0_giveHour_92 : decode cX0_giveHour 92 = .ok (.ireturn, 1) := by decide +kernel
theorem dX0_giveHour_93 : decode cX0_giveHour 93 = .ok (.iinc 3 1, 3) := by decide +kernel
theorem dX0_giveHour_96 : decode cX0_giveHour 96 = .ok (.goto (-94), 3) := by decide +kernel
theorem dX0_giveHour_99 : decode cX0_giveHour 99 = .ok (.iconst 0, 1) := by decide +kernel
theorem dX0_giveHour_100 : decode cX0_giveHour 100 = .ok (.ireturn, 1) := by decide +kernel
theorem dX0_lackByNumbers_0 : decode cX0_lackByNumbers 0 = .ok (.iconst 0, 1) := by decide +kernel
theorem dX0_lackByNumbers_1 : decode cX0_lackByNumbers 1 = .ok (.aload_n 1, 1) := by decide +kernel
theorem dX0_lackByNumbers_2 : decode cX0_lackByNumbers 2 = .ok (.iload_n 2, 1) := by decide +kernel
theorem dX0_lackByNumbers_3 : decode cX0_lackByNumbers 3 = .ok (.iconst 0, 1) := by decide +kernel
theorem dX0_lackByNumbers_4 : decode cX0_lackByNumbers 4 = .ok (.invokestatic 83, 3) := by decide +kernel
theorem dX0_lackByNumbers_7 : decode cX0_lackByNumbers 7 = .ok (.invokestatic 87, 3) := by decide +kernel
theorem dX0_lackByNumbers_10 : decode cX0_lackByNumbers 10 = .ok (.istore_n 3, 1) := by decide +kernel
theorem dX0_lackByNumbers_11 : decode cX0_lackByNumbers 11 = .ok (.iconst 0, 1) := by decide +kernel
theorem dX0_lackByNumbers_12 : decode cX0_lackByNumbers 12 = .ok (.istore 4, 2) := by decide +kernel
theorem dX0_lackByNumbers_14 : decode cX0_lackByNumbers 14 = .ok (.iload 4, 2) := by decide +kernel
theorem dX0_lackByNumbers_16 : decode cX0_lackByNumbers 16 = .ok (.aload_n 1, 1) := by decide +kernel
theorem dX0_lackByNumbers_17 : decode cX0_lackByNumbers 17 = .ok (.getfield 70, 3) := by decide +kernel
theorem dX0_lackByNumbers_20 : decode cX0_lackByNumbers 20 = .ok (.invokevirtual 27, 3) := by decide +kernel
theorem dX0_lackByNumbers_23 : decode cX0_lackByNumbers 23 = .ok (.if_icmp .ge 34, 3) := by decide +kernel
theorem dX0_lackByNumbers_26 : decode cX0_lackByNumbers 26 = .ok (.iload_n 3, 1) := by decide +kernel
theorem dX0_lackByNumbers_27 : decode cX0_lackByNumbers 27 = .ok (.aload_n 1, 1) := by decide +kernel
theorem dX0_lackByNumbers_28 : decode cX0_lackByNumbers 28 = .ok (.iload_n 2, 1) := by decide +kernel
theorem dX0_lackByNumbers_29 : decode cX0_lackByNumbers 29 = .ok (.aload_n 1, 1) := by decide +kernel
theorem dX0_lackByNumbers_30 : decode cX0_lackByNumbers 30 = .ok (.getfield 70, 3) := by decide +kernel
theorem dX0_lackByNumbers_33 : decode cX0_lackByNumbers 33 = .ok (.iload 4, 2) := by decide +kernel
theorem dX0_lackByNumbers_35 : decode cX0_lackByNumbers 35 = .ok (.invokevirtual 50, 3) := by decide +kernel
theorem dX0_lackByNumbers_38 : decode cX0_lackByNumbers 38 = .ok (.checkcast 73, 3) := by decide +kernel
theorem dX0_lackByNumbers_41 : decode cX0_lackByNumbers 41 = .ok (.getfield 80, 3) := by decide +kernel
theorem dX0_lackByNumbers_44 : decode cX0_lackByNumbers 44 = .ok (.invokestatic 83, 3) := by decide +kernel
theorem dX0_lackByNumbers_47 : decode cX0_lackByNumbers 47 = .ok (.invokestatic 87, 3) := by decide +kernel
theorem dX0_lackByNumbers_50 : decode cX0_lackByNumbers 50 = .ok (.istore_n 3, 1) := by decide +kernel
theorem dX0_lackByNumbers_51 : decode cX0_lackByNumbers 51 = .ok (.iinc 4 1, 3) := by decide +kernel
theorem dX0_lackByNumbers_54 : decode cX0_lackByNumbers 54 = .ok (.goto (-40), 3) := by decide +kernel
theorem dX0_lackByNumbers_57 : decode cX0_lackByNumbers 57 = .ok (.iload_n 3, 1) := by decide +kernel
theorem dX0_lackByNumbers_58 : decode cX0_lackByNumbers 58 = .ok (.ireturn, 1) := by decide +kernel
theorem dX0_excessAbove_0 : decode cX0_excessAbove 0 = .ok (.iconst 0, 1) := by decide +kernel
theorem dX0_excessAbove_1 : decode cX0_excessAbove 1 = .ok (.istore_n 3, 1) := by decide +kernel
theorem dX0_excessAbove_2 : decode cX0_excessAbove 2 = .ok (.iconst 0, 1) := by decide +kernel
theorem dX0_excessAbove_3 : decode cX0_excessAbove 3 = .ok (.istore 4, 2) := by decide +kernel
theorem dX0_excessAbove_5 : decode cX0_excessAbove 5 = .ok (.iload 4, 2) := by decide +kernel
theorem dX0_excessAbove_7 : decode cX0_excessAbove 7 = .ok (.aload_n 0, 1) := by decide +kernel
theorem dX0_excessAbove_8 : decode cX0_excessAbove 8 = .ok (.getfield 21, 3) := by decide +kernel
theorem dX0_excessAbove_11 : decode cX0_excessAbove 11 = .ok (.invokevirtual 27, 3) := by decide +kernel
theorem dX0_excessAbove_14 : decode cX0_excessAbove 14 = .ok (.if_icmp .ge 56, 3) := by decide +kernel
theorem dX0_excessAbove_17 : decode cX0_excessAbove 17 = .ok (.aload_n 0, 1) := by decide +kernel
theorem dX0_excessAbove_18 : decode cX0_excessAbove 18 = .ok (.getfield 21, 3) := by decide +kernel
theorem dX0_excessAbove_21 : decode cX0_excessAbove 21 = .ok (.iload 4, 2) := by decide +kernel
theorem dX0_excessAbove_23 : decode cX0_excessAbove 23 = .ok (.invokevirtual 50, 3) := by decide +kernel
theorem dX0_excessAbove_26 : decode cX0_excessAbove 26 = .ok (.checkcast 38, 3) := by decide +kernel
theorem dX0_excessAbove_29 : decode cX0_excessAbove 29 = .ok (.astore 5, 2) := by decide +kernel
theorem dX0_excessAbove_31 : decode cX0_excessAbove 31 = .ok (.iload_n 3, 1) := by decide +kernel
theorem dX0_excessAbove_32 : decode cX0_excessAbove 32 = .ok (.aload 5, 2) := by decide +kernel
theorem dX0_excessAbove_34 : decode cX0_excessAbove 34 = .ok (.getfield 54, 3) := by decide +kernel
theorem dX0_excessAbove_37 : decode cX0_excessAbove 37 = .ok (.iload_n 1, 1) := by decide +kernel
theorem dX0_excessAbove_38 : decode cX0_excessAbove 38 = .ok (.if_icmp .ne 23, 3) := by decide +kernel
theorem dX0_excessAbove_41 : decode cX0_excessAbove 41 = .ok (.aload 5, 2) := by decide +kernel
theorem dX0_excessAbove_43 : decode cX0_excessAbove 43 = .ok (.getfield 61, 3) := by decide +kernel
theorem dX0_excessAbove_46 : decode cX0_excessAbove 46 = .ok (.getfield 65, 3) := by decide +kernel
theorem dX0_excessAbove_49 : decode cX0_excessAbove 49 = .ok (.iload_n 2, 1) := by decide +kernel
theorem dX0_excessAbove_50 : decode cX0_excessAbove 50 = .ok (.if_icmp .le 11, 3) := by decide +kernel
theorem dX0_excessAbove_53 : decode cX0_excessAbove 53 = .ok (.aload 5, 2) := by decide +kernel
theorem dX0_excessAbove_55 : decode cX0_excessAbove 55 = .ok (.getfield 43, 3) := by decide +kernel
theorem dX0_excessAbove_58 : decode cX0_excessAbove 58 = .ok (.goto 4, 3) := by decide +kernel
theorem dX0_excessAbove_61 : decode cX0_excessAbove 61 = .ok (.iconst 0, 1) := by decide +kernel
theorem dX0_excessAbove_62 : decode cX0_excessAbove 62 = .ok (.iadd, 1) := by decide +kernel
theorem dX0_excessAbove_63 : decode cX0_excessAbove 63 = .ok (.istore_n 3, 1) := by decide +kernel
theorem dX0_excessAbove_64 : decode cX0_excessAbove 64 = .ok (.iinc 4 1, 3) := by decide +kernel
theorem dX0_excessAbove_67 : decode cX0_excessAbove 67 = .ok (.goto (-62), 3) := by decide +kernel
theorem dX0_excessAbove_70 : decode cX0_excessAbove 70 = .ok (.iconst 0, 1) := by decide +kernel
theorem dX0_excessAbove_71 : decode cX0_excessAbove 71 = .ok (.istore 4, 2) := by decide +kernel
theorem dX0_excessAbove_73 : decode cX0_excessAbove 73 = .ok (.iload 4, 2) := by decide +kernel
theorem dX0_excessAbove_75 : decode cX0_excessAbove 75 = .ok (.aload_n 0, 1) := by decide +kernel
theorem dX0_excessAbove_76 : decode cX0_excessAbove 76 = .ok (.getfield 70, 3) := by decide +kernel
theorem dX0_excessAbove_79 : decode cX0_excessAbove 79 = .ok (.invokevirtual 27, 3) := by decide +kernel
theorem dX0_excessAbove_82 : decode cX0_excessAbove 82 = .ok (.if_icmp .ge 58, 3) := by decide +kernel
theorem dX0_excessAbove_85 : decode cX0_excessAbove 85 = .ok (.aload_n 0, 1) := by decide +kernel
theorem dX0_excessAbove_86 : decode cX0_excessAbove 86 = .ok (.getfield 70, 3) := by decide +kernel
theorem dX0_excessAbove_89 : decode cX0_excessAbove 89 = .ok (.iload 4, 2) := by decide +kernel
theorem dX0_excessAbove_91 : decode cX0_excessAbove 91 = .ok (.invokevirtual 50, 3) := by decide +kernel
theorem dX0_excessAbove_94 : decode cX0_excessAbove 94 = .ok (.checkcast 73, 3) := by decide +kernel
theorem dX0_excessAbove_97 : decode cX0_excessAbove 97 = .ok (.astore 5, 2) := by decide +kernel
theorem dX0_excessAbove_99 : decode cX0_excessAbove 99 = .ok (.iload_n 3, 1) := by decide +kernel
theorem dX0_excessAbove_100 : decode cX0_excessAbove 100 = .ok (.aload 5, 2) := by decide +kernel
theorem dX0_excessAbove_102 : decode cX0_excessAbove 102 = .ok (.getfield 75, 3) := by decide +kernel
theorem dX0_excessAbove_105 : decode cX0_excessAbove 105 = .ok (.ifCond .eq 26, 3) := by decide +kernel
theorem dX0_excessAbove_108 : decode cX0_excessAbove 108 = .ok (.aload 5, 2) := by decide +kernel
theorem dX0_excessAbove_110 : decode cX0_excessAbove 110 = .ok (.getfield 79, 3) := by decide +kernel
theorem dX0_excessAbove_113 : decode cX0_excessAbove 113 = .ok (.iload_n 1, 1) := by decide +kernel
theorem dX0_excessAbove_114 : decode cX0_excessAbove 114 = .ok (.if_icmp .ne 17, 3) := by decide +kernel
theorem dX0_excessAbove_117 : decode cX0_excessAbove 117 = .ok (.aload 5, 2) := by decide +kernel
theorem dX0_excessAbove_119 : decode cX0_excessAbove 119 = .ok (.getfield 80, 3) := by decide +kernel
theorem dX0_excessAbove_122 : decode cX0_excessAbove 122 = .ok (.iload_n 2, 1) := by decide +kernel
theorem dX0_excessAbove_123 : decode cX0_excessAbove 123 = .ok (.if_icmp .le 8, 3) := by decide +kernel
theorem dX0_excessAbove_126 : decode cX0_excessAbove 126 = .ok (.bipush 30, 2) := by decide +kernel
theorem dX0_excessAbove_128 : decode cX0_excessAbove 128 = .ok (.goto 4, 3) := by decide +kernel
theorem dX0_excessAbove_131 : decode cX0_excessAbove 131 = .ok (.iconst 0, 1) := by decide +kernel
theorem dX0_excessAbove_132 : decode cX0_excessAbove 132 = .ok (.isub, 1) := by decide +kernel
theorem dX0_excessAbove_133 : decode cX0_excessAbove 133 = .ok (.istore_n 3, 1) := by decide +kernel
theorem dX0_excessAbove_134 : decode cX0_excessAbove 134 = .ok (.iinc 4 1, 3) := by decide +kernel
theorem dX0_excessAbove_137 : decode cX0_excessAbove 137 = .ok (.goto (-64), 3) := by decide +kernel
theorem dX0_excessAbove_140 : decode cX0_excessAbove 140 = .ok (.iload_n 3, 1) := by decide +kernel
theorem dX0_excessAbove_141 : decode cX0_excessAbove 141 = .ok (.ireturn, 1) := by decide +kernel
theorem dX1_init_0 : decode cX1_init 0 = .ok (.aload_n 0, 1) := by decide +kernel
theorem dX1_init_1 : decode cX1_init 1 = .ok (.invokespecial 3, 3) := by decide +kernel
theorem dX1_init_4 : decode cX1_init 4 = .ok (.aload_n 0, 1) := by decide +kernel
theorem dX1_init_5 : decode cX1_init 5 = .ok (.sipush 240, 3) := by decide +kernel
theorem dX1_init_8 : decode cX1_init 8 = .ok (.newarray .int, 2) := by decide +kernel
theorem dX1_init_10 : decode cX1_init 10 = .ok (.putfield 9, 3) := by decide +kernel
theorem dX1_init_13 : decode cX1_init 13 = .ok (.return_, 1) := by decide +kernel
theorem dX1_fillUp_0 : decode cX1_fillUp 0 = .ok (.iconst 0, 1) := by decide +kernel
theorem dX1_fillUp_1 : decode cX1_fillUp 1 = .ok (.istore_n 2, 1) := by decide +kernel
theorem dX1_fillUp_2 : decode cX1_fillUp 2 = .ok (.iconst 0, 1) := by decide +kernel
theorem dX1_fillUp_3 : decode cX1_fillUp 3 = .ok (.istore_n 3, 1) := by decide +kernel
theorem dX1_fillUp_4 : decode cX1_fillUp 4 = .ok (.iconst 0, 1) := by decide +kernel
theorem dX1_fillUp_5 : decode cX1_fillUp 5 = .ok (.istore 4, 2) := by decide +kernel
theorem dX1_fillUp_7 : decode cX1_fillUp 7 = .ok (.iload 4, 2) := by decide +kernel
theorem dX1_fillUp_9 : decode cX1_fillUp 9 = .ok (.sipush 1000, 3) := by decide +kernel
theorem dX1_fillUp_12 : decode cX1_fillUp 12 = .ok (.if_icmp .ge 86, 3) := by decide +kernel
theorem dX1_fillUp_15 : decode cX1_fillUp 15 = .ok (.aload_n 1, 1) := by decide +kernel
theorem dX1_fillUp_16 : decode cX1_fillUp 16 = .ok (.aload_n 1, 1) := by decide +kernel
theorem dX1_fillUp_17 : decode cX1_fillUp 17 = .ok (.invokevirtual 15, 3) := by decide +kernel
theorem dX1_fillUp_20 : decode cX1_fillUp 20 = .ok (.iload_n 2, 1) := by decide +kernel
theorem dX1_fillUp_21 : decode cX1_fillUp 21 = .ok (.iconst (-1), 1) := by decide +kernel
theorem dX1_fillUp_22 : decode cX1_fillUp 22 = .ok (.ixor, 1) := by decide +kernel
theorem dX1_fillUp_23 : decode cX1_fillUp 23 = .ok (.iand, 1) := by decide +kernel
theorem dX1_fillUp_24 : decode cX1_fillUp 24 = .ok (.invokevirtual 21, 3) := by decide +kernel
theorem dX1_fillUp_27 : decode cX1_fillUp 27 = .ok (.astore 5, 2) := by decide +kernel
theorem dX1_fillUp_29 : decode cX1_fillUp 29 = .ok (.aload 5, 2) := by decide +kernel
theorem dX1_fillUp_31 : decode cX1_fillUp 31 = .ok (.ifnonnull 4, 3) := by decide +kernel
theorem dX1_fillUp_34 : decode cX1_fillUp 34 = .ok (.return_, 1) := by decide +kernel
theorem dX1_fillUp_35 : decode cX1_fillUp 35 = .ok (.aload_n 1, 1) := by decide +kernel
theorem dX1_fillUp_36 : decode cX1_fillUp 36 = .ok (.aload 5, 2) := by decide +kernel
theorem dX1_fillUp_38 : decode cX1_fillUp 38 = .ok (.invokevirtual 25, 3) := by decide +kernel
theorem dX1_fillUp_41 : decode cX1_fillUp 41 = .ok (.istore 6, 2) := by decide +kernel
theorem dX1_fillUp_43 : decode cX1_fillUp 43 = .ok (.iload 6, 2) := by decide +kernel
theorem dX1_fillUp_45 : decode cX1_fillUp 45 = .ok (.iconst (-1), 1) := by decide +kernel
theorem dX1_fillUp_46 : decode cX1_fillUp 46 = .ok (.if_icmp .eq 14, 3) := by decide +kernel
theorem dX1_fillUp_49 : decode cX1_fillUp 49 = .ok (.aload_n 1, 1) := by decide +kernel
theorem dX1_fillUp_50 : decode cX1_fillUp 50 = .ok (.aload 5, 2) := by decide +kernel
theorem dX1_fillUp_52 : decode cX1_fillUp 52 = .ok (.iload 6, 2) := by decide +kernel
theorem dX1_fillUp_54 : decode cX1_fillUp 54 = .ok (.invokevirtual 29, 3) := by decide +kernel
theorem dX1_fillUp_57 : decode cX1_fillUp 57 = .ok (.goto 35, 3) := by decide +kernel
theorem dX1_fillUp_60 : decode cX1_fillUp 60 = .ok (.iload_n 3, 1) := by decide +kernel
theorem dX1_fillUp_61 : decode cX1_fillUp 61 = .ok (.bipush 10, 2) := by decide +kernel
theorem dX1_fillUp_63 : decode cX1_fillUp 63 = .ok (.if_icmp .ge 19, 3) := by decide +kernel
theorem dX1_fillUp_66 : decode cX1_fillUp 66 = .ok (.aload_n 0, 1) := by decide +kernel
theorem dX1_fillUp_67 : decode cX1_fillUp 67 = .ok (.aload_n 1, 1) := by decide +kernel
theorem dX1_fillUp_68 : decode cX1_fillUp 68 = .ok (.aload 5, 2) := by decide +kernel
theorem dX1_fillUp_70 : decode cX1_fillUp 70 = .ok (.invokevirtual 33, 3) := by decide +kernel
theorem dX1_fillUp_73 : decode cX1_fillUp 73 = .ok (.ifCond .eq 9, 3) := by decide +kernel
theorem dX1_fillUp_76 : decode cX1_fillUp 76 = .ok (.iinc 3 1, 3) := by decide +kernel
theorem dX1_fillUp_79 : decode cX1_fillUp 79 = .ok (.goto 13, 3) := by decide +kernel
theorem dX1_fillUp_82 : decode cX1_fillUp 82 = .ok (.iload_n 2, 1) := by decide +kernel
theorem dX1_fillUp_83 : decode cX1_fillUp 83 = .ok (.iconst 1, 1) := by decide +kernel
theorem dX1_fillUp_84 : decode cX1_fillUp 84 = .ok (.aload 5, 2) := by decide +kernel
theorem dX1_fillUp_86 : decode cX1_fillUp 86 = .ok (.getfield 37, 3) := by decide +kernel
theorem dX1_fillUp_89 : decode cX1_fillUp 89 = .ok (.ishl, 1) := by decide +kernel
theorem dX1_fillUp_90 : decode cX1_fillUp 90 = .ok (.ior, 1) := by decide +kernel
theorem dX1_fillUp_91 : decode cX1_fillUp 91 = .ok (.istore_n 2, 1) := by decide +kernel
theorem dX1_fillUp_92 : decode cX1_fillUp 92 = .ok (.iinc 4 1, 3) := by decide +kernel
theorem dX1_fillUp_95 : decode cX1_fillUp 95 = .ok (.goto (-88), 3) := by decide +kernel
theorem dX1_fillUp_98 : decode cX1_fillUp 98 = .ok (.return_, 1) := by decide +kernel
theorem dX1_throwOthersOut_0 : decode cX1_throwOthersOut 0 = .ok (.aload_n 0, 1) := by decide +kernel
theorem dX1_throwOthersOut_1 : decode cX1_throwOthersOut 1 = .ok (.aload_n 1, 1) := by decide +kernel
theorem dX1_throwOthersOut_2 : decode cX1_throwOthersOut 2 = .ok (.aload_n 2, 1) := by decide +kernel
theorem dX1_throwOthersOut_3 : decode cX1_throwOthersOut 3 = .ok (.invokevirtual 43, 3) := by decide +kernel
theorem dX1_throwOthersOut_6 : decode cX1_throwOthersOut 6 = .ok (.iconst (-1), 1) := by decide +kernel
theorem dX1_throwOthersOut_7 : decode cX1_throwOthersOut 7 = .ok (.istore_n 3, 1) := by decide +kernel
theorem dX1_throwOthersOut_8 : decode cX1_throwOthersOut 8 = .ok (.sipush 1000, 3) := by decide +kernel
theorem dX1_throwOthersOut_11 : decode cX1_throwOthersOut 11 = .ok (.istore 4, 2) := by decide +kernel
theorem dX1_throwOthersOut_13 : decode cX1_throwOthersOut 13 = .ok (.iconst 0, 1) := by decide +kernel
theorem dX1_throwOthersOut_14 : decode cX1_throwOthersOut 14 = .ok (.istore 5, 2) := by decide +kernel
theorem dX1_throwOthersOut_16 : decode cX1_throwOthersOut 16 = .ok (.iload 5, 2) := by decide +kernel
theorem dX1_throwOthersOut_18 : decode cX1_throwOthersOut 18 = .ok (.aload_n 0, 1) := by decide +kernel
theorem dX1_throwOthersOut_19 : decode cX1_throwOthersOut 19 = .ok (.getfield 9, 3) := by decide +kernel
theorem dX1_throwOthersOut_22 : decode cX1_throwOthersOut 22 = .ok (.arraylength, 1) := by decide +kernel
theorem dX1_throwOthersOut_23 : decode cX1_throwOthersOut 23 = .ok (.if_icmp .ge 33, 3) := by decide +kernel
theorem dX1_throwOthersOut_26 : decode cX1_throwOthersOut 26 = .ok (.aload_n 0, 1) := by decide +kernel
theorem dX1_throwOthersOut_27 : decode cX1_throwOthersOut 27 = .ok (.getfield 9, 3) := by decide +kernel
theorem dX1_throwOthersOut_30 : decode cX1_throwOthersOut 30 = .ok (.iload 5, 2) := by decide +kernel
theorem dX1_throwOthersOut_32 : decode cX1_throwOthersOut 32 = .ok (.iaload, 1) := by decide +kernel
theorem dX1_throwOthersOut_33 : decode cX1_throwOthersOut 33 = .ok (.iload 4, 2) := by decide +kernel
theorem dX1_throwOthersOut_35 : decode cX1_throwOthersOut 35 = .ok (.if_icmp .ge 15, 3) := by decide +kernel
theorem dX1_throwOthersOut_38 : decode cX1_throwOthersOut 38 = .ok (.iload 5, 2) := by decide +kernel
theorem dX1_throwOthersOut_40 : decode cX1_throwOthersOut 40 = .ok (.istore_n 3, 1) := by decide +kernel
theorem dX1_throwOthersOut_41 : decode cX1_throwOthersOut 41 = .ok (.aload_n 0, 1) := by decide +kernel
theorem dX1_throwOthersOut_42 : decode cX1_throwOthersOut 42 = .ok (.getfield 9, 3) := by decide +kernel
theorem dX1_throwOthersOut_45 : decode cX1_throwOthersOut 45 = .ok (.iload 5, 2) := by decide +kernel
theorem dX1_throwOthersOut_47 : decode cX1_throwOthersOut 47 = .ok (.iaload, 1) := by decide +kernel
theorem dX1_throwOthersOut_48 : decode cX1_throwOthersOut 48 = .ok (.istore 4, 2) := by decide +kernel
theorem dX1_throwOthersOut_50 : decode cX1_throwOthersOut 50 = .ok (.iinc 5 1, 3) := by decide +kernel
theorem dX1_throwOthersOut_53 : decode cX1_throwOthersOut 53 = .ok (.goto (-37), 3) := by decide +kernel
theorem dX1_throwOthersOut_56 : decode cX1_throwOthersOut 56 = .ok (.iload_n 3, 1) := by decide +kernel
theorem dX1_throwOthersOut_57 : decode cX1_throwOthersOut 57 = .ok (.iconst (-1), 1) := by decide +kernel
theorem dX1_throwOthersOut_58 : decode cX1_throwOthersOut 58 = .ok (.if_icmp .ne 5, 3) := by decide +kernel
theorem dX1_throwOthersOut_61 : decode cX1_throwOthersOut 61 = .ok (.iconst 0, 1) := by decide +kernel
theorem dX1_throwOthersOut_62 : decode cX1_throwOthersOut 62 = .ok (.ireturn, 1) := by decide +kernel
theorem dX1_throwOthersOut_63 : decode cX1_throwOthersOut 63 = .ok (.iconst 0, 1) := by decide +kernel
theorem dX1_throwOthersOut_64 : decode cX1_throwOthersOut 64 = .ok (.istore 5, 2) := by decide +kernel
theorem dX1_throwOthersOut_66 : decode cX1_throwOthersOut 66 = .ok (.iload 5, 2) := by decide +kernel
theorem dX1_throwOthersOut_68 : decode cX1_throwOthersOut 68 = .ok (.aload_n 1, 1) := by decide +kernel
theorem dX1_throwOthersOut_69 : decode cX1_throwOthersOut 69 = .ok (.getfield 47, 3) := by decide +kernel
theorem dX1_throwOthersOut_72 : decode cX1_throwOthersOut 72 = .ok (.invokevirtual 51, 3) := by decide +kernel
theorem dX1_throwOthersOut_75 : decode cX1_throwOthersOut 75 = .ok (.if_icmp .ge 46, 3) := by decide +kernel
theorem dX1_throwOthersOut_78 : decode cX1_throwOthersOut 78 = .ok (.aload_n 1, 1) := by decide +kernel
theorem dX1_throwOthersOut_79 : decode cX1_throwOthersOut 79 = .ok (.aload_n 2, 1) := by decide +kernel
theorem dX1_throwOthersOut_80 : decode cX1_throwOthersOut 80 = .ok (.iload 5, 2) := by decide +kernel
theorem dX1_throwOthersOut_82 : decode cX1_throwOthersOut 82 = .ok (.iload_n 3, 1) := by decide +kernel
theorem dX1_throwOthersOut_83 : decode cX1_throwOthersOut 83 = .ok (.bipush 8, 2) := by decide +kernel
theorem dX1_throwOthersOut_85 : decode cX1_throwOthersOut 85 = .ok (.irem, 1) := by decide +kernel
theorem dX1_throwOthersOut_86 : decode cX1_throwOthersOut 86 = .ok (.invokestatic 56, 3) := by decide +kernel
theorem dX1_throwOthersOut_89 : decode cX1_throwOthersOut 89 = .ok (.iload_n 3, 1) := by decide +kernel
theorem dX1_throwOthersOut_90 : decode cX1_throwOthersOut 90 = .ok (.bipush 8, 2) := by decide +kernel
theorem dX1_throwOthersOut_92 : decode cX1_throwOthersOut 92 = .ok (.idiv, 1) := by decide +kernel
theorem dX1_throwOthersOut_93 : decode cX1_throwOthersOut 93 = .ok (.invokestatic 60, 3) := by decide +kernel
theorem dX1_throwOthersOut_96 : decode cX1_throwOthersOut 96 = .ok (.ifCond .eq 19, 3) := by decide +kernel
theorem dX1_throwOthersOut_99 : decode cX1_throwOthersOut 99 = .ok (.aload_n 1, 1) := by decide +kernel
theorem dX1_throwOthersOut_100 : decode cX1_throwOthersOut 100 = .ok (.aload_n 1, 1) := by decide +kernel
theorem dX1_throwOthersOut_101 : decode cX1_throwOthersOut 101 = .ok (.getfield 47, 3) := by decide +kernel
theorem dX1_throwOthersOut_104 : decode cX1_throwOthersOut 104 = .ok (.iload 5, 2) := by decide +kernel
theorem dX1_throwOthersOut_106 : decode cX1_throwOthersOut 106 = .ok (.invokevirtual 64, 3) := by decide +kernel
theorem dX1_throwOthersOut_109 : decode cX1_throwOthersOut 109 = .ok (.checkcast 38, 3) := by decide +kernel
theorem dX1_throwOthersOut_112 : decode cX1_throwOthersOut 112 = .ok (.invokevirtual 68, 3) := by decide +kernel
theorem dX1_throwOthersOut_115 : decode cX1_throwOthersOut 115 = .ok (.iinc 5 1, 3) := by decide +kernel
theorem dX1_throwOthersOut_118 : decode cX1_throwOthersOut 118 = .ok (.goto (-52), 3) := by decide +kernel
theorem dX1_throwOthersOut_121 : decode cX1_throwOthersOut 121 = .ok (.aload_n 1, 1) := by decide +kernel
theorem dX1_throwOthersOut_122 : decode cX1_throwOthersOut 122 = .ok (.aload_n 2, 1) := by decide +kernel
theorem dX1_throwOthersOut_123 : decode cX1_throwOthersOut 123 = .ok (.iload_n 3, 1) := by decide +kernel
theorem dX1_throwOthersOut_124 : decode cX1_throwOthersOut 124 = .ok (.invokevirtual 29, 3) := by decide +kernel
theorem dX1_throwOthersOut_127 : decode cX1_throwOthersOut 127 = .ok (.iconst 1, 1) := by decide +kernel
theorem dX1_throwOthersOut_128 : decode cX1_throwOthersOut 128 = .ok (.ireturn, 1) := by decide +kernel
theorem dX1_countOthersInTheWay_0 : decode cX1_countOthersInTheWay 0 = .ok (.aload_n 0, 1) := by decide +kernel
theorem dX1_countOthersInTheWay_1 : decode cX1_countOthersInTheWay 1 = .ok (.getfield 9, 3) := by decide +kernel
theorem dX1_countOthersInTheWay_4 : decode cX1_countOthersInTheWay 4 = .ok (.sipush 1000, 3) := by decide +kernel
theorem dX1_countOthersInTheWay_7 : decode cX1_countOthersInTheWay 7 = .ok (.invokestatic 72, 3) := by decide +kernel
theorem dX1_countOthersInTheWay_10 : decode cX1_countOthersInTheWay 10 = .ok (.aload_n 1, 1) := by decide +kernel
theorem dX1_countOthersInTheWay_11 : decode cX1_countOthersInTheWay 11 = .ok (.aload_n 2, 1) := by decide +kernel
theorem dX1_countOthersInTheWay_12 : decode cX1_countOthersInTheWay 12 = .ok (.invokevirtual 78, 3) := by decide +kernel
theorem dX1_countOthersInTheWay_15 : decode cX1_countOthersInTheWay 15 = .ok (.iconst 0, 1) := by decide +kernel
theorem dX1_countOthersInTheWay_16 : decode cX1_countOthersInTheWay 16 = .ok (.istore_n 3, 1) := by decide +kernel
theorem dX1_countOthersInTheWay_17 : decode cX1_countOthersInTheWay 17 = .ok (.iload_n 3, 1) := by decide +kernel
theorem dX1_countOthersInTheWay_18 : decode cX1_countOthersInTheWay 18 = .ok (.aload_n 1, 1) := by decide +kernel
theorem dX1_countOthersInTheWay_19 : decode cX1_countOthersInTheWay 19 = .ok (.getfield 81, 3) := by decide +kernel
theorem dX1_countOthersInTheWay_22 : decode cX1_countOthersInTheWay 22 = .ok (.invokevirtual 51, 3) := by decide +kernel
theorem dX1_countOthersInTheWay_25 : decode cX1_countOthersInTheWay 25 = .ok (.if_icmp .ge 32, 3) := by decide +kernel
theorem dX1_countOthersInTheWay_28 : decode cX1_countOthersInTheWay 28 = .ok (.aload_n 0, 1) := by decide +kernel
theorem dX1_countOthersInTheWay_29 : decode cX1_countOthersInTheWay 29 = .ok (.iload_n 3, 1) := by decide +kernel
theorem dX1_countOthersInTheWay_30 : decode cX1_countOthersInTheWay 30 = .ok (.aload_n 2, 1) := by decide +kernel
theorem dX1_countOthersInTheWay_31 : decode cX1_countOthersInTheWay 31 = .ok (.aload_n 1, 1) := by decide +kernel
theorem dX1_countOthersInTheWay_32 : decode cX1_countOthersInTheWay 32 = .ok (.getfield 81, 3) := by decide +kernel
theorem dX1_countOthersInTheWay_35 : decode cX1_countOthersInTheWay 35 = .ok (.iload_n 3, 1) := by decide +kernel
theorem dX1_countOthersInTheWay_36 : decode cX1_countOthersInTheWay 36 = .ok (.invokevirtual 64, 3) := by decide +kernel
theorem dX1_countOthersInTheWay_39 : decode cX1_countOthersInTheWay 39 = .ok (.checkcast 84, 3) := by decide +kernel
theorem dX1_countOthersInTheWay_42 : decode cX1_countOthersInTheWay 42 = .ok (.invokestatic 86, 3) := by decide +kernel
theorem dX1_countOthersInTheWay_45 : decode cX1_countOthersInTheWay 45 = .ok (.sipush (-1000), 3) := by decide +kernel
theorem dX1_countOthersInTheWay_48 : decode cX1_countOthersInTheWay 48 = .ok (.invokevirtual 90, 3) := by decide +kernel
theorem dX1_countOthersInTheWay_51 : decode cX1_countOthersInTheWay 51 = .ok (.iinc 3 1, 3) := by decide +kernel
theorem dX1_countOthersInTheWay_54 : decode cX1_countOthersInTheWay 54 = .ok (.goto (-37), 3) := by decide +kernel
theorem dX1_countOthersInTheWay_57 : decode cX1_countOthersInTheWay 57 = .ok (.iconst 0, 1) := by decide +kernel
theorem dX1_countOthersInTheWay_58 : decode cX1_countOthersInTheWay 58 = .ok (.istore_n 3, 1) := by decide +kernel
theorem dX1_countOthersInTheWay_59 : decode cX1_countOthersInTheWay 59 = .ok (.iload_n 3, 1) := by decide +kernel
theorem dX1_countOthersInTheWay_60 : decode cX1_countOthersInTheWay 60 = .ok (.aload_n 1, 1) := by decide +kernel
theorem dX1_countOthersInTheWay_61 : decode cX1_countOthersInTheWay 61 = .ok (.getfield 47, 3) := by decide +kernel
theorem dX1_countOthersInTheWay_64 : decode cX1_countOthersInTheWay 64 = .ok (.invokevirtual 51, 3) := by decide +kernel
theorem dX1_countOthersInTheWay_67 : decode cX1_countOthersInTheWay 67 = .ok (.if_icmp .ge 72, 3) := by decide +kernel
theorem dX1_countOthersInTheWay_70 : decode cX1_countOthersInTheWay 70 = .ok (.aload_n 1, 1) := by decide +kernel
theorem dX1_countOthersInTheWay_71 : decode cX1_countOthersInTheWay 71 = .ok (.getfield 47, 3) := by decide +kernel
theorem dX1_countOthersInTheWay_74 : decode cX1_countOthersInTheWay 74 = .ok (.iload_n 3, 1) := by decide +kernel
theorem dX1_countOthersInTheWay_75 : decode cX1_countOthersInTheWay 75 = .ok (.invokevirtual 64, 3) := by decide +kernel
theorem dX1_countOthersInTheWay_78 : decode cX1_countOthersInTheWay 78 = .ok (.checkcast 38, 3) := by decide +kernel
theorem dX1_countOthersInTheWay_81 : decode cX1_countOthersInTheWay 81 = .ok (.getfield 94, 3) := by decide +kernel
theorem dX1_countOthersInTheWay_84 : decode cX1_countOthersInTheWay 84 = .ok (.ifCond .eq 9, 3) := by decide +kernel
theorem dX1_countOthersInTheWay_87 : decode cX1_countOthersInTheWay 87 = .ok (.sipush 1000, 3) := by decide +kernel
theorem dX1_countOthersInTheWay_90 : decode cX1_countOthersInTheWay 90 = .ok (.goto 4, 3) := by decide +kernel
theorem dX1_countOthersInTheWay_93 : decode cX1_countOthersInTheWay 93 = .ok (.iconst 1, 1) := by decide +kernel
theorem dX1_countOthersInTheWay_94 : decode cX1_countOthersInTheWay 94 = .ok (.istore 4, 2) := by decide +kernel
theorem dX1_countOthersInTheWay_96 : decode cX1_countOthersInTheWay 96 = .ok (.iconst 0, 1) := by decide +kernel
theorem dX1_countOthersInTheWay_97 : decode cX1_countOthersInTheWay 97 = .ok (.istore 5, 2) := by decide +kernel
theorem dX1_countOthersInTheWay_99 : decode cX1_countOthersInTheWay 99 = .ok (.iload 5, 2) := by decide +kernel
theorem dX1_countOthersInTheWay_101 : decode cX1_countOthersInTheWay 101 = .ok (.aload_n 1, 1) := by decide +kernel
theorem dX1_countOthersInTheWay_102 : decode cX1_countOthersInTheWay 102 = .ok (.getfield 81, 3) := by decide +kernel
theorem dX1_countOthersInTheWay_105 : decode cX1_countOthersInTheWay 105 = .ok (.invokevirtual 51, 3) := by decide +kernel
theorem dX1_countOthersInTheWay_108 : decode cX1_countOthersInTheWay 108 = .ok (.if_icmp .ge 25, 3) := by decide +kernel
theorem dX1_countOthersInTheWay_111 : decode cX1_countOthersInTheWay 111 = .ok (.aload_n 0, 1) := by decide +kernel
theorem dX1_countOthersInTheWay_112 : decode cX1_countOthersInTheWay 112 = .ok (.iload 5, 2) := by decide +kernel
theorem dX1_countOthersInTheWay_114 : decode cX1_countOthersInTheWay 114 = .ok (.aload_n 1, 1) := by decide +kernel
theorem dX1_countOthersInTheWay_115 : decode cX1_countOthersInTheWay 115 = .ok (.aload_n 2, 1) := by decide +kernel
theorem dX1_countOthersInTheWay_116 : decode cX1_countOthersInTheWay 116 = .ok (.iload_n 3, 1) := by decide +kernel
theorem dX1_countOthersInTheWay_117 : decode cX1_countOthersInTheWay 117 = .ok (.iload 5, 2) := by decide +kernel
theorem dX1_countOthersInTheWay_119 : decode cX1_countOthersInTheWay 119 = .ok (.invokestatic 56, 3) := by decide +kernel
theorem dX1_countOthersInTheWay_122 : decode cX1_countOthersInTheWay 122 = .ok (.iload 4, 2) := by decide +kernel
theorem dX1_countOthersInTheWay_124 : decode cX1_countOthersInTheWay 124 = .ok (.invokevirtual 90, 3) := by decide +kernel
theorem dX1_countOthersInTheWay_127 : decode cX1_countOthersInTheWay 127 = .ok (.iinc 5 1, 3) := by decide +kernel
theorem dX1_countOthersInTheWay_130 : decode cX1_countOthersInTheWay 130 = .ok (.goto (-31), 3) := by decide +kernel
theorem dX1_countOthersInTheWay_133 : decode cX1_countOthersInTheWay 133 = .ok (.iinc 3 1, 3) := by decide +kernel
theorem dX1_countOthersInTheWay_136 : decode cX1_countOthersInTheWay 136 = .ok (.goto (-77), 3) := by decide +kernel
theorem dX1_countOthersInTheWay_139 : decode cX1_countOthersInTheWay 139 = .ok (.return_, 1) := by decide +kernel
theorem dX1_slotsBarredByOne_0 : decode cX1_slotsBarredByOne 0 = .ok (.iload_n 2, 1) := by decide +kernel
theorem dX1_slotsBarredByOne_1 : decode cX1_slotsBarredByOne 1 = .ok (.aload_n 0, 1) := by decide +kernel
theorem dX1_slotsBarredByOne_2 : decode cX1_slotsBarredByOne 2 = .ok (.getfield 47, 3) := by decide +kernel
theorem dX1_slotsBarredByOne_5 : decode cX1_slotsBarredByOne 5 = .ok (.invokevirtual 51, 3) := by decide +kernel
theorem dX1_slotsBarredByOne_8 : decode cX1_slotsBarredByOne 8 = .ok (.if_icmp .ge 14, 3) := by decide +kernel
theorem dX1_slotsBarredByOne_11 : decode cX1_slotsBarredByOne 11 = .ok (.iload_n 3, 1) := by decide +kernel
theorem dX1_slotsBarredByOne_12 : decode cX1_slotsBarredByOne 12 = .ok (.aload_n 0, 1) := by decide +kernel
theorem dX1_slotsBarredByOne_13 : decode cX1_slotsBarredByOne 13 = .ok (.getfield 81, 3) := by decide +kernel
theorem dX1_slotsBarredByOne_16 : decode cX1_slotsBarredByOne 16 = .ok (.invokevirtual 51, 3) := by decide +kernel
theorem dX1_slotsBarredByOne_19 : decode cX1_slotsBarredByOne 19 = .ok (.if_icmp .lt 5, 3) := by decide +kernel
theorem dX1_slotsBarredByOne_22 : decode cX1_slotsBarredByOne 22 = .ok (.iconst 0, 1) := by decide +kernel
theorem dX1_slotsBarredByOne_23 : decode cX1_slotsBarredByOne 23 = .ok (.ireturn, 1) := by decide +kernel
theorem dX1_slotsBarredByOne_24 : decode cX1_slotsBarredByOne 24 = .ok (.aload_n 1, 1) := by decide +kernel
theorem dX1_slotsBarredByOne_25 : decode cX1_slotsBarredByOne 25 = .ok (.aload_n 0, 1) := by decide +kernel
theorem dX1_slotsBarredByOne_26 : decode cX1_slotsBarredByOne 26 = .ok (.getfield 98, 3) := by decide +kernel
theorem dX1_slotsBarredByOne_29 : decode cX1_slotsBarredByOne 29 = .ok (.invokevirtual 101, 3) := by decide +kernel
theorem dX1_slotsBarredByOne_32 : decode cX1_slotsBarredByOne 32 = .ok (.aload_n 1, 1) := by decide +kernel
theorem dX1_slotsBarredByOne_33 : decode cX1_slotsBarredByOne 33 = .ok (.aload_n 0, 1) := by decide +kernel
theorem dX1_slotsBarredByOne_34 : decode cX1_slotsBarredByOne 34 = .ok (.getfield 47, 3) := by decide +kernel
theorem dX1_slotsBarredByOne_37 : decode cX1_slotsBarredByOne 37 = .ok (.iload_n 2, 1) := by decide +kernel
theorem dX1_slotsBarredByOne_38 : decode cX1_slotsBarredByOne 38 = .ok (.invokevirtual 64, 3) := by decide +kernel
theorem dX1_slotsBarredByOne_41 : decode cX1_slotsBarredByOne 41 = .ok (.checkcast 38, 3) := by decide +kernel
theorem dX1_slotsBarredByOne_44 : decode cX1_slotsBarredByOne 44 = .ok (.invokevirtual 105, 3) := by decide +kernel
theorem dX1_slotsBarredByOne_47 : decode cX1_slotsBarredByOne 47 = .ok (.aload_n 1, 1) := by decide +kernel
theorem dX1_slotsBarredByOne_48 : decode cX1_slotsBarredByOne 48 = .ok (.bipush 6, 2) := by decide +kernel
theorem dX1_slotsBarredByOne_50 : decode cX1_slotsBarredByOne 50 = .ok (.ldc 108, 2) := by decide +kernel
theorem dX1_slotsBarredByOne_52 : decode cX1_slotsBarredByOne 52 = .ok (.invokevirtual 110, 3) := by decide +kernel
theorem dX1_slotsBarredByOne_55 : decode cX1_slotsBarredByOne 55 = .ok (.aload_n 0, 1) := by decide +kernel
theorem dX1_slotsBarredByOne_56 : decode cX1_slotsBarredByOne 56 = .ok (.getfield 81, 3) := by decide +kernel
theorem dX1_slotsBarredByOne_59 : decode cX1_slotsBarredByOne 59 = .ok (.iload_n 3, 1) := by decide +kernel
theorem dX1_slotsBarredByOne_60 : decode cX1_slotsBarredByOne 60 = .ok (.invokevirtual 64, 3) := by decide +kernel
theorem dX1_slotsBarredByOne_63 : decode cX1_slotsBarredByOne 63 = .ok (.checkcast 84, 3) := by decide +kernel
theorem dX1_slotsBarredByOne_66 : decode cX1_slotsBarredByOne 66 = .ok (.invokevirtual 115, 3) := by decide +kernel
theorem dX1_slotsBarredByOne_69 : decode cX1_slotsBarredByOne 69 = .ok (.ireturn, 1) := by decide +kernel
theorem dX1_openSlots_0 : decode cX1_openSlots 0 = .ok (.ldc 119, 2) := by decide +kernel
theorem dX1_openSlots_2 : decode cX1_openSlots 2 = .ok (.aload_n 0, 1) := by decide +kernel
theorem dX1_openSlots_3 : decode cX1_openSlots 3 = .ok (.iconst 0, 1) := by decide +kernel
theorem dX1_openSlots_4 : decode cX1_openSlots 4 = .ok (.bipush 6, 2) := by decide +kernel
theorem dX1_openSlots_6 : decode cX1_openSlots 6 = .ok (.aload_n 1, 1) := by decide +kernel
theorem dX1_openSlots_7 : decode cX1_openSlots 7 = .ok (.invokevirtual 115, 3) := by decide +kernel
theorem dX1_openSlots_10 : decode cX1_openSlots 10 = .ok (.iconst (-1), 1) := by decide +kernel
theorem dX1_openSlots_11 : decode cX1_openSlots 11 = .ok (.ixor, 1) := by decide +kernel
theorem dX1_openSlots_12 : decode cX1_openSlots 12 = .ok (.iand, 1) := by decide +kernel
theorem dX1_openSlots_13 : decode cX1_openSlots 13 = .ok (.ireturn, 1) := by decide +kernel
theorem dX1_addAtSlots_0 : decode cX1_addAtSlots 0 = .ok (.iconst 0, 1) := by decide +kernel
theorem dX1_addAtSlots_1 : decode cX1_addAtSlots 1 = .ok (.istore 4, 2) := by decide +kernel
theorem dX1_addAtSlots_3 : decode cX1_addAtSlots 3 = .ok (.iload 4, 2) := by decide +kernel
theorem dX1_addAtSlots_5 : decode cX1_addAtSlots 5 = .ok (.bipush 30, 2) := by decide +kernel
theorem dX1_addAtSlots_7 : decode cX1_addAtSlots 7 = .ok (.if_icmp .ge 48, 3) := by decide +kernel
theorem dX1_addAtSlots_10 : decode cX1_addAtSlots 10 = .ok (.bipush 8, 2) := by decide +kernel
theorem dX1_addAtSlots_12 : decode cX1_addAtSlots 12 = .ok (.iload 4, 2) := by decide +kernel
theorem dX1_addAtSlots_14 : decode cX1_addAtSlots 14 = .ok (.imul, 1) := by decide +kernel
theorem dX1_addAtSlots_15 : decode cX1_addAtSlots 15 = .ok (.iload_n 1, 1) := by decide +kernel
theorem dX1_addAtSlots_16 : decode cX1_addAtSlots 16 = .ok (.iadd, 1) := by decide +kernel
theorem dX1_addAtSlots_17 : decode cX1_addAtSlots 17 = .ok (.istore 5, 2) := by decide +kernel
theorem dX1_addAtSlots_19 : decode cX1_addAtSlots 19 = .ok (.iload_n 2, 1) := by decide +kernel
theorem dX1_addAtSlots_20 : decode cX1_addAtSlots 20 = .ok (.iload 4, 2) := by decide +kernel
theorem dX1_addAtSlots_22 : decode cX1_addAtSlots 22 = .ok (.invokestatic 60, 3) := by decide +kernel
theorem dX1_addAtSlots_25 : decode cX1_addAtSlots 25 = .ok (.ifCond .eq 24, 3) := by decide +kernel
theorem dX1_addAtSlots_28 : decode cX1_addAtSlots 28 = .ok (.iload 5, 2) := by decide +kernel
theorem dX1_addAtSlots_30 : decode cX1_addAtSlots 30 = .ok (.aload_n 0, 1) := by decide +kernel
theorem dX1_addAtSlots_31 : decode cX1_addAtSlots 31 = .ok (.getfield 9, 3) := by decide +kernel
theorem dX1_addAtSlots_34 : decode cX1_addAtSlots 34 = .ok (.arraylength, 1) := by decide +kernel
theorem dX1_addAtSlots_35 : decode cX1_addAtSlots 35 = .ok (.if_icmp .ge 14, 3) := by decide +kernel
theorem dX1_addAtSlots_38 : decode cX1_addAtSlots 38 = .ok (.aload_n 0, 1) := by decide +kernel
theorem dX1_addAtSlots_39 : decode cX1_addAtSlots 39 = .ok (.getfield 9, 3) := by decide +kernel
theorem dX1_addAtSlots_42 : decode cX1_addAtSlots 42 = .ok (.iload 5, 2) := by decide +kernel
theorem dX1_addAtSlots_44 : decode cX1_addAtSlots 44 = .ok (.dup2, 1) := by decide +kernel
theorem dX1_addAtSlots_45 : decode cX1_addAtSlots 45 = .ok (.iaload, 1) := by decide +kernel
theorem dX1_addAtSlots_46 : decode cX1_addAtSlots 46 = .ok (.iload_n 3, 1) := by decide +kernel
theorem dX1_addAtSlots_47 : decode cX1_addAtSlots 47 = .ok (.iadd, 1) := by decide +kernel
theorem dX1_addAtSlots_48 : decode cX1_addAtSlots 48 = .ok (.iastore, 1) := by decide +kernel
theorem dX1_addAtSlots_49 : decode cX1_addAtSlots 49 = .ok (.iinc 4 1, 3) := by decide +kernel
theorem dX1_addAtSlots_52 : decode cX1_addAtSlots 52 = .ok (.goto (-49), 3) := by decide +kernel
theorem dX1_addAtSlots_55 : decode cX1_addAtSlots 55 = .ok (.return_, 1) := by decide +kernel
theorem dX2_init_0 : decode cX2_init 0 = .ok (.aload_n 0, 1) := by decide +kernel
theorem dX2_init_1 : decode cX2_init 1 = .ok (.invokespecial 1, 3) := by decide +kernel
theorem dX2_init_4 : decode cX2_init 4 = .ok (.aload_n 0, 1) := by decide +kernel
theorem dX2_init_5 : decode cX2_init 5 = .ok (.iload_n 1, 1) := by decide +kernel
theorem dX2_init_6 : decode cX2_init 6 = .ok (.putfield 7, 3) := by decide +kernel
theorem dX2_init_9 : decode cX2_init 9 = .ok (.return_, 1) := by decide +kernel
theorem dX3_init_0 : decode cX3_init 0 = .ok (.aload_n 0, 1) := by decide +kernel
theorem dX3_init_1 : decode cX3_init 1 = .ok (.invokespecial 3, 3) := by decide +kernel
theorem dX3_init_4 : decode cX3_init 4 = .ok (.aload_n 0, 1) := by decide +kernel
theorem dX3_init_5 : decode cX3_init 5 = .ok (.bipush 16, 2) := by decide +kernel
theorem dX3_init_7 : decode cX3_init 7 = .ok (.newarray .int, 2) := by decide +kernel
theorem dX3_init_9 : decode cX3_init 9 = .ok (.putfield 9, 3) := by decide +kernel
theorem dX3_init_12 : decode cX3_init 12 = .ok (.aload_n 0, 1) := by decide +kernel
theorem dX3_init_13 : decode cX3_init 13 = .ok (.bipush 16, 2) := by decide +kernel
theorem dX3_init_15 : decode cX3_init 15 = .ok (.newarray .int, 2) := by decide +kernel
theorem dX3_init_17 : decode cX3_init 17 = .ok (.putfield 15, 3) := by decide +kernel
theorem dX3_init_20 : decode cX3_init 20 = .ok (.return_, 1) := by decide +kernel
theorem dX3_improveTable_0 : decode cX3_improveTable 0 = .ok (.aload_n 0, 1) := by decide +kernel
theorem dX3_improveTable_1 : decode cX3_improveTable 1 = .ok (.getfield 15, 3) := by decide +kernel
theorem dX3_improveTable_4 : decode cX3_improveTable 4 = .ok (.sipush (-1000), 3) := by decide +kernel
theorem dX3_improveTable_7 : decode cX3_improveTable 7 = .ok (.invokestatic 18, 3) := by decide +kernel
theorem dX3_improveTable_10 : decode cX3_improveTable 10 = .ok (.aload_n 1, 1) := by decide +kernel
theorem dX3_improveTable_11 : decode cX3_improveTable 11 = .ok (.aload_n 0, 1) := by decide +kernel
theorem dX3_improveTable_12 : decode cX3_improveTable 12 = .ok (.getfield 9, 3) := by decide +kernel
theorem dX3_improveTable_15 : decode cX3_improveTable 15 = .ok (.invokevirtual 24, 3) := by decide +kernel
theorem dX3_improveTable_18 : decode cX3_improveTable 18 = .ok (.aload_n 1, 1) := by decide +kernel
theorem dX3_improveTable_19 : decode cX3_improveTable 19 = .ok (.invokevirtual 30, 3) := by decide +kernel
theorem dX3_improveTable_22 : decode cX3_improveTable 22 = .ok (.istore_n 3, 1) := by decide +kernel
theorem dX3_improveTable_23 : decode cX3_improveTable 23 = .ok (.iconst 0, 1) := by decide +kernel
theorem dX3_improveTable_24 : decode cX3_improveTable 24 = .ok (.istore 4, 2) := by decide +kernel
theorem dX3_improveTable_26 : decode cX3_improveTable 26 = .ok (.iload 4, 2) := by decide +kernel
theorem dX3_improveTable_28 : decode cX3_improveTable 28 = .ok (.iload_n 2, 1) := by decide +kernel
theorem dX3_improveTable_29 : decode cX3_improveTable 29 = .ok (.if_icmp .ge 67, 3) := by decide +kernel
theorem dX3_improveTable_32 : decode cX3_improveTable 32 = .ok (.aload_n 0, 1) := by decide +kernel
theorem dX3_improveTable_33 : decode cX3_improveTable 33 = .ok (.aload_n 1, 1) := by decide +kernel
theorem dX3_improveTable_34 : decode cX3_improveTable 34 = .ok (.iload 4, 2) := by decide +kernel
theorem dX3_improveTable_36 : decode cX3_improveTable 36 = .ok (.invokevirtual 34, 3) := by decide +kernel
theorem dX3_improveTable_39 : decode cX3_improveTable 39 = .ok (.astore 5, 2) := by decide +kernel
theorem dX3_improveTable_41 : decode cX3_improveTable 41 = .ok (.aload 5, 2) := by decide +kernel
theorem dX3_improveTable_43 : decode cX3_improveTable 43 = .ok (.ifnonnull 6, 3) := by decide +kernel
theorem dX3_improveTable_46 : decode cX3_improveTable 46 = .ok (.goto 50, 3) := by decide +kernel
theorem dX3_improveTable_49 : decode cX3_improveTable 49 = .ok (.aload_n 1, 1) := by decide +kernel
theorem dX3_improveTable_50 : decode cX3_improveTable 50 = .ok (.aload 5, 2) := by decide +kernel
theorem dX3_improveTable_52 : decode cX3_improveTable 52 = .ok (.aload_n 1, 1) := by decide +kernel
theorem dX3_improveTable_53 : decode cX3_improveTable 53 = .ok (.aload 5, 2) := by decide +kernel
theorem dX3_improveTable_55 : decode cX3_improveTable 55 = .ok (.invokevirtual 38, 3) := by decide +kernel
theorem dX3_improveTable_58 : decode cX3_improveTable 58 = .ok (.invokevirtual 42, 3) := by decide +kernel
theorem dX3_improveTable_61 : decode cX3_improveTable 61 = .ok (.aload_n 0, 1) := by decide +kernel
theorem dX3_improveTable_62 : decode cX3_improveTable 62 = .ok (.aload 5, 2) := by decide +kernel
theorem dX3_improveTable_64 : decode cX3_improveTable 64 = .ok (.iload 4, 2) := by decide +kernel
theorem dX3_improveTable_66 : decode cX3_improveTable 66 = .ok (.invokevirtual 46, 3) := by decide +kernel
theorem dX3_improveTable_69 : decode cX3_improveTable 69 = .ok (.aload_n 1, 1) := by decide +kernel
theorem dX3_improveTable_70 : decode cX3_improveTable 70 = .ok (.invokevirtual 30, 3) := by decide +kernel
theorem dX3_improveTable_73 : decode cX3_improveTable 73 = .ok (.iload_n 3, 1) := by decide +kernel
theorem dX3_improveTable_74 : decode cX3_improveTable 74 = .ok (.if_icmp .ge 16, 3) := by decide +kernel
theorem dX3_improveTable_77 : decode cX3_improveTable 77 = .ok (.aload_n 1, 1) := by decide +kernel
theorem dX3_improveTable_78 : decode cX3_improveTable 78 = .ok (.invokevirtual 30, 3) := by decide +kernel
theorem dX3_improveTable_81 : decode cX3_improveTable 81 = .ok (.istore_n 3, 1) := by decide +kernel
theorem dX3_improveTable_82 : decode cX3_improveTable 82 = .ok (.aload_n 1, 1) := by decide +kernel
theorem dX3_improveTable_83 : decode cX3_improveTable 83 = .ok (.aload_n 0, 1) := by decide +kernel
theorem dX3_improveTable_84 : decode cX3_improveTable 84 = .ok (.getfield 9, 3) := by decide +kernel
theorem dX3_improveTable_87 : decode cX3_improveTable 87 = .ok (.invokevirtual 24, 3) := by decide +kernel
theorem dX3_improveTable_90 : decode cX3_improveTable 90 = .ok (.iinc 4 1, 3) := by decide +kernel
theorem dX3_improveTable_93 : decode cX3_improveTable 93 = .ok (.goto (-67), 3) := by decide +kernel
theorem dX3_improveTable_96 : decode cX3_improveTable 96 = .ok (.aload_n 0, 1) := by decide +kernel
theorem dX3_improveTable_97 : decode cX3_improveTable 97 = .ok (.aload_n 1, 1) := by decide +kernel
theorem dX3_improveTable_98 : decode cX3_improveTable 98 = .ok (.invokevirtual 49, 3) := by decide +kernel
theorem dX3_improveTable_101 : decode cX3_improveTable 101 = .ok (.return_, 1) := by decide +kernel
theorem dX3_findMover_0 : decode cX3_findMover 0 = .ok (.aconst_null, 1) := by decide +kernel
theorem dX3_findMover_1 : decode cX3_findMover 1 = .ok (.astore_n 3, 1) := by decide +kernel
theorem dX3_findMover_2 : decode cX3_findMover 2 = .ok (.iconst 0, 1) := by decide +kernel
theorem dX3_findMover_3 : decode cX3_findMover 3 = .ok (.istore 4, 2) := by decide +kernel
theorem dX3_findMover_5 : decode cX3_findMover 5 = .ok (.iconst 0, 1) := by decide +kernel
theorem dX3_findMover_6 : decode cX3_findMover 6 = .ok (.istore 5, 2) := by decide +kernel
theorem dX3_findMover_8 : decode cX3_findMover 8 = .ok (.iload 5, 2) := by decide +kernel
theorem dX3_findMover_10 : decode cX3_findMover 10 = .ok (.aload_n 1, 1) := by decide +kernel
theorem dX3_findMover_11 : decode cX3_findMover 11 = .ok (.getfield 53, 3) := by decide +kernel
theorem dX3_findMover_14 : decode cX3_findMover 14 = .ok (.invokevirtual 57, 3) := by decide +kernel
theorem dX3_findMover_17 : decode cX3_findMover 17 = .ok (.if_icmp .ge 83, 3) := by decide +kernel
theorem dX3_findMover_20 : decode cX3_findMover 20 = .ok (.aload_n 1, 1) := by decide +kernel
theorem dX3_findMover_21 : decode cX3_findMover 21 = .ok (.getfield 53, 3) := by decide +kernel
theorem dX3_findMover_24 : decode cX3_findMover 24 = .ok (.iload 5, 2) := by decide +kernel
theorem dX3_findMover_26 : decode cX3_findMover 26 = .ok (.invokevirtual 62, 3) := by decide +kernel
theorem dX3_findMover_29 : decode cX3_findMover 29 = .ok (.checkcast 66, 3) := by decide +kernel
theorem dX3_findMover_32 : decode cX3_findMover 32 = .ok (.astore 6, 2) := by decide +kernel
theorem dX3_findMover_34 : decode cX3_findMover 34 = .ok (.aload_n 0, 1) := by decide +kernel
theorem dX3_findMover_35 : decode cX3_findMover 35 = .ok (.aload_n 1, 1) := by decide +kernel
theorem dX3_findMover_36 : decode cX3_findMover 36 = .ok (.aload 6, 2) := by decide +kernel
theorem dX3_findMover_38 : decode cX3_findMover 38 = .ok (.iload_n 2, 1) := by decide +kernel
theorem dX3_findMover_39 : decode cX3_findMover 39 = .ok (.invokevirtual 68, 3) := by decide +kernel
theorem dX3_findMover_42 : decode cX3_findMover 42 = .ok (.ifCond .eq 12, 3) := by decide +kernel
theorem dX3_findMover_45 : decode cX3_findMover 45 = .ok (.aload_n 1, 1) := by decide +kernel
theorem dX3_findMover_46 : decode cX3_findMover 46 = .ok (.aload 6, 2) := by decide +kernel
theorem dX3_findMover_48 : decode cX3_findMover 48 = .ok (.invokevirtual 38, 3) := by decide +kernel
theorem dX3_findMover_51 : decode cX3_findMover 51 = .ok (.goto 4, 3) := by decide +kernel
theorem dX3_findMover_54 : decode cX3_findMover 54 = .ok (.iconst (-1), 1) := by decide +kernel
theorem dX3_findMover_55 : decode cX3_findMover 55 = .ok (.istore 7, 2) := by decide +kernel
theorem dX3_findMover_57 : decode cX3_findMover 57 = .ok (.iload 7, 2) := by decide +kernel
theorem dX3_findMover_59 : decode cX3_findMover 59 = .ok (.iconst (-1), 1) := by decide +kernel
theorem dX3_findMover_60 : decode cX3_findMover 60 = .ok (.if_icmp .eq 34, 3) := by decide +kernel
theorem dX3_findMover_63 : decode cX3_findMover 63 = .ok (.aload_n 1, 1) := by decide +kernel
theorem dX3_findMover_64 : decode cX3_findMover 64 = .ok (.aload 6, 2) := by decide +kernel
theorem dX3_findMover_66 : decode cX3_findMover 66 = .ok (.iload 7, 2) := by decide +kernel
theorem dX3_findMover_68 : decode cX3_findMover 68 = .ok (.bipush 8, 2) := by decide +kernel
theorem dX3_findMover_70 : decode cX3_findMover 70 = .ok (.idiv, 1) := by decide +kernel
theorem dX3_findMover_71 : decode cX3_findMover 71 = .ok (.invokevirtual 72, 3) := by decide +kernel
theorem dX3_findMover_74 : decode cX3_findMover 74 = .ok (.istore 8, 2) := by decide +kernel
theorem dX3_findMover_76 : decode cX3_findMover 76 = .ok (.aload_n 3, 1) := by decide +kernel
theorem dX3_findMover_77 : decode cX3_findMover 77 = .ok (.ifnull 10, 3) := by decide +kernel
theorem dX3_findMover_80 : decode cX3_findMover 80 = .ok (.iload 8, 2) := by decide +kernel
theorem dX3_findMover_82 : decode cX3_findMover 82 = .ok (.iload 4, 2) := by decide +kernel
theorem dX3_findMover_84 : decode cX3_findMover 84 = .ok (.if_icmp .ge 10, 3) := by decide +kernel
theorem dX3_findMover_87 : decode cX3_findMover 87 = .ok (.aload 6, 2) := by decide +kernel
theorem dX3_findMover_89 : decode cX3_findMover 89 = .ok (.astore_n 3, 1) := by decide +kernel
theorem dX3_findMover_90 : decode cX3_findMover 90 = .ok (.iload 8, 2) := by decide +kernel
theorem dX3_findMover_92 : decode cX3_findMover 92 = .ok (.istore 4, 2) := by decide +kernel
theorem dX3_findMover_94 : decode cX3_findMover 94 = .ok (.iinc 5 1, 3) := by decide +kernel
theorem dX3_findMover_97 : decode cX3_findMover 97 = .ok (.goto (-89), 3) := by decide +kernel
theorem dX3_findMover_100 : decode cX3_findMover 100 = .ok (.aload_n 3, 1) := by decide +kernel
theorem dX3_findMover_101 : decode cX3_findMover 101 = .ok (.areturn, 1) := by decide +kernel
theorem dX3_mayMove_0 : decode cX3_mayMove 0 = .ok (.aload_n 2, 1) := by decide +kernel
theorem dX3_mayMove_1 : decode cX3_mayMove 1 = .ok (.getfield 76, 3) := by decide +kernel
theorem dX3_mayMove_4 : decode cX3_mayMove 4 = .ok (.ifnull 32, 3) := by decide +kernel
theorem dX3_mayMove_7 : decode cX3_mayMove 7 = .ok (.aload_n 1, 1) := by decide +kernel
theorem dX3_mayMove_8 : decode cX3_mayMove 8 = .ok (.aload_n 2, 1) := by decide +kernel
theorem dX3_mayMove_9 : decode cX3_mayMove 9 = .ok (.invokevirtual 80, 3) := by decide +kernel
theorem dX3_mayMove_12 : decode cX3_mayMove 12 = .ok (.ifCond .eq 24, 3) := by decide +kernel
theorem dX3_mayMove_15 : decode cX3_mayMove 15 = .ok (.iload_n 3, 1) := by decide +kernel
theorem dX3_mayMove_16 : decode cX3_mayMove 16 = .ok (.aload_n 0, 1) := by decide +kernel
theorem dX3_mayMove_17 : decode cX3_mayMove 17 = .ok (.getfield 15, 3) := by decide +kernel
theorem dX3_mayMove_20 : decode cX3_mayMove 20 = .ok (.aload_n 2, 1) := by decide +kernel
theorem dX3_mayMove_21 : decode cX3_mayMove 21 = .ok (.getfield 84, 3) := by decide +kernel
theorem dX3_mayMove_24 : decode cX3_mayMove 24 = .ok (.invokestatic 88, 3) := by decide +kernel
theorem dX3_mayMove_27 : decode cX3_mayMove 27 = .ok (.isub, 1) := by decide +kernel
theorem dX3_mayMove_28 : decode cX3_mayMove 28 = .ok (.iconst 3, 1) := by decide +kernel
theorem dX3_mayMove_29 : decode cX3_mayMove 29 = .ok (.if_icmp .le 7, 3) := by decide +kernel
theorem dX3_mayMove_32 : decode cX3_mayMove 32 = .ok (.iconst 1, 1) := by decide +kernel
theorem dX3_mayMove_33 : decode cX3_mayMove 33 = .ok (.goto 4, 3) := by decide +kernel
theorem dX3_mayMove_36 : decode cX3_mayMove 36 = .ok (.iconst 0, 1) := by decide +kernel
theorem dX3_mayMove_37 : decode cX3_mayMove 37 = .ok (.ireturn, 1) := by decide +kernel
theorem dX3_noteMove_0 : decode cX3_noteMove 0 = .ok (.aload_n 1, 1) := by decide +kernel
theorem dX3_noteMove_1 : decode cX3_noteMove 1 = .ok (.getfield 84, 3) := by decide +kernel
theorem dX3_noteMove_4 : decode cX3_noteMove 4 = .ok (.ifCond .lt 25, 3) := by decide +kernel
theorem dX3_noteMove_7 : decode cX3_noteMove 7 = .ok (.aload_n 1, 1) := by decide +kernel
theorem dX3_noteMove_8 : decode cX3_noteMove 8 = .ok (.getfield 84, 3) := by decide +kernel
theorem dX3_noteMove_11 : decode cX3_noteMove 11 = .ok (.aload_n 0, 1) := by decide +kernel
theorem dX3_noteMove_12 : decode cX3_noteMove 12 = .ok (.getfield 15, 3) := by decide +kernel
theorem dX3_noteMove_15 : decode cX3_noteMove 15 = .ok (.arraylength, 1) := by decide +kernel
theorem dX3_noteMove_16 : decode cX3_noteMove 16 = .ok (.if_icmp .ge 13, 3) := by decide +kernel
theorem dX3_noteMove_19 : decode cX3_noteMove 19 = .ok (.aload_n 0, 1) := by decide +kernel
theorem dX3_noteMove_20 : decode cX3_noteMove 20 = .ok (.getfield 15, 3) := by decide +kernel
theorem dX3_noteMove_23 : decode cX3_noteMove 23 = .ok (.aload_n 1, 1) := by decide +kernel
theorem dX3_noteMove_24 : decode cX3_noteMove 24 = .ok (.getfield 84, 3) := by decide +kernel
theorem dX3_noteMove_27 : decode cX3_noteMove 27 = .ok (.iload_n 2, 1) := by decide +kernel
theorem dX3_noteMove_28 : decode cX3_noteMove 28 = .ok (.iastore, 1) := by decide +kernel
theorem dX3_noteMove_29 : decode cX3_noteMove 29 = .ok (.return_, 1) := by decide +kernel
theorem dX3_becomeBest_0 : decode cX3_becomeBest 0 = .ok (.iconst 0, 1) := by decide +kernel
theorem dX3_becomeBest_1 : decode cX3_becomeBest 1 = .ok (.istore_n 2, 1) := by decide +kernel
theorem dX3_becomeBest_2 : decode cX3_becomeBest 2 = .ok (.iconst 0, 1) := by decide +kernel
theorem dX3_becomeBest_3 : decode cX3_becomeBest 3 = .ok (.istore_n 3, 1) := by decide +kernel
theorem dX3_becomeBest_4 : decode cX3_becomeBest 4 = .ok (.iload_n 3, 1) := by decide +kernel
theorem dX3_becomeBest_5 : decode cX3_becomeBest 5 = .ok (.aload_n 1, 1) := by decide +kernel
theorem dX3_becomeBest_6 : decode cX3_becomeBest 6 = .ok (.getfield 53, 3) := by decide +kernel
theorem dX3_becomeBest_9 : decode cX3_becomeBest 9 = .ok (.invokevirtual 57, 3) := by decide +kernel
theorem dX3_becomeBest_12 : decode cX3_becomeBest 12 = .ok (.if_icmp .ge 44, 3) := by decide +kernel
theorem dX3_becomeBest_15 : decode cX3_becomeBest 15 = .ok (.iload_n 2, 1) := by decide +kernel
theorem dX3_becomeBest_16 : decode cX3_becomeBest 16 = .ok (.aload_n 1, 1) := by decide +kernel
theorem dX3_becomeBest_17 : decode cX3_becomeBest 17 = .ok (.getfield 53, 3) := by decide +kernel
theorem dX3_becomeBest_20 : decode cX3_becomeBest 20 = .ok (.iload_n 3, 1) := by decide +kernel
theorem dX3_becomeBest_21 : decode cX3_becomeBest 21 = .ok (.invokevirtual 62, 3) := by decide +kernel
theorem dX3_becomeBest_24 : decode cX3_becomeBest 24 = .ok (.checkcast 66, 3) := by decide +kernel
theorem dX3_becomeBest_27 : decode cX3_becomeBest 27 = .ok (.invokevirtual 92, 3) := by decide +kernel
theorem dX3_becomeBest_30 : decode cX3_becomeBest 30 = .ok (.aload_n 0, 1) := by decide +kernel
theorem dX3_becomeBest_31 : decode cX3_becomeBest 31 = .ok (.getfield 9, 3) := by decide +kernel
theorem dX3_becomeBest_34 : decode cX3_becomeBest 34 = .ok (.iload_n 3, 1) := by decide +kernel
theorem dX3_becomeBest_35 : decode cX3_becomeBest 35 = .ok (.invokestatic 88, 3) := by decide +kernel
theorem dX3_becomeBest_38 : decode cX3_becomeBest 38 = .ok (.if_icmp .eq 9, 3) := by decide +kernel
theorem dX3_becomeBest_41 : decode cX3_becomeBest 41 = .ok (.iconst 1, 1) := by decide +kernel
theorem dX3_becomeBest_42 : decode cX3_becomeBest 42 = .ok (.iload_n 3, 1) := by decide +kernel
theorem dX3_becomeBest_43 : decode cX3_becomeBest 43 = .ok (.ishl, 1) := by decide +kernel
theorem dX3_becomeBest_44 : decode cX3_becomeBest 44 = .ok (.goto 4, 3) := by decide +kernel
theorem dX3_becomeBest_47 : decode cX3_becomeBest 47 = .ok (.iconst 0, 1) := by decide +kernel
theorem dX3_becomeBest_48 : decode cX3_becomeBest 48 = .ok (.ior, 1) := by decide +kernel
theorem dX3_becomeBest_49 : decode cX3_becomeBest 49 = .ok (.istore_n 2, 1) := by decide +kernel
theorem dX3_becomeBest_50 : decode cX3_becomeBest 50 = .ok (.iinc 3 1, 3) := by decide +kernel
theorem dX3_becomeBest_53 : decode cX3_becomeBest 53 = .ok (.goto (-49), 3) := by decide +kernel
theorem dX3_becomeBest_56 : decode cX3_becomeBest 56 = .ok (.aload_n 1, 1) := by decide +kernel
theorem dX3_becomeBest_57 : decode cX3_becomeBest 57 = .ok (.iload_n 2, 1) := by decide +kernel
theorem dX3_becomeBest_58 : decode cX3_becomeBest 58 = .ok (.invokevirtual 95, 3) := by decide +kernel
theorem dX3_becomeBest_61 : decode cX3_becomeBest 61 = .ok (.iconst 0, 1) := by decide +kernel
theorem dX3_becomeBest_62 : decode cX3_becomeBest 62 = .ok (.istore_n 3, 1) := by decide +kernel
theorem dX3_becomeBest_63 : decode cX3_becomeBest 63 = .ok (.iload_n 3, 1) := by decide +kernel
theorem dX3_becomeBest_64 : decode cX3_becomeBest 64 = .ok (.aload_n 1, 1) := by decide +kernel
theorem dX3_becomeBest_65 : decode cX3_becomeBest 65 = .ok (.getfield 53, 3) := by decide +kernel
theorem dX3_becomeBest_68 : decode cX3_becomeBest 68 = .ok (.invokevirtual 57, 3) := by decide +kernel
theorem dX3_becomeBest_71 : decode cX3_becomeBest 71 = .ok (.if_icmp .ge 40, 3) := by decide +kernel
theorem dX3_becomeBest_74 : decode cX3_becomeBest 74 = .ok (.iload_n 2, 1) := by decide +kernel
theorem dX3_becomeBest_75 : decode cX3_becomeBest 75 = .ok (.iload_n 3, 1) := by decide +kernel
theorem dX3_becomeBest_76 : decode cX3_becomeBest 76 = .ok (.invokestatic 99, 3) := by decide +kernel
theorem dX3_becomeBest_79 : decode cX3_becomeBest 79 = .ok (.ifCond .eq 26, 3) := by decide +kernel
theorem dX3_becomeBest_82 : decode cX3_becomeBest 82 = .ok (.aload_n 1, 1) := by decide +kernel
theorem dX3_becomeBest_83 : decode cX3_becomeBest 83 = .ok (.aload_n 1, 1) := by decide +kernel
theorem dX3_becomeBest_84 : decode cX3_becomeBest 84 = .ok (.getfield 53, 3) := by decide +kernel
theorem dX3_becomeBest_87 : decode cX3_becomeBest 87 = .ok (.iload_n 3, 1) := by decide +kernel
theorem dX3_becomeBest_88 : decode cX3_becomeBest 88 = .ok (.invokevirtual 62, 3) := by decide +kernel
theorem dX3_becomeBest_91 : decode cX3_becomeBest 91 = .ok (.checkcast 66, 3) := by decide +kernel
theorem dX3_becomeBest_94 : decode cX3_becomeBest 94 = .ok (.aload_n 0, 1) := by decide +kernel
theorem dX3_becomeBest_95 : decode cX3_becomeBest 95 = .ok (.getfield 9, 3) := by decide +kernel
theorem dX3_becomeBest_98 : decode cX3_becomeBest 98 = .ok (.iload_n 3, 1) := by decide +kernel
theorem dX3_becomeBest_99 : decode cX3_becomeBest 99 = .ok (.invokestatic 88, 3) := by decide +kernel
theorem dX3_becomeBest_102 : decode cX3_becomeBest 102 = .ok (.invokevirtual 42, 3) := by decide +kernel
theorem dX3_becomeBest_105 : decode cX3_becomeBest 105 = .ok (.iinc 3 1, 3) := by decide +kernel
theorem dX3_becomeBest_108 : decode cX3_becomeBest 108 = .ok (.goto (-45), 3) := by decide +kernel
theorem dX3_becomeBest_111 : decode cX3_becomeBest 111 = .ok (.return_, 1) := by decide +kernel
theorem dX4_init_0 : decode cX4_init 0 = .ok (.aload_n 0, 1) := by decide +kernel
theorem dX4_init_1 : decode cX4_init 1 = .ok (.invokespecial 3, 3) := by decide +kernel
theorem dX4_init_4 : decode cX4_init 4 = .ok (.aload_n 0, 1) := by decide +kernel
theorem dX4_init_5 : decode cX4_init 5 = .ok (.iconst (-1), 1) := by decide +kernel
theorem dX4_init_6 : decode cX4_init 6 = .ok (.putfield 9, 3) := by decide +kernel
theorem dX4_init_9 : decode cX4_init 9 = .ok (.aload_n 0, 1) := by decide +kernel
theorem dX4_init_10 : decode cX4_init 10 = .ok (.bipush 8, 2) := by decide +kernel
theorem dX4_init_12 : decode cX4_init 12 = .ok (.newarray .int, 2) := by decide +kernel
theorem dX4_init_14 : decode cX4_init 14 = .ok (.putfield 15, 3) := by decide +kernel
theorem dX4_init_17 : decode cX4_init 17 = .ok (.aload_n 0, 1) := by decide +kernel
theorem dX4_init_18 : decode cX4_init 18 = .ok (.bipush 8, 2) := by decide +kernel
theorem dX4_init_20 : decode cX4_init 20 = .ok (.newarray .int, 2) := by decide +kernel
theorem dX4_init_22 : decode cX4_init 22 = .ok (.putfield 19, 3) := by decide +kernel
theorem dX4_init_25 : decode cX4_init 25 = .ok (.aload_n 0, 1) := by decide +kernel
theorem dX4_init_26 : decode cX4_init 26 = .ok (.iconst 3, 1) := by decide +kernel
theorem dX4_init_27 : decode cX4_init 27 = .ok (.newarray .int, 2) := by decide +kernel
theorem dX4_init_29 : decode cX4_init 29 = .ok (.putfield 22, 3) := by decide +kernel
theorem dX4_init_32 : decode cX4_init 32 = .ok (.aload_n 0, 1) := by decide +kernel
theorem dX4_init_33 : decode cX4_init 33 = .ok (.iconst 5, 1) := by decide +kernel
theorem dX4_init_34 : decode cX4_init 34 = .ok (.newarray .int, 2) := by decide +kernel
theorem dX4_init_36 : decode cX4_init 36 = .ok (.putfield 25, 3) := by decide +kernel
theorem dX4_init_39 : decode cX4_init 39 = .ok (.aload_n 0, 1) := by decide +kernel
theorem dX4_init_40 : decode cX4_init 40 = .ok (.iload_n 1, 1) := by decide +kernel
theorem dX4_init_41 : decode cX4_init 41 = .ok (.putfield 28, 3) := by decide +kernel
theorem dX4_init_44 : decode cX4_init 44 = .ok (.aload_n 0, 1) := by decide +kernel
theorem dX4_init_45 : decode cX4_init 45 = .ok (.aload_n 2, 1) := by decide +kernel
theorem dX4_init_46 : decode cX4_init 46 = .ok (.putfield 31, 3) := by decide +kernel
theorem dX4_init_49 : decode cX4_init 49 = .ok (.aload_n 0, 1) := by decide +kernel
theorem dX4_init_50 : decode cX4_init 50 = .ok (.aload_n 3, 1) := by decide +kernel
theorem dX4_init_51 : decode cX4_init 51 = .ok (.putfield 35, 3) := by decide +kernel
theorem dX4_init_54 : decode cX4_init 54 = .ok (.aload_n 0, 1) := by decide +kernel
theorem dX4_init_55 : decode cX4_init 55 = .ok (.iload 4, 2) := by decide +kernel
theorem dX4_init_57 : decode cX4_init 57 = .ok (.putfield 39, 3) := by decide +kernel
theorem dX4_init_60 : decode cX4_init 60 = .ok (.aload_n 0, 1) := by decide +kernel
theorem dX4_init_61 : decode cX4_init 61 = .ok (.iload 5, 2) := by decide +kernel
theorem dX4_init_63 : decode cX4_init 63 = .ok (.putfield 42, 3) := by decide +kernel
theorem dX4_init_66 : decode cX4_init 66 = .ok (.aload_n 0, 1) := by decide +kernel
theorem dX4_init_67 : decode cX4_init 67 = .ok (.iload 6, 2) := by decide +kernel
theorem dX4_init_69 : decode cX4_init 69 = .ok (.putfield 45, 3) := by decide +kernel
theorem dX4_init_72 : decode cX4_init 72 = .ok (.aload_n 0, 1) := by decide +kernel
theorem dX4_init_73 : decode cX4_init 73 = .ok (.ldc 48, 2) := by decide +kernel
theorem dX4_init_75 : decode cX4_init 75 = .ok (.iload 5, 2) := by decide +kernel
theorem dX4_init_77 : decode cX4_init 77 = .ok (.iconst 1, 1) := by decide +kernel
theorem dX4_init_78 : decode cX4_init 78 = .ok (.isub, 1) := by decide +kernel
theorem dX4_init_79 : decode cX4_init 79 = .ok (.invokestatic 49, 3) := by decide +kernel
theorem dX4_init_82 : decode cX4_init 82 = .ok (.putfield 53, 3) := by decide +kernel
theorem dX4_init_85 : decode cX4_init 85 = .ok (.return_, 1) := by decide +kernel
theorem dX4_placeNow_0 : decode cX4_placeNow 0 = .ok (.aload_n 0, 1) := by decide +kernel
theorem dX4_placeNow_1 : decode cX4_placeNow 1 = .ok (.getfield 56, 3) := by decide +kernel
theorem dX4_placeNow_4 : decode cX4_placeNow 4 = .ok (.ifnonnull 7, 3) := by decide +kernel
theorem dX4_placeNow_7 : decode cX4_placeNow 7 = .ok (.iconst (-1), 1) := by decide +kernel
theorem dX4_placeNow_8 : decode cX4_placeNow 8 = .ok (.goto 18, 3) := by decide +kernel
theorem dX4_placeNow_11 : decode cX4_placeNow 11 = .ok (.bipush 8, 2) := by decide +kernel
theorem dX4_placeNow_13 : decode cX4_placeNow 13 = .ok (.aload_n 0, 1) := by decide +kernel
theorem dX4_placeNow_14 : decode cX4_placeNow 14 = .ok (.getfield 9, 3) := by decide +kernel
theorem dX4_placeNow_17 : decode cX4_placeNow 17 = .ok (.imul, 1) := by decide +kernel
theorem dX4_placeNow_18 : decode cX4_placeNow 18 = .ok (.aload_n 0, 1) := by decide +kernel
theorem dX4_placeNow_19 : decode cX4_placeNow 19 = .ok (.getfield 56, 3) := by decide +kernel
theorem dX4_placeNow_22 : decode cX4_placeNow 22 = .ok (.getfield 60, 3) := by decide +kernel
theorem dX4_placeNow_25 : decode cX4_placeNow 25 = .ok (.iadd, 1) := by decide +kernel
theorem dX4_placeNow_26 : decode cX4_placeNow 26 = .ok (.ireturn, 1) := by decide +kernel
theorem dX4_isOn_0 : decode cX4_isOn 0 = .ok (.aload_n 0, 1) := by decide +kernel
theorem dX4_isOn_1 : decode cX4_isOn 1 = .ok (.getfield 56, 3) := by decide +kernel
theorem dX4_isOn_4 : decode cX4_isOn 4 = .ok (.ifnull 18, 3) := by decide +kernel
theorem dX4_isOn_7 : decode cX4_isOn 7 = .ok (.aload_n 0, 1) := by decide +kernel
theorem dX4_isOn_8 : decode cX4_isOn 8 = .ok (.getfield 9, 3) := by decide +kernel
theorem dX4_isOn_11 : decode cX4_isOn 11 = .ok (.bipush 6, 2) := by decide +kernel
theorem dX4_isOn_13 : decode cX4_isOn 13 = .ok (.idiv, 1) := by decide +kernel
theorem dX4_isOn_14 : decode cX4_isOn 14 = .ok (.iload_n 1, 1) := by decide +kernel
theorem dX4_isOn_15 : decode cX4_isOn 15 = .ok (.if_icmp .ne 7, 3) := by decide +kernel
theorem dX4_isOn_18 : decode cX4_isOn 18 = .ok (.iconst 1, 1) := by decide +kernel
theorem dX4_isOn_19 : decode cX4_isOn 19 = .ok (.goto 4, 3) := by decide +kernel
theorem dX4_isOn_22 : decode cX4_isOn 22 = .ok (.iconst 0, 1) := by decide +kernel
theorem dX4_isOn_23 : decode cX4_isOn 23 = .ok (.ireturn, 1) := by decide +kernel
theorem dX4_hoursNow_0 : decode cX4_hoursNow 0 = .ok (.aload_n 0, 1) := by decide +kernel
theorem dX4_hoursNow_1 : decode cX4_hoursNow 1 = .ok (.getfield 56, 3) := by decide +kernel
theorem dX4_hoursNow_4 : decode cX4_hoursNow 4 = .ok (.ifnonnull 7, 3) := by decide +kernel
theorem dX4_hoursNow_7 : decode cX4_hoursNow 7 = .ok (.iconst 0, 1) := by decide +kernel
theorem dX4_hoursNow_8 : decode cX4_hoursNow 8 = .ok (.goto 11, 3) := by decide +kernel
theorem dX4_hoursNow_11 : decode cX4_hoursNow 11 = .ok (.aload_n 0, 1) := by decide +kernel
theorem dX4_hoursNow_12 : decode cX4_hoursNow 12 = .ok (.aload_n 0, 1) := by decide +kernel
theorem dX4_hoursNow_13 : decode cX4_hoursNow 13 = .ok (.getfield 9, 3) := by decide +kernel
theorem dX4_hoursNow_16 : decode cX4_hoursNow 16 = .ok (.invokevirtual 63, 3) := by decide +kernel
theorem dX4_hoursNow_19 : decode cX4_hoursNow 19 = .ok (.ireturn, 1) := by decide +kernel
theorem dX4_hoursFrom_0 : decode cX4_hoursFrom 0 = .ok (.iconst 1, 1) := by decide +kernel
theorem dX4_hoursFrom_1 : decode cX4_hoursFrom 1 = .ok (.aload_n 0, 1) := by decide +kernel
theorem dX4_hoursFrom_2 : decode cX4_hoursFrom 2 = .ok (.getfield 42, 3) := by decide +kernel
theorem dX4_hoursFrom_5 : decode cX4_hoursFrom 5 = .ok (.ishl, 1) := by decide +kernel
theorem dX4_hoursFrom_6 : decode cX4_hoursFrom 6 = .ok (.iconst 1, 1) := by decide +kernel
theorem dX4_hoursFrom_7 : decode cX4_hoursFrom 7 = .ok (.isub, 1) := by decide +kernel
theorem dX4_hoursFrom_8 : decode cX4_hoursFrom 8 = .ok (.iload_n 1, 1) := by decide +kernel
theorem dX4_hoursFrom_9 : decode cX4_hoursFrom 9 = .ok (.ishl, 1) := by decide +kernel
theorem dX4_hoursFrom_10 : decode cX4_hoursFrom 10 = .ok (.bipush 63, 2) := by decide +kernel
theorem dX4_hoursFrom_12 : decode cX4_hoursFrom 12 = .ok (.iload_n 1, 1) := by decide +kernel
theorem dX4_hoursFrom_13 : decode cX4_hoursFrom 13 = .ok (.iload_n 1, 1) := by decide +kernel
theorem dX4_hoursFrom_14 : decode cX4_hoursFrom 14 = .ok (.bipush 6, 2) := by decide +kernel
theorem dX4_hoursFrom_16 : decode cX4_hoursFrom 16 = .ok (.irem, 1) := by decide +kernel
theorem dX4_hoursFrom_17 : decode cX4_hoursFrom 17 = .ok (.isub, 1) := by decide +kernel
theorem dX4_hoursFrom_18 : decode cX4_hoursFrom 18 = .ok (.ishl, 1) := by decide +kernel
theorem dX4_hoursFrom_19 : decode cX4_hoursFrom 19 = .ok (.iand, 1) := by decide +kernel
theorem dX4_hoursFrom_20 : decode cX4_hoursFrom 20 = .ok (.ireturn, 1) := by decide +kernel
theorem dX4_forgetOthers_0 : decode cX4_forgetOthers 0 = .ok (.aload_n 0, 1) := by decide +kernel
theorem dX4_forgetOthers_1 : decode cX4_forgetOthers 1 = .ok (.iconst 1, 1) := by decide +kernel
theorem dX4_forgetOthers_2 : decode cX4_forgetOthers 2 = .ok (.bipush 6, 2) := by decide +kernel
theorem dX4_forgetOthers_4 : decode cX4_forgetOthers 4 = .ok (.iload_n 1, 1) := by decide +kernel
theorem dX4_forgetOthers_5 : decode cX4_forgetOthers 5 = .ok (.imul, 1) := by decide +kernel
theorem dX4_forgetOthers_6 : decode cX4_forgetOthers 6 = .ok (.ishl, 1) := by decide +kernel
theorem dX4_forgetOthers_7 : decode cX4_forgetOthers 7 = .ok (.iconst 1, 1) := by decide +kernel
theorem dX4_forgetOthers_8 : decode cX4_forgetOthers 8 = .ok (.isub, 1) := by decide +kernel
theorem dX4_forgetOthers_9 : decode cX4_forgetOthers 9 = .ok (.putfield 67, 3) := by decide +kernel
theorem dX4_forgetOthers_12 : decode cX4_forgetOthers 12 = .ok (.aload_n 0, 1) := by decide +kernel
theorem dX4_forgetOthers_13 : decode cX4_forgetOthers 13 = .ok (.iconst 0, 1) := by decide +kernel
theorem dX4_forgetOthers_14 : decode cX4_forgetOthers 14 = .ok (.putfield 70, 3) := by decide +kernel
theorem dX4_forgetOthers_17 : decode cX4_forgetOthers 17 = .ok (.aload_n 0, 1) := by decide +kernel
theorem dX4_forgetOthers_18 : decode cX4_forgetOthers 18 = .ok (.iconst 0, 1) := by decide +kernel
theorem dX4_forgetOthers_19 : decode cX4_forgetOthers 19 = .ok (.putfield 73, 3) := by decide +kernel
theorem dX4_forgetOthers_22 : decode cX4_forgetOthers 22 = .ok (.aload_n 0, 1) := by decide +kernel
theorem dX4_forgetOthers_23 : decode cX4_forgetOthers 23 = .ok (.getfield 19, 3) := by decide +kernel
theorem dX4_forgetOthers_26 : decode cX4_forgetOthers 26 = .ok (.iconst 0, 1) := by decide +kernel
theorem dX4_forgetOthers_27 : decode cX4_forgetOthers 27 = .ok (.invokestatic 76, 3) := by decide +kernel
theorem dX4_forgetOthers_30 : decode cX4_forgetOthers 30 = .ok (.aload_n 0, 1) := by decide +kernel
theorem dX4_forgetOthers_31 : decode cX4_forgetOthers 31 = .ok (.getfield 22, 3) := by decide +kernel
theorem dX4_forgetOthers_34 : decode cX4_forgetOthers 34 = .ok (.iconst 0, 1) := by decide +kernel
theorem dX4_forgetOthers_35 : decode cX4_forgetOthers 35 = .ok (.invokestatic 76, 3) := by decide +kernel
theorem dX4_forgetOthers_38 : decode cX4_forgetOthers 38 = .ok (.aload_n 0, 1) := by decide +kernel
theorem dX4_forgetOthers_39 : decode cX4_forgetOthers 39 = .ok (.iconst 0, 1) := by decide +kernel
theorem dX4_forgetOthers_40 : decode cX4_forgetOthers 40 = .ok (.putfield 82, 3) := by decide +kernel
theorem dX4_forgetOthers_43 : decode cX4_forgetOthers 43 = .ok (.aload_n 0, 1) := by decide +kernel
theorem dX4_forgetOthers_44 : decode cX4_forgetOthers 44 = .ok (.getfield 25, 3) := by decide +kernel
theorem dX4_forgetOthers_47 : decode cX4_forgetOthers 47 = .ok (.iconst 0, 1) := by decide +kernel
theorem dX4_forgetOthers_48 : decode cX4_forgetOthers 48 = .ok (.invokestatic 76, 3) := by decide +kernel
theorem dX4_forgetOthers_51 : decode cX4_forgetOthers 51 = .ok (.return_, 1) := by decide +kernel
theorem dX4_see_0 : decode cX4_see 0 = .ok (.aload_n 1, 1) := by decide +kernel
theorem dX4_see_1 : decode cX4_see 1 = .ok (.getfield 56, 3) := by decide +kernel
theorem dX4_see_4 : decode cX4_see 4 = .ok (.astore_n 2, 1) := by decide +kernel
theorem dX4_see_5 : decode cX4_see 5 = .ok (.aload_n 1, 1) := by decide +kernel
theorem dX4_see_6 : decode cX4_see 6 = .ok (.aload_n 0, 1) := by decide +kernel
theorem dX4_see_7 : decode cX4_see 7 = .ok (.if_acmp .eq 7, 3) := by decide +kernel
theorem dX4_see_10 : decode cX4_see 10 = .ok (.aload_n 2, 1) := by decide +kernel
theorem dX4_see_11 : decode cX4_see 11 = .ok (.ifnonnull 4, 3) := by decide +kernel
theorem dX4_see_14 : decode cX4_see 14 = .ok (.return_, 1) := by decide +kernel
theorem dX4_see_15 : decode cX4_see 15 = .ok (.aload_n 1, 1) := by decide +kernel
theorem dX4_see_16 : decode cX4_see 16 = .ok (.aload_n 1, 1) := by decide +kernel
theorem dX4_see_17 : decode cX4_see 17 = .ok (.getfield 9, 3) := by decide +kernel
theorem dX4_see_20 : decode cX4_see 20 = .ok (.invokevirtual 63, 3) := by decide +kernel
theorem dX4_see_23 : decode cX4_see 23 = .ok (.istore_n 3, 1) := by decide +kernel
theorem dX4_see_24 : decode cX4_see 24 = .ok (.iload_n 3, 1) := by decide +kernel
theorem dX4_see_25 : decode cX4_see 25 = .ok (.aload_n 0, 1) := by decide +kernel
theorem dX4_see_26 : decode cX4_see 26 = .ok (.getfield 42, 3) := by decide +kernel
theorem dX4_see_29 : decode cX4_see 29 = .ok (.invokestatic 49, 3) := by decide +kernel
theorem dX4_see_32 : decode cX4_see 32 = .ok (.istore 4, 2) := by decide +kernel
theorem dX4_see_34 : decode cX4_see 34 = .ok (.aload_n 0, 1) := by decide +kernel
theorem dX4_see_35 : decode cX4_see 35 = .ok (.getfield 19, 3) := by decide +kernel
theorem dX4_see_38 : decode cX4_see 38 = .ok (.aload_n 2, 1) := by decide +kernel
theorem dX4_see_39 : decode cX4_see 39 = .ok (.getfield 60, 3) := by decide +kernel
theorem dX4_see_42 : decode cX4_see 42 = .ok (.iload 4, 2) := by decide +kernel
theorem dX4_see_44 : decode cX4_see 44 = .ok (.invokestatic 85, 3) := by decide +kernel
theorem dX4_see_47 : decode cX4_see 47 = .ok (.aload_n 1, 1) := by decide +kernel
theorem dX4_see_48 : decode cX4_see 48 = .ok (.getfield 35, 3) := by decide +kernel
theorem dX4_see_51 : decode cX4_see 51 = .ok (.aload_n 0, 1) := by decide +kernel
theorem dX4_see_52 : decode cX4_see 52 = .ok (.getfield 35, 3) := by decide +kernel
theorem dX4_see_55 : decode cX4_see 55 = .ok (.if_acmp .ne 14, 3) := by decide +kernel
theorem dX4_see_58 : decode cX4_see 58 = .ok (.aload_n 0, 1) := by decide +kernel
theorem dX4_see_59 : decode cX4_see 59 = .ok (.dup, 1) := by decide +kernel
theorem dX4_see_60 : decode cX4_see 60 = .ok (.getfield 70, 3) := by decide +kernel
theorem dX4_see_63 : decode cX4_see 63 = .ok (.iload 4, 2) := by decide +kernel
theorem dX4_see_65 : decode cX4_see 65 = .ok (.ior, 1) := by decide +kernel
theorem dX4_see_66 : decode cX4_see 66 = .ok (.putfield 70, 3) := by decide +kernel
theorem dX4_see_69 : decode cX4_see 69 = .ok (.aload_n 1, 1) := by decide +kernel
theorem dX4_see_70 : decode cX4_see 70 = .ok (.getfield 31, 3) := by decide +kernel
theorem dX4_see_73 : decode cX4_see 73 = .ok (.aload_n 0, 1) := by decide +kernel
theorem dX4_see_74 : decode cX4_see 74 = .ok (.getfield 31, 3) := by decide +kernel
theorem dX4_see_77 : decode cX4_see 77 = .ok (.if_acmp .ne 29, 3) := by decide +kernel
theorem dX4_see_80 : decode cX4_see 80 = .ok (.aload_n 0, 1) := by decide +kernel
theorem dX4_see_81 : decode cX4_see 81 = .ok (.dup, 1) := by decide +kernel
theorem dX4_see_82 : decode cX4_see 82 = .ok (.getfield 73, 3) := by decide +kernel
theorem dX4_see_85 : decode cX4_see 85 = .ok (.iload 4, 2) := by decide +kernel
theorem dX4_see_87 : decode cX4_see 87 = .ok (.ior, 1) := by decide +kernel
theorem dX4_see_88 : decode cX4_see 88 = .ok (.putfield 73, 3) := by decide +kernel
theorem dX4_see_91 : decode cX4_see 91 = .ok (.aload_n 0, 1) := by decide +kernel
theorem dX4_see_92 : decode cX4_see 92 = .ok (.dup, 1) := by decide +kernel
theorem dX4_see_93 : decode cX4_see 93 = .ok (.getfield 82, 3) := by decide +kernel
theorem dX4_see_96 : decode cX4_see 96 = .ok (.iload_n 3, 1) := by decide +kernel
theorem dX4_see_97 : decode cX4_see 97 = .ok (.ior, 1) := by decide +kernel
theorem dX4_see_98 : decode cX4_see 98 = .ok (.putfield 82, 3) := by decide +kernel
theorem dX4_see_101 : decode cX4_see 101 = .ok (.aload_n 0, 1) := by decide +kernel
theorem dX4_see_102 : decode cX4_see 102 = .ok (.aload_n 1, 1) := by decide +kernel
theorem dX4_see_103 : decode cX4_see 103 = .ok (.invokevirtual 89, 3) := by decide +kernel
theorem dX4_see_106 : decode cX4_see 106 = .ok (.aload_n 1, 1) := by decide +kernel
theorem dX4_see_107 : decode cX4_see 107 = .ok (.getfield 35, 3) := by decide +kernel
theorem dX4_see_110 : decode cX4_see 110 = .ok (.aload_n 0, 1) := by decide +kernel
theorem dX4_see_111 : decode cX4_see 111 = .ok (.getfield 35, 3) := by decide +kernel
theorem dX4_see_114 : decode cX4_see 114 = .ok (.if_acmp .eq 14, 3) := by decide +kernel
theorem dX4_see_117 : decode cX4_see 117 = .ok (.aload_n 1, 1) := by decide +kernel
theorem dX4_see_118 : decode cX4_see 118 = .ok (.getfield 31, 3) := by decide +kernel
theorem dX4_see_121 : decode cX4_see 121 = .ok (.aload_n 0, 1) := by decide +kernel
theorem dX4_see_122 : decode cX4_see 122 = .ok (.getfield 31, 3) := by decide +kernel
theorem dX4_see_125 : decode cX4_see 125 = .ok (.if_acmp .ne 16, 3) := by decide +kernel
theorem dX4_see_128 : decode cX4_see 128 = .ok (.aload_n 0, 1) := by decide +kernel
theorem dX4_see_129 : decode cX4_see 129 = .ok (.aload_n 2, 1) := by decide +kernel
theorem dX4_see_130 : decode cX4_see 130 = .ok (.getfield 93, 3) := by decide +kernel
theorem dX4_see_133 : decode cX4_see 133 = .ok (.aload_n 0, 1) := by decide +kernel
theorem dX4_see_134 : decode cX4_see 134 = .ok (.aload_n 1, 1) := by decide +kernel
theorem dX4_see_135 : decode cX4_see 135 = .ok (.invokevirtual 96, 3) := by decide +kernel
theorem dX4_see_138 : decode cX4_see 138 = .ok (.invokevirtual 100, 3) := by decide +kernel
theorem dX4_see_141 : decode cX4_see 141 = .ok (.return_, 1) := by decide +kernel
theorem dX4_countMate_0 : decode cX4_countMate 0 = .ok (.aload_n 1, 1) := by decide +kernel
theorem dX4_countMate_1 : decode cX4_countMate 1 = .ok (.getfield 9, 3) := by decide +kernel
theorem dX4_countMate_4 : decode cX4_countMate 4 = .ok (.bipush 6, 2) := by decide +kernel
theorem dX4_countMate_6 : decode cX4_countMate 6 = .ok (.idiv, 1) := by decide +kernel
theorem dX4_countMate_7 : decode cX4_countMate 7 = .ok (.istore_n 2, 1) := by decide +kernel
theorem dX4_countMate_8 : decode cX4_countMate 8 = .ok (.aload_n 1, 1) := by decide +kernel
theorem dX4_countMate_9 : decode cX4_countMate 9 = .ok (.getfield 45, 3) := by decide +kernel
theorem dX4_countMate_12 : decode cX4_countMate 12 = .ok (.aload_n 0, 1) := by decide +kernel
theorem dX4_countMate_13 : decode cX4_countMate 13 = .ok (.getfield 45, 3) := by decide +kernel
theorem dX4_countMate_16 : decode cX4_countMate 16 = .ok (.if_icmp .ne 26, 3) := by decide +kernel
theorem dX4_countMate_19 : decode cX4_countMate 19 = .ok (.iload_n 2, 1) := by decide +kernel
theorem dX4_countMate_20 : decode cX4_countMate 20 = .ok (.ifCond .lt 22, 3) := by decide +kernel
theorem dX4_countMate_23 : decode cX4_countMate 23 = .ok (.iload_n 2, 1) := by decide +kernel
theorem dX4_countMate_24 : decode cX4_countMate 24 = .ok (.aload_n 0, 1) := by decide +kernel
theorem dX4_countMate_25 : decode cX4_countMate 25 = .ok (.getfield 25, 3) := by decide +kernel
theorem dX4_countMate_28 : decode cX4_countMate 28 = .ok (.arraylength, 1) := by decide +kernel
theorem dX4_countMate_29 : decode cX4_countMate 29 = .ok (.if_icmp .ge 13, 3) := by decide +kernel
theorem dX4_countMate_32 : decode cX4_countMate 32 = .ok (.aload_n 0, 1) := by decide +kernel
theorem dX4_countMate_33 : decode cX4_countMate 33 = .ok (.getfield 25, 3) := by decide +kernel
theorem dX4_countMate_36 : decode cX4_countMate 36 = .ok (.iload_n 2, 1) := by decide +kernel
theorem dX4_countMate_37 : decode cX4_countMate 37 = .ok (.dup2, 1) := by decide +kernel
theorem dX4_countMate_38 : decode cX4_countMate 38 = .ok (.iaload, 1) := by decide +kernel
theorem dX4_countMate_39 : decode cX4_countMate 39 = .ok (.iconst 1, 1) := by decide +kernel
theorem dX4_countMate_40 : decode cX4_countMate 40 = .ok (.iadd, 1) := by decide +kernel
theorem dX4_countMate_41 : decode cX4_countMate 41 = .ok (.iastore, 1) := by decide +kernel
theorem dX4_countMate_42 : decode cX4_countMate 42 = .ok (.return_, 1) := by decide +kernel
theorem dX4_slotsTouching_0 : decode cX4_slotsTouching 0 = .ok (.aload_n 1, 1) := by decide +kernel
theorem dX4_slotsTouching_1 : decode cX4_slotsTouching 1 = .ok (.getfield 9, 3) := by decide +kernel
theorem dX4_slotsTouching_4 : decode cX4_slotsTouching 4 = .ok (.bipush 6, 2) := by decide +kernel
theorem dX4_slotsTouching_6 : decode cX4_slotsTouching 6 = .ok (.irem, 1) := by decide +kernel
theorem dX4_slotsTouching_7 : decode cX4_slotsTouching 7 = .ok (.istore_n 2, 1) := by decide +kernel
theorem dX4_slotsTouching_8 : decode cX4_slotsTouching 8 = .ok (.iload_n 2, 1) := by decide +kernel
theorem dX4_slotsTouching_9 : decode cX4_slotsTouching 9 = .ok (.aload_n 1, 1) := by decide +kernel
theorem dX4_slotsTouching_10 : decode cX4_slotsTouching 10 = .ok (.getfield 42, 3) := by decide +kernel
theorem dX4_slotsTouching_13 : decode cX4_slotsTouching 13 = .ok (.iadd, 1) := by decide +kernel
theorem dX4_slotsTouching_14 : decode cX4_slotsTouching 14 = .ok (.bipush 6, 2) := by decide +kernel
theorem dX4_slotsTouching_16 : decode cX4_slotsTouching 16 = .ok (.if_icmp .ge 17, 3) := by decide +kernel
theorem dX4_slotsTouching_19 : decode cX4_slotsTouching 19 = .ok (.iconst 1, 1) := by decide +kernel
theorem dX4_slotsTouching_20 : decode cX4_slotsTouching 20 = .ok (.aload_n 1, 1) := by decide +kernel
theorem dX4_slotsTouching_21 : decode cX4_slotsTouching 21 = .ok (.getfield 9, 3) := by decide +kernel
theorem dX4_slotsTouching_24 : decode cX4_slotsTouching 24 = .ok (.aload_n 1, 1) := by decide +kernel
theorem dX4_slotsTouching_25 : decode cX4_slotsTouching 25 = .ok (.getfield 42, 3) := by decide +kernel
theorem dX4_slotsTouching_28 : decode cX4_slotsTouching 28 = .ok (.iadd, 1) := by decide +kernel
theorem dX4_slotsTouching_29 : decode cX4_slotsTouching 29 = .ok (.ishl, 1) := by decide +kernel
theorem dX4_slotsTouching_30 : decode cX4_slotsTouching 30 = .ok (.goto 4, 3) := by decide +kernel
theorem dX4_slotsTouching_33 : decode cX4_slotsTouching 33 = .ok (.iconst 0, 1) := by decide +kernel
theorem dX4_slotsTouching_34 : decode cX4_slotsTouching 34 = .ok (.istore_n 3, 1) := by decide +kernel
theorem dX4_slotsTouching_35 : decode cX4_slotsTouching 35 = .ok (.iload_n 2, 1) := by decide +kernel
theorem dX4_slotsTouching_36 : decode cX4_slotsTouching 36 = .ok (.aload_n 0, 1) := by decide +kernel
theorem dX4_slotsTouching_37 : decode cX4_slotsTouching 37 = .ok (.getfield 42, 3) := by decide +kernel
theorem dX4_slotsTouching_40 : decode cX4_slotsTouching 40 = .ok (.if_icmp .lt 17, 3) := by decide +kernel
theorem dX4_slotsTouching_43 : decode cX4_slotsTouching 43 = .ok (.iconst 1, 1) := by decide +kernel
theorem dX4_slotsTouching_44 : decode cX4_slotsTouching 44 = .ok (.aload_n 1, 1) := by decide +kernel
theorem dX4_slotsTouching_45 : decode cX4_slotsTouching 45 = .ok (.getfield 9, 3) := by decide +kernel
theorem dX4_slotsTouching_48 : decode cX4_slotsTouching 48 = .ok (.aload_n 0, 1) := by decide +kernel
theorem dX4_slotsTouching_49 : decode cX4_slotsTouching 49 = .ok (.getfield 42, 3) := by decide +kernel
theorem dX4_slotsTouching_52 : decode cX4_slotsTouching 52 = .ok (.isub, 1) := by decide +kernel
theorem dX4_slotsTouching_53 : decode cX4_slotsTouching 53 = .ok (.ishl, 1) := by decide +kernel
theorem dX4_slotsTouching_54 : decode cX4_slotsTouching 54 = .ok (.goto 4, 3) := by decide +kernel
theorem dX4_slotsTouching_57 : decode cX4_slotsTouching 57 = .ok (.iconst 0, 1) := by decide +kernel
theorem dX4_slotsTouching_58 : decode cX4_slotsTouching 58 = .ok (.istore 4, 2) := by decide +kernel
theorem dX4_slotsTouching_60 : decode cX4_slotsTouching 60 = .ok (.iload_n 3, 1) := by decide +kernel
theorem dX4_slotsTouching_61 : decode cX4_slotsTouching 61 = .ok (.iload 4, 2) := by decide +kernel
theorem dX4_slotsTouching_63 : decode cX4_slotsTouching 63 = .ok (.ior, 1) := by decide +kernel
theorem dX4_slotsTouching_64 : decode cX4_slotsTouching 64 = .ok (.ireturn, 1) := by decide +kernel
theorem dX4_addWay_0 : decode cX4_addWay 0 = .ok (.iconst 0, 1) := by decide +kernel
theorem dX4_addWay_1 : decode cX4_addWay 1 = .ok (.istore_n 3, 1) := by decide +kernel
theorem dX4_addWay_2 : decode cX4_addWay 2 = .ok (.iload_n 3, 1) := by decide +kernel
theorem dX4_addWay_3 : decode cX4_addWay 3 = .ok (.aload_n 0, 1) := by decide +kernel
theorem dX4_addWay_4 : decode cX4_addWay 4 = .ok (.getfield 22, 3) := by decide +kernel
theorem dX4_addWay_7 : decode cX4_addWay 7 = .ok (.arraylength, 1) := by decide +kernel
theorem dX4_addWay_8 : decode cX4_addWay 8 = .ok (.if_icmp .ge 28, 3) := by decide +kernel
theorem dX4_addWay_11 : decode cX4_addWay 11 = .ok (.aload_n 0, 1) := by decide +kernel
theorem dX4_addWay_12 : decode cX4_addWay 12 = .ok (.getfield 22, 3) := by decide +kernel
theorem dX4_addWay_15 : decode cX4_addWay 15 = .ok (.iload_n 3, 1) := by decide +kernel
theorem dX4_addWay_16 : decode cX4_addWay 16 = .ok (.dup2, 1) := by decide +kernel
theorem dX4_addWay_17 : decode cX4_addWay 17 = .ok (.iaload, 1) := by decide +kernel
theorem dX4_addWay_18 : decode cX4_addWay 18 = .ok (.iload_n 3, 1) := by decide +kernel
theorem dX4_addWay_19 : decode cX4_addWay 19 = .ok (.iload_n 1, 1) := by decide +kernel
theorem dX4_addWay_20 : decode cX4_addWay 20 = .ok (.if_icmp .ne 7, 3) := by decide +kernel
theorem dX4_addWay_23 : decode cX4_addWay 23 = .ok (.iconst 0, 1) := by decide +kernel
theorem dX4_addWay_24 : decode cX4_addWay 24 = .ok (.goto 4, 3) := by decide +kernel
theorem dX4_addWay_27 : decode cX4_addWay 27 = .ok (.iload_n 2, 1) := by decide +kernel
theorem dX4_addWay_28 : decode cX4_addWay 28 = .ok (.ior, 1) := by decide +kernel
theorem dX4_addWay_29 : decode cX4_addWay 29 = .ok (.iastore, 1) := by decide +kernel
theorem dX4_addWay_30 : decode cX4_addWay 30 = .ok (.iinc 3 1, 3) := by decide +kernel
theorem dX4_addWay_33 : decode cX4_addWay 33 = .ok (.goto (-31), 3) := by decide +kernel
theorem dX4_addWay_36 : decode cX4_addWay 36 = .ok (.return_, 1) := by decide +kernel
theorem dX4_barredBy_0 : decode cX4_barredBy 0 = .ok (.iload_n 1, 1) := by decide +kernel
theorem dX4_barredBy_1 : decode cX4_barredBy 1 = .ok (.tableswitch 160 0 9 #[55, 60, 65, 73, 91, 112, 126, 138, 143, 148], 55) := by decide +kernel
theorem dX4_barredBy_56 : decode cX4_barredBy 56 = .ok (.aload_n 0, 1) := by decide +kernel
theorem dX4_barredBy_57 : decode cX4_barredBy 57 = .ok (.getfield 53, 3) := by decide +kernel
theorem dX4_barredBy_60 : decode cX4_barredBy 60 = .ok (.ireturn, 1) := by decide +kernel
theorem dX4_barredBy_61 : decode cX4_barredBy 61 = .ok (.aload_n 0, 1) := by decide +kernel
theorem dX4_barredBy_62 : decode cX4_barredBy 62 = .ok (.getfield 67, 3) := by decide +kernel
theorem dX4_barredBy_65 : decode cX4_barredBy 65 = .ok (.ireturn, 1) := by decide +kernel
theorem dX4_barredBy_66 : decode cX4_barredBy 66 = .ok (.aload_n 0, 1) := by decide +kernel
theorem dX4_barredBy_67 : decode cX4_barredBy 67 = .ok (.getfield 35, 3) := by decide +kernel
theorem dX4_barredBy_70 : decode cX4_barredBy 70 = .ok (.getfield 104, 3) := by decide +kernel
theorem dX4_barredBy_73 : decode cX4_barredBy 73 = .ok (.ireturn, 1) := by decide +kernel
theorem dX4_barredBy_74 : decode cX4_barredBy 74 = .ok (.aload_n 2, 1) := by decide +kernel
theorem dX4_barredBy_75 : decode cX4_barredBy 75 = .ok (.getfield 109, 3) := by decide +kernel
theorem dX4_barredBy_78 : decode cX4_barredBy 78 = .ok (.aload_n 0, 1) := by decide +kernel
theorem dX4_barredBy_79 : decode cX4_barredBy 79 = .ok (.getfield 39, 3) := by decide +kernel
theorem dX4_barredBy_82 : decode cX4_barredBy 82 = .ok (.if_icmp .eq 8, 3) := by decide +kernel
theorem dX4_barredBy_85 : decode cX4_barredBy 85 = .ok (.ldc 110, 2) := by decide +kernel
theorem dX4_barredBy_87 : decode cX4_barredBy 87 = .ok (.goto 4, 3) := by decide +kernel
theorem dX4_barredBy_90 : decode cX4_barredBy 90 = .ok (.iconst 0, 1) := by decide +kernel
theorem dX4_barredBy_91 : decode cX4_barredBy 91 = .ok (.ireturn, 1) := by decide +kernel
theorem dX4_barredBy_92 : decode cX4_barredBy 92 = .ok (.aload_n 2, 1) := by decide +kernel
theorem dX4_barredBy_93 : decode cX4_barredBy 93 = .ok (.getfield 111, 3) := by decide +kernel
theorem dX4_barredBy_96 : decode cX4_barredBy 96 = .ok (.aload_n 0, 1) := by decide +kernel
theorem dX4_barredBy_97 : decode cX4_barredBy 97 = .ok (.getfield 31, 3) := by decide +kernel
theorem dX4_barredBy_100 : decode cX4_barredBy 100 = .ok (.getfield 114, 3) := by decide +kernel
theorem dX4_barredBy_103 : decode cX4_barredBy 103 = .ok (.if_icmp .ge 8, 3) := by decide +kernel
theorem dX4_barredBy_106 : decode cX4_barredBy 106 = .ok (.ldc 110, 2) := by decide +kernel
theorem dX4_barredBy_108 : decode cX4_barredBy 108 = .ok (.goto 4, 3) := by decide +kernel
theorem dX4_barredBy_111 : decode cX4_barredBy 111 = .ok (.iconst 0, 1) := by decide +kernel
theorem dX4_barredBy_112 : decode cX4_barredBy 112 = .ok (.ireturn, 1) := by decide +kernel
theorem dX4_barredBy_113 : decode cX4_barredBy 113 = .ok (.aload_n 2, 1) := by decide +kernel
theorem dX4_barredBy_114 : decode cX4_barredBy 114 = .ok (.getfield 119, 3) := by decide +kernel
theorem dX4_barredBy_117 : decode cX4_barredBy 117 = .ok (.ifCond .eq 7, 3) := by decide +kernel
theorem dX4_barredBy_120 : decode cX4_barredBy 120 = .ok (.iconst 0, 1) := by decide +kernel
theorem dX4_barredBy_121 : decode cX4_barredBy 121 = .ok (.goto 5, 3) := by decide +kernel
theorem dX4_barredBy_124 : decode cX4_barredBy 124 = .ok (.ldc 110, 2) := by decide +kernel
theorem dX4_barredBy_126 : decode cX4_barredBy 126 = .ok (.ireturn, 1) := by decide +kernel
theorem dX4_barredBy_127 : decode cX4_barredBy 127 = .ok (.aload_n 0, 1) := by decide +kernel
theorem dX4_barredBy_128 : decode cX4_barredBy 128 = .ok (.getfield 19, 3) := by decide +kernel
theorem dX4_barredBy_131 : decode cX4_barredBy 131 = .ok (.aload_n 2, 1) := by decide +kernel
theorem dX4_barredBy_132 : decode cX4_barredBy 132 = .ok (.getfield 60, 3) := by decide +kernel
theorem dX4_barredBy_135 : decode cX4_barredBy 135 = .ok (.invokestatic 123, 3) := by decide +kernel
theorem dX4_barredBy_138 : decode cX4_barredBy 138 = .ok (.ireturn, 1) := by decide +kernel
theorem dX4_barredBy_139 : decode cX4_barredBy 139 = .ok (.aload_n 0, 1) := by decide +kernel
theorem dX4_barredBy_140 : decode cX4_barredBy 140 = .ok (.getfield 70, 3) := by decide +kernel
theorem dX4_barredBy_143 : decode cX4_barredBy 143 = .ok (.ireturn, 1) := by decide +kernel
theorem dX4_barredBy_144 : decode cX4_barredBy 144 = .ok (.aload_n 0, 1) := by decide +kernel
theorem dX4_barredBy_145 : decode cX4_barredBy 145 = .ok (.getfield 73, 3) := by decide +kernel
theorem dX4_barredBy_148 : decode cX4_barredBy 148 = .ok (.ireturn, 1) := by decide +kernel
theorem dX4_barredBy_149 : decode cX4_barredBy 149 = .ok (.aload_n 0, 1) := by decide +kernel
theorem dX4_barredBy_150 : decode cX4_barredBy 150 = .ok (.getfield 22, 3) := by decide +kernel
theorem dX4_barredBy_153 : decode cX4_barredBy 153 = .ok (.aload_n 2, 1) := by decide +kernel
theorem dX4_barredBy_154 : decode cX4_barredBy 154 = .ok (.getfield 93, 3) := by decide +kernel
theorem dX4_barredBy_157 : decode cX4_barredBy 157 = .ok (.invokestatic 123, 3) := by decide +kernel
theorem dX4_barredBy_160 : decode cX4_barredBy 160 = .ok (.ireturn, 1) := by decide +kernel
theorem dX4_barredBy_161 : decode cX4_barredBy 161 = .ok (.iconst 0, 1) := by decide +kernel
theorem dX4_barredBy_162 : decode cX4_barredBy 162 = .ok (.ireturn, 1) := by decide +kernel
theorem dX4_barredByOneOf_0 : decode cX4_barredByOneOf 0 = .ok (.iconst 0, 1) := by decide +kernel
theorem dX4_barredByOneOf_1 : decode cX4_barredByOneOf 1 = .ok (.istore 4, 2) := by decide +kernel
theorem dX4_barredByOneOf_3 : decode cX4_barredByOneOf 3 = .ok (.iload_n 1, 1) := by decide +kernel
theorem dX4_barredByOneOf_4 : decode cX4_barredByOneOf 4 = .ok (.istore 5, 2) := by decide +kernel
theorem dX4_barredByOneOf_6 : decode cX4_barredByOneOf 6 = .ok (.iload 5, 2) := by decide +kernel
theorem dX4_barredByOneOf_8 : decode cX4_barredByOneOf 8 = .ok (.iload_n 2, 1) := by decide +kernel
theorem dX4_barredByOneOf_9 : decode cX4_barredByOneOf 9 = .ok (.if_icmp .ge 21, 3) := by decide +kernel
theorem dX4_barredByOneOf_12 : decode cX4_barredByOneOf 12 = .ok (.iload 4, 2) := by decide +kernel
theorem dX4_barredByOneOf_14 : decode cX4_barredByOneOf 14 = .ok (.aload_n 0, 1) := by decide +kernel
theorem dX4_barredByOneOf_15 : decode cX4_barredByOneOf 15 = .ok (.iload 5, 2) := by decide +kernel
theorem dX4_barredByOneOf_17 : decode cX4_barredByOneOf 17 = .ok (.aload_n 3, 1) := by decide +kernel
theorem dX4_barredByOneOf_18 : decode cX4_barredByOneOf 18 = .ok (.invokevirtual 127, 3) := by decide +kernel
theorem dX4_barredByOneOf_21 : decode cX4_barredByOneOf 21 = .ok (.ior, 1) := by decide +kernel
theorem dX4_barredByOneOf_22 : decode cX4_barredByOneOf 22 = .ok (.istore 4, 2) := by decide +kernel
theorem dX4_barredByOneOf_24 : decode cX4_barredByOneOf 24 = .ok (.iinc 5 1, 3) := by decide +kernel
theorem dX4_barredByOneOf_27 : decode cX4_barredByOneOf 27 = .ok (.goto (-21), 3) := by decide +kernel
theorem dX4_barredByOneOf_30 : decode cX4_barredByOneOf 30 = .ok (.iload 4, 2) := by decide +kernel
theorem dX4_barredByOneOf_32 : decode cX4_barredByOneOf 32 = .ok (.ireturn, 1) := by decide +kernel
theorem dX4_lettersAt_0 : decode cX4_lettersAt 0 = .ok (.iconst 0, 1) := by decide +kernel
theorem dX4_lettersAt_1 : decode cX4_lettersAt 1 = .ok (.istore_n 3, 1) := by decide +kernel
theorem dX4_lettersAt_2 : decode cX4_lettersAt 2 = .ok (.iconst 0, 1) := by decide +kernel
theorem dX4_lettersAt_3 : decode cX4_lettersAt 3 = .ok (.istore 4, 2) := by decide +kernel
theorem dX4_lettersAt_5 : decode cX4_lettersAt 5 = .ok (.iload 4, 2) := by decide +kernel
theorem dX4_lettersAt_7 : decode cX4_lettersAt 7 = .ok (.ldc 131, 2) := by decide +kernel
theorem dX4_lettersAt_9 : decode cX4_lettersAt 9 = .ok (.invokevirtual 133, 3) := by decide +kernel
theorem dX4_lettersAt_12 : decode cX4_lettersAt 12 = .ok (.if_icmp .ge 34, 3) := by decide +kernel
theorem dX4_lettersAt_15 : decode cX4_lettersAt 15 = .ok (.iload_n 3, 1) := by decide +kernel
theorem dX4_lettersAt_16 : decode cX4_lettersAt 16 = .ok (.aload_n 0, 1) := by decide +kernel
theorem dX4_lettersAt_17 : decode cX4_lettersAt 17 = .ok (.iload 4, 2) := by decide +kernel
theorem dX4_lettersAt_19 : decode cX4_lettersAt 19 = .ok (.aload_n 2, 1) := by decide +kernel
theorem dX4_lettersAt_20 : decode cX4_lettersAt 20 = .ok (.invokevirtual 127, 3) := by decide +kernel
theorem dX4_lettersAt_23 : decode cX4_lettersAt 23 = .ok (.iload_n 1, 1) := by decide +kernel
theorem dX4_lettersAt_24 : decode cX4_lettersAt 24 = .ok (.invokestatic 138, 3) := by decide +kernel
theorem dX4_lettersAt_27 : decode cX4_lettersAt 27 = .ok (.ifCond .eq 10, 3) := by decide +kernel
theorem dX4_lettersAt_30 : decode cX4_lettersAt 30 = .ok (.iconst 1, 1) := by decide +kernel
theorem dX4_lettersAt_31 : decode cX4_lettersAt 31 = .ok (.iload 4, 2) := by decide +kernel
theorem dX4_lettersAt_33 : decode cX4_lettersAt 33 = .ok (.ishl, 1) := by decide +kernel
theorem dX4_lettersAt_34 : decode cX4_lettersAt 34 = .ok (.goto 4, 3) := by decide +kernel
theorem dX4_lettersAt_37 : decode cX4_lettersAt 37 = .ok (.iconst 0, 1) := by decide +kernel
theorem dX4_lettersAt_38 : decode cX4_lettersAt 38 = .ok (.ior, 1) := by decide +kernel
theorem dX4_lettersAt_39 : decode cX4_lettersAt 39 = .ok (.istore_n 3, 1) := by decide +kernel
theorem dX4_lettersAt_40 : decode cX4_lettersAt 40 = .ok (.iinc 4 1, 3) := by decide +kernel
theorem dX4_lettersAt_43 : decode cX4_lettersAt 43 = .ok (.goto (-38), 3) := by decide +kernel
theorem dX4_lettersAt_46 : decode cX4_lettersAt 46 = .ok (.iload_n 3, 1) := by decide +kernel
theorem dX4_lettersAt_47 : decode cX4_lettersAt 47 = .ok (.ireturn, 1) := by decide +kernel
theorem dX4_findPossibleSlots_0 : decode cX4_findPossibleSlots 0 = .ok (.aload_n 0, 1) := by decide +kernel
theorem dX4_findPossibleSlots_1 : decode cX4_findPossibleSlots 1 = .ok (.getfield 15, 3) := by decide +kernel
theorem dX4_findPossibleSlots_4 : decode cX4_findPossibleSlots 4 = .ok (.iconst 0, 1) := by decide +kernel
theorem dX4_findPossibleSlots_5 : decode cX4_findPossibleSlots 5 = .ok (.invokestatic 76, 3) := by decide +kernel
theorem dX4_findPossibleSlots_8 : decode cX4_findPossibleSlots 8 = .ok (.iconst 0, 1) := by decide +kernel
theorem dX4_findPossibleSlots_9 : decode cX4_findPossibleSlots 9 = .ok (.istore_n 2, 1) := by decide +kernel
theorem dX4_findPossibleSlots_10 : decode cX4_findPossibleSlots 10 = .ok (.iload_n 2, 1) := by decide +kernel
theorem dX4_findPossibleSlots_11 : decode cX4_findPossibleSlots 11 = .ok (.aload_n 1, 1) := by decide +kernel
theorem dX4_findPossibleSlots_12 : decode cX4_findPossibleSlots 12 = .ok (.invokevirtual 142, 3) := by decide +kernel
theorem dX4_findPossibleSlots_15 : decode cX4_findPossibleSlots 15 = .ok (.if_icmp .ge 67, 3) := by decide +kernel
theorem dX4_findPossibleSlots_18 : decode cX4_findPossibleSlots 18 = .ok (.iload_n 2, 1) := by decide +kernel
theorem dX4_findPossibleSlots_19 : decode cX4_findPossibleSlots 19 = .ok (.aload_n 0, 1) := by decide +kernel
theorem dX4_findPossibleSlots_20 : decode cX4_findPossibleSlots 20 = .ok (.getfield 15, 3) := by decide +kernel
theorem dX4_findPossibleSlots_23 : decode cX4_findPossibleSlots 23 = .ok (.arraylength, 1) := by decide +kernel
theorem dX4_findPossibleSlots_24 : decode cX4_findPossibleSlots 24 = .ok (.if_icmp .ge 58, 3) := by decide +kernel
theorem dX4_findPossibleSlots_27 : decode cX4_findPossibleSlots 27 = .ok (.aload_n 0, 1) := by decide +kernel
theorem dX4_findPossibleSlots_28 : decode cX4_findPossibleSlots 28 = .ok (.getfield 15, 3) := by decide +kernel
theorem dX4_findPossibleSlots_31 : decode cX4_findPossibleSlots 31 = .ok (.iload_n 2, 1) := by decide +kernel
theorem dX4_findPossibleSlots_32 : decode cX4_findPossibleSlots 32 = .ok (.ldc 110, 2) := by decide +kernel
theorem dX4_findPossibleSlots_34 : decode cX4_findPossibleSlots 34 = .ok (.iastore, 1) := by decide +kernel
theorem dX4_findPossibleSlots_35 : decode cX4_findPossibleSlots 35 = .ok (.iconst 0, 1) := by decide +kernel
theorem dX4_findPossibleSlots_36 : decode cX4_findPossibleSlots 36 = .ok (.istore_n 3, 1) := by decide +kernel
theorem dX4_findPossibleSlots_37 : decode cX4_findPossibleSlots 37 = .ok (.iload_n 3, 1) := by decide +kernel
theorem dX4_findPossibleSlots_38 : decode cX4_findPossibleSlots 38 = .ok (.ldc 131, 2) := by decide +kernel
theorem dX4_findPossibleSlots_40 : decode cX4_findPossibleSlots 40 = .ok (.invokevirtual 133, 3) := by decide +kernel
theorem dX4_findPossibleSlots_43 : decode cX4_findPossibleSlots 43 = .ok (.if_icmp .ge 33, 3) := by decide +kernel
theorem dX4_findPossibleSlots_46 : decode cX4_findPossibleSlots 46 = .ok (.aload_n 0, 1) := by decide +kernel
theorem dX4_findPossibleSlots_47 : decode cX4_findPossibleSlots 47 = .ok (.getfield 15, 3) := by decide +kernel
theorem dX4_findPossibleSlots_50 : decode cX4_findPossibleSlots 50 = .ok (.iload_n 2, 1) := by decide +kernel
theorem dX4_findPossibleSlots_51 : decode cX4_findPossibleSlots 51 = .ok (.dup2, 1) := by decide +kernel
theorem dX4_findPossibleSlots_52 : decode cX4_findPossibleSlots 52 = .ok (.iaload, 1) := by decide +kernel
theorem dX4_findPossibleSlots_53 : decode cX4_findPossibleSlots 53 = .ok (.aload_n 0, 1) := by decide +kernel
theorem dX4_findPossibleSlots_54 : decode cX4_findPossibleSlots 54 = .ok (.iload_n 3, 1) := by decide +kernel
theorem dX4_findPossibleSlots_55 : decode cX4_findPossibleSlots 55 = .ok (.aload_n 1, 1) := by decide +kernel
theorem dX4_findPossibleSlots_56 : decode cX4_findPossibleSlots 56 = .ok (.iload_n 2, 1) := by decide +kernel
theorem dX4_findPossibleSlots_57 : decode cX4_findPossibleSlots 57 = .ok (.invokevirtual 147, 3) := by decide +kernel
theorem dX4_findPossibleSlots_60 : decode cX4_findPossibleSlots 60 = .ok (.checkcast 61, 3) := by decide +kernel
theorem dX4_findPossibleSlots_63 : decode cX4_findPossibleSlots 63 = .ok (.invokevirtual 127, 3) := by decide +kernel
theorem dX4_findPossibleSlots_66 : decode cX4_findPossibleSlots 66 = .ok (.iconst (-1), 1) := by decide +kernel
theorem dX4_findPossibleSlots_67 : decode cX4_findPossibleSlots 67 = .ok (.ixor, 1) := by decide +kernel
theorem dX4_findPossibleSlots_68 : decode cX4_findPossibleSlots 68 = .ok (.iand, 1) := by decide +kernel
theorem dX4_findPossibleSlots_69 : decode cX4_findPossibleSlots 69 = .ok (.iastore, 1) := by decide +kernel
theorem dX4_findPossibleSlots_70 : decode cX4_findPossibleSlots 70 = .ok (.iinc 3 1, 3) := by decide +kernel
theorem dX4_findPossibleSlots_73 : decode cX4_findPossibleSlots 73 = .ok (.goto (-36), 3) := by decide +kernel
theorem dX4_findPossibleSlots_76 : decode cX4_findPossibleSlots 76 = .ok (.iinc 2 1, 3) := by decide +kernel
theorem dX4_findPossibleSlots_79 : decode cX4_findPossibleSlots 79 = .ok (.goto (-69), 3) := by decide +kernel
theorem dX4_findPossibleSlots_82 : decode cX4_findPossibleSlots 82 = .ok (.return_, 1) := by decide +kernel
theorem dX4_leaveOutOwnPlace_0 : decode cX4_leaveOutOwnPlace 0 = .ok (.aload_n 0, 1) := by decide +kernel
theorem dX4_leaveOutOwnPlace_1 : decode cX4_leaveOutOwnPlace 1 = .ok (.getfield 56, 3) := by decide +kernel
theorem dX4_leaveOutOwnPlace_4 : decode cX4_leaveOutOwnPlace 4 = .ok (.ifnull 51, 3) := by decide +kernel
theorem dX4_leaveOutOwnPlace_7 : decode cX4_leaveOutOwnPlace 7 = .ok (.aload_n 0, 1) := by decide +kernel
theorem dX4_leaveOutOwnPlace_8 : decode cX4_leaveOutOwnPlace 8 = .ok (.getfield 56, 3) := by decide +kernel
theorem dX4_leaveOutOwnPlace_11 : decode cX4_leaveOutOwnPlace 11 = .ok (.getfield 60, 3) := by decide +kernel
theorem dX4_leaveOutOwnPlace_14 : decode cX4_leaveOutOwnPlace 14 = .ok (.ifCond .lt 41, 3) := by decide +kernel
theorem dX4_leaveOutOwnPlace_17 : decode cX4_leaveOutOwnPlace 17 = .ok (.aload_n 0, 1) := by decide +kernel
theorem dX4_leaveOutOwnPlace_18 : decode cX4_leaveOutOwnPlace 18 = .ok (.getfield 56, 3) := by decide +kernel
theorem dX4_leaveOutOwnPlace_21 : decode cX4_leaveOutOwnPlace 21 = .ok (.getfield 60, 3) := by decide +kernel
theorem dX4_leaveOutOwnPlace_24 : decode cX4_leaveOutOwnPlace 24 = .ok (.aload_n 0, 1) := by decide +kernel
theorem dX4_leaveOutOwnPlace_25 : decode cX4_leaveOutOwnPlace 25 = .ok (.getfield 15, 3) := by decide +kernel
theorem dX4_leaveOutOwnPlace_28 : decode cX4_leaveOutOwnPlace 28 = .ok (.arraylength, 1) := by decide +kernel
theorem dX4_leaveOutOwnPlace_29 : decode cX4_leaveOutOwnPlace 29 = .ok (.if_icmp .ge 26, 3) := by decide +kernel
theorem dX4_leaveOutOwnPlace_32 : decode cX4_leaveOutOwnPlace 32 = .ok (.aload_n 0, 1) := by decide +kernel
theorem dX4_leaveOutOwnPlace_33 : decode cX4_leaveOutOwnPlace 33 = .ok (.getfield 15, 3) := by decide +kernel
theorem dX4_leaveOutOwnPlace_36 : decode cX4_leaveOutOwnPlace 36 = .ok (.aload_n 0, 1) := by decide +kernel
theorem dX4_leaveOutOwnPlace_37 : decode cX4_leaveOutOwnPlace 37 = .ok (.getfield 56, 3) := by decide +kernel
theorem dX4_leaveOutOwnPlace_40 : decode cX4_leaveOutOwnPlace 40 = .ok (.getfield 60, 3) := by decide +kernel
theorem dX4_leaveOutOwnPlace_43 : decode cX4_leaveOutOwnPlace 43 = .ok (.dup2, 1) := by decide +kernel
theorem dX4_leaveOutOwnPlace_44 : decode cX4_leaveOutOwnPlace 44 = .ok (.iaload, 1) := by decide +kernel
theorem dX4_leaveOutOwnPlace_45 : decode cX4_leaveOutOwnPlace 45 = .ok (.iconst 1, 1) := by decide +kernel
theorem dX4_leaveOutOwnPlace_46 : decode cX4_leaveOutOwnPlace 46 = .ok (.aload_n 0, 1) := by decide +kernel
theorem dX4_leaveOutOwnPlace_47 : decode cX4_leaveOutOwnPlace 47 = .ok (.getfield 9, 3) := by decide +kernel
theorem dX4_leaveOutOwnPlace_50 : decode cX4_leaveOutOwnPlace 50 = .ok (.ishl, 1) := by decide +kernel
theorem dX4_leaveOutOwnPlace_51 : decode cX4_leaveOutOwnPlace 51 = .ok (.iconst (-1), 1) := by decide +kernel
theorem dX4_leaveOutOwnPlace_52 : decode cX4_leaveOutOwnPlace 52 = .ok (.ixor, 1) := by decide +kernel
theorem dX4_leaveOutOwnPlace_53 : decode cX4_leaveOutOwnPlace 53 = .ok (.iand, 1) := by decide +kernel
theorem dX4_leaveOutOwnPlace_54 : decode cX4_leaveOutOwnPlace 54 = .ok (.iastore, 1) := by decide +kernel
theorem dX4_leaveOutOwnPlace_55 : decode cX4_leaveOutOwnPlace 55 = .ok (.return_, 1) := by decide +kernel
theorem dX4_countPossiblePlaces_0 : decode cX4_countPossiblePlaces 0 = .ok (.iconst 0, 1) := by decide +kernel
theorem dX4_countPossiblePlaces_1 : decode cX4_countPossiblePlaces 1 = .ok (.istore_n 1, 1) := by decide +kernel
theorem dX4_countPossiblePlaces_2 : decode cX4_countPossiblePlaces 2 = .ok (.iconst 0, 1) := by decide +kernel
theorem dX4_countPossiblePlaces_3 : decode cX4_countPossiblePlaces 3 = .ok (.istore_n 2, 1) := by decide +kernel
theorem dX4_countPossiblePlaces_4 : decode cX4_countPossiblePlaces 4 = .ok (.iload_n 2, 1) := by decide +kernel
theorem dX4_countPossiblePlaces_5 : decode cX4_countPossiblePlaces 5 = .ok (.aload_n 0, 1) := by decide +kernel
theorem dX4_countPossiblePlaces_6 : decode cX4_countPossiblePlaces 6 = .ok (.getfield 15, 3) := by decide +kernel
theorem dX4_countPossiblePlaces_9 : decode cX4_countPossiblePlaces 9 = .ok (.arraylength, 1) := by decide +kernel
theorem dX4_countPossiblePlaces_10 : decode cX4_countPossiblePlaces 10 = .ok (.if_icmp .ge 21, 3) := by decide +kernel
theorem dX4_countPossiblePlaces_13 : decode cX4_countPossiblePlaces 13 = .ok (.iload_n 1, 1) := by decide +kernel
theorem dX4_countPossiblePlaces_14 : decode cX4_countPossiblePlaces 14 = .ok (.aload_n 0, 1) := by decide +kernel
theorem dX4_countPossiblePlaces_15 : decode cX4_countPossiblePlaces 15 = .ok (.getfield 15, 3) := by decide +kernel
theorem dX4_countPossiblePlaces_18 : decode cX4_countPossiblePlaces 18 = .ok (.iload_n 2, 1) := by decide +kernel
theorem dX4_countPossiblePlaces_19 : decode cX4_countPossiblePlaces 19 = .ok (.iaload, 1) := by decide +kernel
theorem dX4_countPossiblePlaces_20 : decode cX4_countPossiblePlaces 20 = .ok (.invokestatic 151, 3) := by decide +kernel
theorem dX4_countPossiblePlaces_23 : decode cX4_countPossiblePlaces 23 = .ok (.iadd, 1) := by decide +kernel
theorem dX4_countPossiblePlaces_24 : decode cX4_countPossiblePlaces 24 = .ok (.istore_n 1, 1) := by decide +kernel
theorem dX4_countPossiblePlaces_25 : decode cX4_countPossiblePlaces 25 = .ok (.iinc 2 1, 3) := by decide +kernel
theorem dX4_countPossiblePlaces_28 : decode cX4_countPossiblePlaces 28 = .ok (.goto (-24), 3) := by decide +kernel
theorem dX4_countPossiblePlaces_31 : decode cX4_countPossiblePlaces 31 = .ok (.iload_n 1, 1) := by decide +kernel
theorem dX4_countPossiblePlaces_32 : decode cX4_countPossiblePlaces 32 = .ok (.ireturn, 1) := by decide +kernel
theorem dX4_firstRoomAt_0 : decode cX4_firstRoomAt 0 = .ok (.iconst 0, 1) := by decide +kernel
theorem dX4_firstRoomAt_1 : decode cX4_firstRoomAt 1 = .ok (.istore_n 2, 1) := by decide +kernel
theorem dX4_firstRoomAt_2 : decode cX4_firstRoomAt 2 = .ok (.iload_n 2, 1) := by decide +kernel
theorem dX4_firstRoomAt_3 : decode cX4_firstRoomAt 3 = .ok (.aload_n 0, 1) := by decide +kernel
theorem dX4_firstRoomAt_4 : decode cX4_firstRoomAt 4 = .ok (.getfield 15, 3) := by decide +kernel
theorem dX4_firstRoomAt_7 : decode cX4_firstRoomAt 7 = .ok (.arraylength, 1) := by decide +kernel
theorem dX4_firstRoomAt_8 : decode cX4_firstRoomAt 8 = .ok (.if_icmp .ge 24, 3) := by decide +kernel
theorem dX4_firstRoomAt_11 : decode cX4_firstRoomAt 11 = .ok (.aload_n 0, 1) := by decide +kernel
theorem dX4_firstRoomAt_12 : decode cX4_firstRoomAt 12 = .ok (.getfield 15, 3) := by decide +kernel
theorem dX4_firstRoomAt_15 : decode cX4_firstRoomAt 15 = .ok (.iload_n 2, 1) := by decide +kernel
theorem dX4_firstRoomAt_16 : decode cX4_firstRoomAt 16 = .ok (.iaload, 1) := by decide +kernel
theorem dX4_firstRoomAt_17 : decode cX4_firstRoomAt 17 = .ok (.iload_n 1, 1) := by decide +kernel
theorem dX4_firstRoomAt_18 : decode cX4_firstRoomAt 18 = .ok (.invokestatic 138, 3) := by decide +kernel
theorem dX4_firstRoomAt_21 : decode cX4_firstRoomAt 21 = .ok (.ifCond .eq 5, 3) := by decide +kernel
theorem dX4_firstRoomAt_24 : decode cX4_firstRoomAt 24 = .ok (.iload_n 2, 1) := by decide +kernel
theorem dX4_firstRoomAt_25 : decode cX4_firstRoomAt 25 = .ok (.ireturn, 1) := by decide +kernel
theorem dX4_firstRoomAt_26 : decode cX4_firstRoomAt 26 = .ok (.iinc 2 1, 3) := by decide +kernel
theorem dX4_firstRoomAt_29 : decode cX4_firstRoomAt 29 = .ok (.goto (-27), 3) := by decide +kernel
theorem dX4_firstRoomAt_32 : decode cX4_firstRoomAt 32 = .ok (.iconst (-1), 1) := by decide +kernel
theorem dX4_firstRoomAt_33 : decode cX4_firstRoomAt 33 = .ok (.ireturn, 1) := by decide +kernel
theorem dX4_isPossible_0 : decode cX4_isPossible 0 = .ok (.iload_n 1, 1) := by decide +kernel
theorem dX4_isPossible_1 : decode cX4_isPossible 1 = .ok (.ifCond .lt 28, 3) := by decide +kernel
theorem dX4_isPossible_4 : decode cX4_isPossible 4 = .ok (.aload_n 0, 1) := by decide +kernel
theorem dX4_isPossible_5 : decode cX4_isPossible 5 = .ok (.getfield 15, 3) := by decide +kernel
theorem dX4_isPossible_8 : decode cX4_isPossible 8 = .ok (.iload_n 1, 1) := by decide +kernel
theorem dX4_isPossible_9 : decode cX4_isPossible 9 = .ok (.bipush 8, 2) := by decide +kernel
theorem dX4_isPossible_11 : decode cX4_isPossible 11 = .ok (.irem, 1) := by decide +kernel
theorem dX4_isPossible_12 : decode cX4_isPossible 12 = .ok (.invokestatic 123, 3) := by decide +kernel
theorem dX4_isPossible_15 : decode cX4_isPossible 15 = .ok (.iload_n 1, 1) := by decide +kernel
theorem dX4_isPossible_16 : decode cX4_isPossible 16 = .ok (.bipush 8, 2) := by decide +kernel
theorem dX4_isPossible_18 : decode cX4_isPossible 18 = .ok (.idiv, 1) := by decide +kernel
theorem dX4_isPossible_19 : decode cX4_isPossible 19 = .ok (.invokestatic 138, 3) := by decide +kernel
theorem dX4_isPossible_22 : decode cX4_isPossible 22 = .ok (.ifCond .eq 7, 3) := by decide +kernel
theorem dX4_isPossible_25 : decode cX4_isPossible 25 = .ok (.iconst 1, 1) := by decide +kernel
theorem dX4_isPossible_26 : decode cX4_isPossible 26 = .ok (.goto 4, 3) := by decide +kernel
theorem dX4_isPossible_29 : decode cX4_isPossible 29 = .ok (.iconst 0, 1) := by decide +kernel
theorem dX4_isPossible_30 : decode cX4_isPossible 30 = .ok (.ireturn, 1) := by decide +kernel
theorem dX4_addedTo_0 : decode cX4_addedTo 0 = .ok (.aload_n 0, 1) := by decide +kernel
theorem dX4_addedTo_1 : decode cX4_addedTo 1 = .ok (.iload_n 2, 1) := by decide +kernel
theorem dX4_addedTo_2 : decode cX4_addedTo 2 = .ok (.invokevirtual 63, 3) := by decide +kernel
theorem dX4_addedTo_5 : decode cX4_addedTo 5 = .ok (.istore_n 3, 1) := by decide +kernel
theorem dX4_addedTo_6 : decode cX4_addedTo 6 = .ok (.iload_n 1, 1) := by decide +kernel
theorem dX4_addedTo_7 : decode cX4_addedTo 7 = .ok (.tableswitch 102 0 3 #[29, 63, 84, 90], 29) := by decide +kernel
theorem dX4_addedTo_36 : decode cX4_addedTo 36 = .ok (.aload_n 0, 1) := by decide +kernel
theorem dX4_addedTo_37 : decode cX4_addedTo 37 = .ok (.getfield 82, 3) := by decide +kernel
theorem dX4_addedTo_40 : decode cX4_addedTo 40 = .ok (.iload_n 2, 1) := by decide +kernel
theorem dX4_addedTo_41 : decode cX4_addedTo 41 = .ok (.bipush 6, 2) := by decide +kernel
theorem dX4_addedTo_43 : decode cX4_addedTo 43 = .ok (.idiv, 1) := by decide +kernel
theorem dX4_addedTo_44 : decode cX4_addedTo 44 = .ok (.invokestatic 156, 3) := by decide +kernel
theorem dX4_addedTo_47 : decode cX4_addedTo 47 = .ok (.iand, 1) := by decide +kernel
theorem dX4_addedTo_48 : decode cX4_addedTo 48 = .ok (.istore 4, 2) := by decide +kernel
theorem dX4_addedTo_50 : decode cX4_addedTo 50 = .ok (.iload 4, 2) := by decide +kernel
theorem dX4_addedTo_52 : decode cX4_addedTo 52 = .ok (.iload_n 3, 1) := by decide +kernel
theorem dX4_addedTo_53 : decode cX4_addedTo 53 = .ok (.ior, 1) := by decide +kernel
theorem dX4_addedTo_54 : decode cX4_addedTo 54 = .ok (.invokestatic 159, 3) := by decide +kernel
theorem dX4_addedTo_57 : decode cX4_addedTo 57 = .ok (.invokestatic 151, 3) := by decide +kernel
theorem dX4_addedTo_60 : decode cX4_addedTo 60 = .ok (.iload 4, 2) := by decide +kernel
theorem dX4_addedTo_62 : decode cX4_addedTo 62 = .ok (.invokestatic 159, 3) := by decide +kernel
theorem dX4_addedTo_65 : decode cX4_addedTo 65 = .ok (.invokestatic 151, 3) := by decide +kernel
theorem dX4_addedTo_68 : decode cX4_addedTo 68 = .ok (.isub, 1) := by decide +kernel
theorem dX4_addedTo_69 : decode cX4_addedTo 69 = .ok (.ireturn, 1) := by decide +kernel
theorem dX4_addedTo_70 : decode cX4_addedTo 70 = .ok (.iload_n 3, 1) := by decide +kernel
theorem dX4_addedTo_71 : decode cX4_addedTo 71 = .ok (.ldc 48, 2) := by decide +kernel
theorem dX4_addedTo_73 : decode cX4_addedTo 73 = .ok (.iand, 1) := by decide +kernel
theorem dX4_addedTo_74 : decode cX4_addedTo 74 = .ok (.ifCond .eq 15, 3) := by decide +kernel
theorem dX4_addedTo_77 : decode cX4_addedTo 77 = .ok (.iconst 1, 1) := by decide +kernel
theorem dX4_addedTo_78 : decode cX4_addedTo 78 = .ok (.aload_n 0, 1) := by decide +kernel
theorem dX4_addedTo_79 : decode cX4_addedTo 79 = .ok (.getfield 35, 3) := by decide +kernel
theorem dX4_addedTo_82 : decode cX4_addedTo 82 = .ok (.getfield 162, 3) := by decide +kernel
theorem dX4_addedTo_85 : decode cX4_addedTo 85 = .ok (.iadd, 1) := by decide +kernel
theorem dX4_addedTo_86 : decode cX4_addedTo 86 = .ok (.goto 4, 3) := by decide +kernel
theorem dX4_addedTo_89 : decode cX4_addedTo 89 = .ok (.iconst 0, 1) := by decide +kernel
theorem dX4_addedTo_90 : decode cX4_addedTo 90 = .ok (.ireturn, 1) := by decide +kernel
theorem dX4_addedTo_91 : decode cX4_addedTo 91 = .ok (.aload_n 0, 1) := by decide +kernel
theorem dX4_addedTo_92 : decode cX4_addedTo 92 = .ok (.iload_n 3, 1) := by decide +kernel
theorem dX4_addedTo_93 : decode cX4_addedTo 93 = .ok (.invokevirtual 165, 3) := by decide +kernel
theorem dX4_addedTo_96 : decode cX4_addedTo 96 = .ok (.ireturn, 1) := by decide +kernel
theorem dX4_addedTo_97 : decode cX4_addedTo 97 = .ok (.aload_n 0, 1) := by decide +kernel
theorem dX4_addedTo_98 : decode cX4_addedTo 98 = .ok (.getfield 25, 3) := by decide +kernel
theorem dX4_addedTo_101 : decode cX4_addedTo 101 = .ok (.iload_n 2, 1) := by decide +kernel
theorem dX4_addedTo_102 : decode cX4_addedTo 102 = .ok (.bipush 6, 2) := by decide +kernel
theorem dX4_addedTo_104 : decode cX4_addedTo 104 = .ok (.idiv, 1) := by decide +kernel
theorem dX4_addedTo_105 : decode cX4_addedTo 105 = .ok (.invokestatic 123, 3) := by decide +kernel
theorem dX4_addedTo_108 : decode cX4_addedTo 108 = .ok (.ireturn, 1) := by decide +kernel
theorem dX4_addedTo_109 : decode cX4_addedTo 109 = .ok (.iconst 0, 1) := by decide +kernel
theorem dX4_addedTo_110 : decode cX4_addedTo 110 = .ok (.ireturn, 1) := by decide +kernel
theorem dX4_wishesIn_0 : decode cX4_wishesIn 0 = .ok (.iconst 0, 1) := by decide +kernel
theorem dX4_wishesIn_1 : decode cX4_wishesIn 1 = .ok (.istore_n 2, 1) := by decide +kernel
theorem dX4_wishesIn_2 : decode cX4_wishesIn 2 = .ok (.iload_n 1, 1) := by decide +kernel
theorem dX4_wishesIn_3 : decode cX4_wishesIn 3 = .ok (.istore_n 3, 1) := by decide +kernel
theorem dX4_wishesIn_4 : decode cX4_wishesIn 4 = .ok (.iconst 0, 1) := by decide +kernel
theorem dX4_wishesIn_5 : decode cX4_wishesIn 5 = .ok (.istore 4, 2) := by decide +kernel
theorem dX4_wishesIn_7 : decode cX4_wishesIn 7 = .ok (.iload 4, 2) := by decide +kernel
theorem dX4_wishesIn_9 : decode cX4_wishesIn 9 = .ok (.aload_n 0, 1) := by decide +kernel
theorem dX4_wishesIn_10 : decode cX4_wishesIn 10 = .ok (.getfield 35, 3) := by decide +kernel
theorem dX4_wishesIn_13 : decode cX4_wishesIn 13 = .ok (.getfield 168, 3) := by decide +kernel
theorem dX4_wishesIn_16 : decode cX4_wishesIn 16 = .ok (.arraylength, 1) := by decide +kernel
theorem dX4_wishesIn_17 : decode cX4_wishesIn 17 = .ok (.if_icmp .ge 40, 3) := by decide +kernel
theorem dX4_wishesIn_20 : decode cX4_wishesIn 20 = .ok (.iload_n 3, 1) := by decide +kernel
theorem dX4_wishesIn_21 : decode cX4_wishesIn 21 = .ok (.ifCond .eq 36, 3) := by decide +kernel
theorem dX4_wishesIn_24 : decode cX4_wishesIn 24 = .ok (.iload_n 2, 1) := by decide +kernel
theorem dX4_wishesIn_25 : decode cX4_wishesIn 25 = .ok (.iload_n 3, 1) := by decide +kernel
theorem dX4_wishesIn_26 : decode cX4_wishesIn 26 = .ok (.iconst 1, 1) := by decide +kernel
theorem dX4_wishesIn_27 : decode cX4_wishesIn 27 = .ok (.iand, 1) := by decide +kernel
theorem dX4_wishesIn_28 : decode cX4_wishesIn 28 = .ok (.ifCond .eq 16, 3) := by decide +kernel
theorem dX4_wishesIn_31 : decode cX4_wishesIn 31 = .ok (.aload_n 0, 1) := by decide +kernel
theorem dX4_wishesIn_32 : decode cX4_wishesIn 32 = .ok (.getfield 35, 3) := by decide +kernel
theorem dX4_wishesIn_35 : decode cX4_wishesIn 35 = .ok (.getfield 168, 3) := by decide +kernel
theorem dX4_wishesIn_38 : decode cX4_wishesIn 38 = .ok (.iload 4, 2) := by decide +kernel
theorem dX4_wishesIn_40 : decode cX4_wishesIn 40 = .ok (.iaload, 1) := by decide +kernel
theorem dX4_wishesIn_41 : decode cX4_wishesIn 41 = .ok (.goto 4, 3) := by decide +kernel
theorem dX4_wishesIn_44 : decode cX4_wishesIn 44 = .ok (.iconst 0, 1) := by decide +kernel
theorem dX4_wishesIn_45 : decode cX4_wishesIn 45 = .ok (.iadd, 1) := by decide +kernel
theorem dX4_wishesIn_46 : decode cX4_wishesIn 46 = .ok (.istore_n 2, 1) := by decide +kernel
theorem dX4_wishesIn_47 : decode cX4_wishesIn 47 = .ok (.iload_n 3, 1) := by decide +kernel
theorem dX4_wishesIn_48 : decode cX4_wishesIn 48 = .ok (.iconst 1, 1) := by decide +kernel
theorem dX4_wishesIn_49 : decode cX4_wishesIn 49 = .ok (.iushr, 1) := by decide +kernel
theorem dX4_wishesIn_50 : decode cX4_wishesIn 50 = .ok (.istore_n 3, 1) := by decide +kernel
theorem dX4_wishesIn_51 : decode cX4_wishesIn 51 = .ok (.iinc 4 1, 3) := by decide +kernel
theorem dX4_wishesIn_54 : decode cX4_wishesIn 54 = .ok (.goto (-47), 3) := by decide +kernel
theorem dX4_wishesIn_57 : decode cX4_wishesIn 57 = .ok (.iload_n 2, 1) := by decide +kernel
theorem dX4_wishesIn_58 : decode cX4_wishesIn 58 = .ok (.ireturn, 1) := by decide +kernel
theorem dX5_init_0 : decode cX5_init 0 = .ok (.aload_n 0, 1) := by decide +kernel
theorem dX5_init_1 : decode cX5_init 1 = .ok (.invokespecial 1, 3) := by decide +kernel
theorem dX5_init_4 : decode cX5_init 4 = .ok (.aload_n 0, 1) := by decide +kernel
theorem dX5_init_5 : decode cX5_init 5 = .ok (.iconst 1, 1) := by decide +kernel
theorem dX5_init_6 : decode cX5_init 6 = .ok (.putfield 7, 3) := by decide +kernel
theorem dX5_init_9 : decode cX5_init 9 = .ok (.aload_n 0, 1) := by decide +kernel
theorem dX5_init_10 : decode cX5_init 10 = .ok (.iload_n 1, 1) := by decide +kernel
theorem dX5_init_11 : decode cX5_init 11 = .ok (.putfield 13, 3) := by decide +kernel
theorem dX5_init_14 : decode cX5_init 14 = .ok (.aload_n 0, 1) := by decide +kernel
theorem dX5_init_15 : decode cX5_init 15 = .ok (.iload_n 2, 1) := by decide +kernel
theorem dX5_init_16 : decode cX5_init 16 = .ok (.putfield 17, 3) := by decide +kernel
theorem dX5_init_19 : decode cX5_init 19 = .ok (.aload_n 0, 1) := by decide +kernel
theorem dX5_init_20 : decode cX5_init 20 = .ok (.iload_n 3, 1) := by decide +kernel
theorem dX5_init_21 : decode cX5_init 21 = .ok (.putfield 20, 3) := by decide +kernel
theorem dX5_init_24 : decode cX5_init 24 = .ok (.aload_n 0, 1) := by decide +kernel
theorem dX5_init_25 : decode cX5_init 25 = .ok (.iload 4, 2) := by decide +kernel
theorem dX5_init_27 : decode cX5_init 27 = .ok (.putfield 23, 3) := by decide +kernel
theorem dX5_init_30 : decode cX5_init 30 = .ok (.return_, 1) := by decide +kernel
theorem dX6_init_0 : decode cX6_init 0 = .ok (.aload_n 0, 1) := by decide +kernel
theorem dX6_init_1 : decode cX6_init 1 = .ok (.invokespecial 3, 3) := by decide +kernel
theorem dX6_init_4 : decode cX6_init 4 = .ok (.aload_n 0, 1) := by decide +kernel
theorem dX6_init_5 : decode cX6_init 5 = .ok (.new 9, 3) := by decide +kernel
theorem dX6_init_8 : decode cX6_init 8 = .ok (.dup, 1) := by decide +kernel
theorem dX6_init_9 : decode cX6_init 9 = .ok (.invokespecial 11, 3) := by decide +kernel
theorem dX6_init_12 : decode cX6_init 12 = .ok (.putfield 12, 3) := by decide +kernel
theorem dX6_init_15 : decode cX6_init 15 = .ok (.aload_n 0, 1) := by decide +kernel
theorem dX6_init_16 : decode cX6_init 16 = .ok (.new 9, 3) := by decide +kernel
theorem dX6_init_19 : decode cX6_init 19 = .ok (.dup, 1) := by decide +kernel
theorem dX6_init_20 : decode cX6_init 20 = .ok (.invokespecial 11, 3) := by decide +kernel
theorem dX6_init_23 : decode cX6_init 23 = .ok (.putfield 18, 3) := by decide +kernel
theorem dX6_init_26 : decode cX6_init 26 = .ok (.aload_n 0, 1) := by decide +kernel
theorem dX6_init_27 : decode cX6_init 27 = .ok (.new 9, 3) := by decide +kernel
theorem dX6_init_30 : decode cX6_init 30 = .ok (.dup, 1) := by decide +kernel
theorem dX6_init_31 : decode cX6_init 31 = .ok (.invokespecial 11, 3) := by decide +kernel
theorem dX6_init_34 : decode cX6_init 34 = .ok (.putfield 21, 3) := by decide +kernel
theorem dX6_init_37 : decode cX6_init 37 = .ok (.aload_n 0, 1) := by decide +kernel
theorem dX6_init_38 : decode cX6_init 38 = .ok (.iconst 4, 1) := by decide +kernel
theorem dX6_init_39 : decode cX6_init 39 = .ok (.newarray .int, 2) := by decide +kernel
theorem dX6_init_41 : decode cX6_init 41 = .ok (.dup, 1) := by decide +kernel
theorem dX6_init_42 : decode cX6_init 42 = .ok (.iconst 0, 1) := by decide +kernel
theorem dX6_init_43 : decode cX6_init 43 = .ok (.iconst 1, 1) := by decide +kernel
theorem dX6_init_44 : decode cX6_init 44 = .ok (.iastore, 1) := by decide +kernel
theorem dX6_init_45 : decode cX6_init 45 = .ok (.dup, 1) := by decide +kernel
theorem dX6_init_46 : decode cX6_init 46 = .ok (.iconst 1, 1) := by decide +kernel
theorem dX6_init_47 : decode cX6_init 47 = .ok (.iconst 1, 1) := by decide +kernel
theorem dX6_init_48 : decode cX6_init 48 = .ok (.iastore, 1) := by decide +kernel
theorem dX6_init_49 : decode cX6_init 49 = .ok (.dup, 1) := by decide +kernel
theorem dX6_init_50 : decode cX6_init 50 = .ok (.iconst 2, 1) := by decide +kernel
theorem dX6_init_51 : decode cX6_init 51 = .ok (.iconst 1, 1) := by decide +kernel
theorem dX6_init_52 : decode cX6_init 52 = .ok (.iastore, 1) := by decide +kernel
theorem dX6_init_53 : decode cX6_init 53 = .ok (.dup, 1) := by decide +kernel
theorem dX6_init_54 : decode cX6_init 54 = .ok (.iconst 3, 1) := by decide +kernel
theorem dX6_init_55 : decode cX6_init 55 = .ok (.iconst 1, 1) := by decide +kernel
theorem dX6_init_56 : decode cX6_init 56 = .ok (.iastore, 1) := by decide +kernel
theorem dX6_init_57 : decode cX6_init 57 = .ok (.putfield 24, 3) := by decide +kernel
theorem dX6_init_60 : decode cX6_init 60 = .ok (.aload_n 0, 1) := by decide +kernel
theorem dX6_init_61 : decode cX6_init 61 = .ok (.iconst 4, 1) := by decide +kernel
theorem dX6_init_62 : decode cX6_init 62 = .ok (.newarray .int, 2) := by decide +kernel
theorem dX6_init_64 : decode cX6_init 64 = .ok (.putfield 28, 3) := by decide +kernel
theorem dX6_init_67 : decode cX6_init 67 = .ok (.return_, 1) := by decide +kernel
theorem dX6_isPast_0 : decode cX6_isPast 0 = .ok (.aload_n 1, 1) := by decide +kernel
theorem dX6_isPast_1 : decode cX6_isPast 1 = .ok (.getfield 31, 3) := by decide +kernel
theorem dX6_isPast_4 : decode cX6_isPast 4 = .ok (.ifnull 21, 3) := by decide +kernel
theorem dX6_isPast_7 : decode cX6_isPast 7 = .ok (.aload_n 1, 1) := by decide +kernel
theorem dX6_isPast_8 : decode cX6_isPast 8 = .ok (.getfield 37, 3) := by decide +kernel
theorem dX6_isPast_11 : decode cX6_isPast 11 = .ok (.bipush 6, 2) := by decide +kernel
theorem dX6_isPast_13 : decode cX6_isPast 13 = .ok (.idiv, 1) := by decide +kernel
theorem dX6_isPast_14 : decode cX6_isPast 14 = .ok (.aload_n 0, 1) := by decide +kernel
theorem dX6_isPast_15 : decode cX6_isPast 15 = .ok (.getfield 41, 3) := by decide +kernel
theorem dX6_isPast_18 : decode cX6_isPast 18 = .ok (.if_icmp .ge 7, 3) := by decide +kernel
theorem dX6_isPast_21 : decode cX6_isPast 21 = .ok (.iconst 1, 1) := by decide +kernel
theorem dX6_isPast_22 : decode cX6_isPast 22 = .ok (.goto 4, 3) := by decide +kernel
theorem dX6_isPast_25 : decode cX6_isPast 25 = .ok (.iconst 0, 1) := by decide +kernel
theorem dX6_isPast_26 : decode cX6_isPast 26 = .ok (.ireturn, 1) := by decide +kernel
theorem dX6_isFree_0 : decode cX6_isFree 0 = .ok (.aload_n 1, 1) := by decide +kernel
theorem dX6_isFree_1 : decode cX6_isFree 1 = .ok (.getfield 44, 3) := by decide +kernel
theorem dX6_isFree_4 : decode cX6_isFree 4 = .ok (.ifCond .ne 15, 3) := by decide +kernel
theorem dX6_isFree_7 : decode cX6_isFree 7 = .ok (.aload_n 0, 1) := by decide +kernel
theorem dX6_isFree_8 : decode cX6_isFree 8 = .ok (.aload_n 1, 1) := by decide +kernel
theorem dX6_isFree_9 : decode cX6_isFree 9 = .ok (.invokevirtual 48, 3) := by decide +kernel
theorem dX6_isFree_12 : decode cX6_isFree 12 = .ok (.ifCond .ne 7, 3) := by decide +kernel
theorem dX6_isFree_15 : decode cX6_isFree 15 = .ok (.iconst 1, 1) := by decide +kernel
theorem dX6_isFree_16 : decode cX6_isFree 16 = .ok (.goto 4, 3) := by decide +kernel
theorem dX6_isFree_19 : decode cX6_isFree 19 = .ok (.iconst 0, 1) := by decide +kernel
theorem dX6_isFree_20 : decode cX6_isFree 20 = .ok (.ireturn, 1) := by decide +kernel
theorem dX6_unplaced_0 : decode cX6_unplaced 0 = .ok (.iconst 0, 1) := by decide +kernel
theorem dX6_unplaced_1 : decode cX6_unplaced 1 = .ok (.istore_n 1, 1) := by decide +kernel
theorem dX6_unplaced_2 : decode cX6_unplaced 2 = .ok (.iconst 0, 1) := by decide +kernel
theorem dX6_unplaced_3 : decode cX6_unplaced 3 = .ok (.istore_n 2, 1) := by decide +kernel
theorem dX6_unplaced_4 : decode cX6_unplaced 4 = .ok (.iload_n 2, 1) := by decide +kernel
theorem dX6_unplaced_5 : decode cX6_unplaced 5 = .ok (.aload_n 0, 1) := by decide +kernel
theorem dX6_unplaced_6 : decode cX6_unplaced 6 = .ok (.getfield 21, 3) := by decide +kernel
theorem dX6_unplaced_9 : decode cX6_unplaced 9 = .ok (.invokevirtual 52, 3) := by decide +kernel
theorem dX6_unplaced_12 : decode cX6_unplaced 12 = .ok (.if_icmp .ge 36, 3) := by decide +kernel
theorem dX6_unplaced_15 : decode cX6_unplaced 15 = .ok (.iload_n 1, 1) := by decide +kernel
theorem dX6_unplaced_16 : decode cX6_unplaced 16 = .ok (.aload_n 0, 1) := by decide +kernel
theorem dX6_unplaced_17 : decode cX6_unplaced 17 = .ok (.getfield 21, 3) := by decide +kernel
theorem dX6_unplaced_20 : decode cX6_unplaced 20 = .ok (.iload_n 2, 1) := by decide +kernel
theorem dX6_unplaced_21 : decode cX6_unplaced 21 = .ok (.invokevirtual 56, 3) := by decide +kernel
theorem dX6_unplaced_24 : decode cX6_unplaced 24 = .ok (.checkcast 32, 3) := by decide +kernel
theorem dX6_unplaced_27 : decode cX6_unplaced 27 = .ok (.getfield 31, 3) := by decide +kernel
theorem dX6_unplaced_30 : decode cX6_unplaced 30 = .ok (.ifnonnull 9, 3) := by decide +kernel
theorem dX6_unplaced_33 : decode cX6_unplaced 33 = .ok (.iconst 1, 1) := by decide +kernel
theorem dX6_unplaced_34 : decode cX6_unplaced 34 = .ok (.iload_n 2, 1) := by decide +kernel
theorem dX6_unplaced_35 : decode cX6_unplaced 35 = .ok (.ishl, 1) := by decide +kernel
theorem dX6_unplaced_36 : decode cX6_unplaced 36 = .ok (.goto 4, 3) := by decide +kernel
theorem dX6_unplaced_39 : decode cX6_unplaced 39 = .ok (.iconst 0, 1) := by decide +kernel
theorem dX6_unplaced_40 : decode cX6_unplaced 40 = .ok (.ior, 1) := by decide +kernel
theorem dX6_unplaced_41 : decode cX6_unplaced 41 = .ok (.istore_n 1, 1) := by decide +kernel
theorem dX6_unplaced_42 : decode cX6_unplaced 42 = .ok (.iinc 2 1, 3) := by decide +kernel
theorem dX6_unplaced_45 : decode cX6_unplaced 45 = .ok (.goto (-41), 3) := by decide +kernel
theorem dX6_unplaced_48 : decode cX6_unplaced 48 = .ok (.iload_n 1, 1) := by decide +kernel
theorem dX6_unplaced_49 : decode cX6_unplaced 49 = .ok (.ireturn, 1) := by decide +kernel
theorem dX6_lookAround_0 : decode cX6_lookAround 0 = .ok (.aload_n 1, 1) := by decide +kernel
theorem dX6_lookAround_1 : decode cX6_lookAround 1 = .ok (.aload_n 0, 1) := by decide +kernel
theorem dX6_lookAround_2 : decode cX6_lookAround 2 = .ok (.getfield 41, 3) := by decide +kernel
theorem dX6_lookAround_5 : decode cX6_lookAround 5 = .ok (.invokevirtual 60, 3) := by decide +kernel
theorem dX6_lookAround_8 : decode cX6_lookAround 8 = .ok (.iconst 0, 1) := by decide +kernel
theorem dX6_lookAround_9 : decode cX6_lookAround 9 = .ok (.istore_n 2, 1) := by decide +kernel
theorem dX6_lookAround_10 : decode cX6_lookAround 10 = .ok (.iload_n 2, 1) := by decide +kernel
theorem dX6_lookAround_11 : decode cX6_lookAround 11 = .ok (.aload_n 0, 1) := by decide +kernel
theorem dX6_lookAround_12 : decode cX6_lookAround 12 = .ok (.getfield 21, 3) := by decide +kernel
theorem dX6_lookAround_15 : decode cX6_lookAround 15 = .ok (.invokevirtual 52, 3) := by decide +kernel
theorem dX6_lookAround_18 : decode cX6_lookAround 18 = .ok (.if_icmp .ge 24, 3) := by decide +kernel
theorem dX6_lookAround_21 : decode cX6_lookAround 21 = .ok (.aload_n 1, 1) := by decide +kernel
theorem dX6_lookAround_22 : decode cX6_lookAround 22 = .ok (.aload_n 0, 1) := by decide +kernel
theorem dX6_lookAround_23 : decode cX6_lookAround 23 = .ok (.getfield 21, 3) := by decide +kernel
theorem dX6_lookAround_26 : decode cX6_lookAround 26 = .ok (.iload_n 2, 1) := by decide +kernel
theorem dX6_lookAround_27 : decode cX6_lookAround 27 = .ok (.invokevirtual 56, 3) := by decide +kernel
theorem dX6_lookAround_30 : decode cX6_lookAround 30 = .ok (.checkcast 32, 3) := by decide +kernel
theorem dX6_lookAround_33 : decode cX6_lookAround 33 = .ok (.invokevirtual 64, 3) := by decide +kernel
theorem dX6_lookAround_36 : decode cX6_lookAround 36 = .ok (.iinc 2 1, 3) := by decide +kernel
theorem dX6_lookAround_39 : decode cX6_lookAround 39 = .ok (.goto (-29), 3) := by decide +kernel
theorem dX6_lookAround_42 : decode cX6_lookAround 42 = .ok (.return_, 1) := by decide +kernel
theorem dX6_judgePlaces_0 : decode cX6_judgePlaces 0 = .ok (.aload_n 0, 1) := by decide +kernel
theorem dX6_judgePlaces_1 : decode cX6_judgePlaces 1 = .ok (.aload_n 1, 1) := by decide +kernel
theorem dX6_judgePlaces_2 : decode cX6_judgePlaces 2 = .ok (.invokevirtual 68, 3) := by decide +kernel
theorem dX6_judgePlaces_5 : decode cX6_judgePlaces 5 = .ok (.aload_n 1, 1) := by decide +kernel
theorem dX6_judgePlaces_6 : decode cX6_judgePlaces 6 = .ok (.aload_n 0, 1) := by decide +kernel
theorem dX6_judgePlaces_7 : decode cX6_judgePlaces 7 = .ok (.getfield 12, 3) := by decide +kernel
theorem dX6_judgePlaces_10 : decode cX6_judgePlaces 10 = .ok (.invokevirtual 71, 3) := by decide +kernel
theorem dX6_judgePlaces_13 : decode cX6_judgePlaces 13 = .ok (.return_, 1) := by decide +kernel
theorem dX6_put_0 : decode cX6_put 0 = .ok (.aload_n 0, 1) := by decide +kernel
theorem dX6_put_1 : decode cX6_put 1 = .ok (.aload_n 1, 1) := by decide +kernel
theorem dX6_put_2 : decode cX6_put 2 = .ok (.invokevirtual 68, 3) := by decide +kernel
theorem dX6_put_5 : decode cX6_put 5 = .ok (.aload_n 0, 1) := by decide +kernel
theorem dX6_put_6 : decode cX6_put 6 = .ok (.aload_n 1, 1) := by decide +kernel
theorem dX6_put_7 : decode cX6_put 7 = .ok (.iconst (-1), 1) := by decide +kernel
theorem dX6_put_8 : decode cX6_put 8 = .ok (.invokevirtual 75, 3) := by decide +kernel
theorem dX6_put_11 : decode cX6_put 11 = .ok (.aload_n 1, 1) := by decide +kernel
theorem dX6_put_12 : decode cX6_put 12 = .ok (.iload_n 2, 1) := by decide +kernel
theorem dX6_put_13 : decode cX6_put 13 = .ok (.putfield 37, 3) := by decide +kernel
theorem dX6_put_16 : decode cX6_put 16 = .ok (.aload_n 1, 1) := by decide +kernel
theorem dX6_put_17 : decode cX6_put 17 = .ok (.aload_n 3, 1) := by decide +kernel
theorem dX6_put_18 : decode cX6_put 18 = .ok (.putfield 31, 3) := by decide +kernel
theorem dX6_put_21 : decode cX6_put 21 = .ok (.aload_n 0, 1) := by decide +kernel
theorem dX6_put_22 : decode cX6_put 22 = .ok (.aload_n 1, 1) := by decide +kernel
theorem dX6_put_23 : decode cX6_put 23 = .ok (.iconst 1, 1) := by decide +kernel
theorem dX6_put_24 : decode cX6_put 24 = .ok (.invokevirtual 75, 3) := by decide +kernel
theorem dX6_put_27 : decode cX6_put 27 = .ok (.return_, 1) := by decide +kernel
theorem dX6_putAt_0 : decode cX6_putAt 0 = .ok (.iload_n 2, 1) := by decide +kernel
theorem dX6_putAt_1 : decode cX6_putAt 1 = .ok (.bipush 8, 2) := by decide +kernel
theorem dX6_putAt_3 : decode cX6_putAt 3 = .ok (.irem, 1) := by decide +kernel
theorem dX6_putAt_4 : decode cX6_putAt 4 = .ok (.istore_n 3, 1) := by decide +kernel
theorem dX6_putAt_5 : decode cX6_putAt 5 = .ok (.iload_n 2, 1) := by decide +kernel
theorem dX6_putAt_6 : decode cX6_putAt 6 = .ok (.ifCond .lt 43, 3) := by decide +kernel
theorem dX6_putAt_9 : decode cX6_putAt 9 = .ok (.iload_n 2, 1) := by decide +kernel
theorem dX6_putAt_10 : decode cX6_putAt 10 = .ok (.bipush 8, 2) := by decide +kernel
theorem dX6_putAt_12 : decode cX6_putAt 12 = .ok (.idiv, 1) := by decide +kernel
theorem dX6_putAt_13 : decode cX6_putAt 13 = .ok (.bipush 30, 2) := by decide +kernel
theorem dX6_putAt_15 : decode cX6_putAt 15 = .ok (.if_icmp .ge 34, 3) := by decide +kernel
theorem dX6_putAt_18 : decode cX6_putAt 18 = .ok (.iload_n 3, 1) := by decide +kernel
theorem dX6_putAt_19 : decode cX6_putAt 19 = .ok (.aload_n 0, 1) := by decide +kernel
theorem dX6_putAt_20 : decode cX6_putAt 20 = .ok (.getfield 12, 3) := by decide +kernel
theorem dX6_putAt_23 : decode cX6_putAt 23 = .ok (.invokevirtual 52, 3) := by decide +kernel
theorem dX6_putAt_26 : decode cX6_putAt 26 = .ok (.if_icmp .ge 23, 3) := by decide +kernel
theorem dX6_putAt_29 : decode cX6_putAt 29 = .ok (.aload_n 0, 1) := by decide +kernel
theorem dX6_putAt_30 : decode cX6_putAt 30 = .ok (.aload_n 1, 1) := by decide +kernel
theorem dX6_putAt_31 : decode cX6_putAt 31 = .ok (.iload_n 2, 1) := by decide +kernel
theorem dX6_putAt_32 : decode cX6_putAt 32 = .ok (.bipush 8, 2) := by decide +kernel
theorem dX6_putAt_34 : decode cX6_putAt 34 = .ok (.idiv, 1) := by decide +kernel
theorem dX6_putAt_35 : decode cX6_putAt 35 = .ok (.aload_n 0, 1) := by decide +kernel
theorem dX6_putAt_36 : decode cX6_putAt 36 = .ok (.getfield 12, 3) := by decide +kernel
theorem dX6_putAt_39 : decode cX6_putAt 39 = .ok (.iload_n 3, 1) := by decide +kernel
theorem dX6_putAt_40 : decode cX6_putAt 40 = .ok (.invokevirtual 56, 3) := by decide +kernel
theorem dX6_putAt_43 : decode cX6_putAt 43 = .ok (.checkcast 79, 3) := by decide +kernel
theorem dX6_putAt_46 : decode cX6_putAt 46 = .ok (.invokevirtual 81, 3) := by decide +kernel
theorem dX6_putAt_49 : decode cX6_putAt 49 = .ok (.return_, 1) := by decide +kernel
theorem dX6_take_0 : decode cX6_take 0 = .ok (.aload_n 0, 1) := by decide +kernel
theorem dX6_take_1 : decode cX6_take 1 = .ok (.aload_n 1, 1) := by decide +kernel
theorem dX6_take_2 : decode cX6_take 2 = .ok (.invokevirtual 68, 3) := by decide +kernel
theorem dX6_take_5 : decode cX6_take 5 = .ok (.aload_n 0, 1) := by decide +kernel
theorem dX6_take_6 : decode cX6_take 6 = .ok (.aload_n 1, 1) := by decide +kernel
theorem dX6_take_7 : decode cX6_take 7 = .ok (.iconst (-1), 1) := by decide +kernel
theorem dX6_take_8 : decode cX6_take 8 = .ok (.invokevirtual 75, 3) := by decide +kernel
theorem dX6_take_11 : decode cX6_take 11 = .ok (.aload_n 1, 1) := by decide +kernel
theorem dX6_take_12 : decode cX6_take 12 = .ok (.iconst (-1), 1) := by decide +kernel
theorem dX6_take_13 : decode cX6_take 13 = .ok (.putfield 37, 3) := by decide +kernel
theorem dX6_take_16 : decode cX6_take 16 = .ok (.aload_n 1, 1) := by decide +kernel
theorem dX6_take_17 : decode cX6_take 17 = .ok (.aconst_null, 1) := by decide +kernel
theorem dX6_take_18 : decode cX6_take 18 = .ok (.putfield 31, 3) := by decide +kernel
theorem dX6_take_21 : decode cX6_take 21 = .ok (.return_, 1) := by decide +kernel
theorem dX6_changeAmounts_0 : decode cX6_changeAmounts 0 = .ok (.iconst 0, 1) := by decide +kernel
theorem dX6_changeAmounts_1 : decode cX6_changeAmounts 1 = .ok (.istore_n 3, 1) := by decide +kernel
theorem dX6_changeAmounts_2 : decode cX6_changeAmounts 2 = .ok (.iload_n 3, 1) := by decide +kernel
theorem dX6_changeAmounts_3 : decode cX6_changeAmounts 3 = .ok (.aload_n 0, 1) := by decide +kernel
theorem dX6_changeAmounts_4 : decode cX6_changeAmounts 4 = .ok (.getfield 28, 3) := by decide +kernel
theorem dX6_changeAmounts_7 : decode cX6_changeAmounts 7 = .ok (.arraylength, 1) := by decide +kernel
theorem dX6_changeAmounts_8 : decode cX6_changeAmounts 8 = .ok (.if_icmp .ge 36, 3) := by decide +kernel
theorem dX6_changeAmounts_11 : decode cX6_changeAmounts 11 = .ok (.aload_n 1, 1) := by decide +kernel
theorem dX6_changeAmounts_12 : decode cX6_changeAmounts 12 = .ok (.getfield 31, 3) := by decide +kernel
theorem dX6_changeAmounts_15 : decode cX6_changeAmounts 15 = .ok (.ifnull 29, 3) := by decide +kernel
theorem dX6_changeAmounts_18 : decode cX6_changeAmounts 18 = .ok (.aload_n 0, 1) := by decide +kernel
theorem dX6_changeAmounts_19 : decode cX6_changeAmounts 19 = .ok (.getfield 28, 3) := by decide +kernel
theorem dX6_changeAmounts_22 : decode cX6_changeAmounts 22 = .ok (.iload_n 3, 1) := by decide +kernel
theorem dX6_changeAmounts_23 : decode cX6_changeAmounts 23 = .ok (.dup2, 1) := by decide +kernel
theorem dX6_changeAmounts_24 : decode cX6_changeAmounts 24 = .ok (.iaload, 1) := by decide +kernel
theorem dX6_changeAmounts_25 : decode cX6_changeAmounts 25 = .ok (.iload_n 2, 1) := by decide +kernel
theorem dX6_changeAmounts_26 : decode cX6_changeAmounts 26 = .ok (.aload_n 1, 1) := by decide +kernel
theorem dX6_changeAmounts_27 : decode cX6_changeAmounts 27 = .ok (.iload_n 3, 1) := by decide +kernel
theorem dX6_changeAmounts_28 : decode cX6_changeAmounts 28 = .ok (.aload_n 1, 1) := by decide +kernel
theorem dX6_changeAmounts_29 : decode cX6_changeAmounts 29 = .ok (.getfield 37, 3) := by decide +kernel
theorem dX6_changeAmounts_32 : decode cX6_changeAmounts 32 = .ok (.invokevirtual 85, 3) := by decide +kernel
theorem dX6_changeAmounts_35 : decode cX6_changeAmounts 35 = .ok (.imul, 1) := by decide +kernel
theorem dX6_changeAmounts_36 : decode cX6_changeAmounts 36 = .ok (.iadd, 1) := by decide +kernel
theorem dX6_changeAmounts_37 : decode cX6_changeAmounts 37 = .ok (.iastore, 1) := by decide +kernel
theorem dX6_changeAmounts_38 : decode cX6_changeAmounts 38 = .ok (.iinc 3 1, 3) := by decide +kernel
theorem dX6_changeAmounts_41 : decode cX6_changeAmounts 41 = .ok (.goto (-39), 3) := by decide +kernel
theorem dX6_changeAmounts_44 : decode cX6_changeAmounts 44 = .ok (.return_, 1) := by decide +kernel
theorem dX6_takeAll_0 : decode cX6_takeAll 0 = .ok (.iconst 0, 1) := by decide +kernel
theorem dX6_takeAll_1 : decode cX6_takeAll 1 = .ok (.istore_n 2, 1) := by decide +kernel
theorem dX6_takeAll_2 : decode cX6_takeAll 2 = .ok (.iload_n 2, 1) := by decide +kernel
theorem dX6_takeAll_3 : decode cX6_takeAll 3 = .ok (.aload_n 0, 1) := by decide +kernel
theorem dX6_takeAll_4 : decode cX6_takeAll 4 = .ok (.getfield 21, 3) := by decide +kernel
theorem dX6_takeAll_7 : decode cX6_takeAll 7 = .ok (.invokevirtual 52, 3) := by decide +kernel
theorem dX6_takeAll_10 : decode cX6_takeAll 10 = .ok (.if_icmp .ge 32, 3) := by decide +kernel
theorem dX6_takeAll_13 : decode cX6_takeAll 13 = .ok (.iload_n 1, 1) := by decide +kernel
theorem dX6_takeAll_14 : decode cX6_takeAll 14 = .ok (.iload_n 2, 1) := by decide +kernel
theorem dX6_takeAll_15 : decode cX6_takeAll 15 = .ok (.invokestatic 89, 3) := by decide +kernel
theorem dX6_takeAll_18 : decode cX6_takeAll 18 = .ok (.ifCond .eq 18, 3) := by decide +kernel
theorem dX6_takeAll_21 : decode cX6_takeAll 21 = .ok (.aload_n 0, 1) := by decide +kernel
theorem dX6_takeAll_22 : decode cX6_takeAll 22 = .ok (.aload_n 0, 1) := by decide +kernel
theorem dX6_takeAll_23 : decode cX6_takeAll 23 = .ok (.getfield 21, 3) := by decide +kernel
theorem dX6_takeAll_26 : decode cX6_takeAll 26 = .ok (.iload_n 2, 1) := by decide +kernel
theorem dX6_takeAll_27 : decode cX6_takeAll 27 = .ok (.invokevirtual 56, 3) := by decide +kernel
theorem dX6_takeAll_30 : decode cX6_takeAll 30 = .ok (.checkcast 32, 3) := by decide +kernel
theorem dX6_takeAll_33 : decode cX6_takeAll 33 = .ok (.invokevirtual 93, 3) := by decide +kernel
theorem dX6_takeAll_36 : decode cX6_takeAll 36 = .ok (.iinc 2 1, 3) := by decide +kernel
theorem dX6_takeAll_39 : decode cX6_takeAll 39 = .ok (.goto (-37), 3) := by decide +kernel
theorem dX6_takeAll_42 : decode cX6_takeAll 42 = .ok (.return_, 1) := by decide +kernel
theorem dX6_repair_0 : decode cX6_repair 0 = .ok (.aload_n 0, 1) := by decide +kernel
theorem dX6_repair_1 : decode cX6_repair 1 = .ok (.iload_n 1, 1) := by decide +kernel
theorem dX6_repair_2 : decode cX6_repair 2 = .ok (.invokevirtual 96, 3) := by decide +kernel
theorem dX6_repair_5 : decode cX6_repair 5 = .ok (.iload_n 1, 1) := by decide +kernel
theorem dX6_repair_6 : decode cX6_repair 6 = .ok (.istore_n 2, 1) := by decide +kernel
theorem dX6_repair_7 : decode cX6_repair 7 = .ok (.iconst 0, 1) := by decide +kernel
theorem dX6_repair_8 : decode cX6_repair 8 = .ok (.istore_n 3, 1) := by decide +kernel
theorem dX6_repair_9 : decode cX6_repair 9 = .ok (.iload_n 3, 1) := by decide +kernel
theorem dX6_repair_10 : decode cX6_repair 10 = .ok (.bipush 16, 2) := by decide +kernel
theorem dX6_repair_12 : decode cX6_repair 12 = .ok (.if_icmp .ge 48, 3) := by decide +kernel
theorem dX6_repair_15 : decode cX6_repair 15 = .ok (.aload_n 0, 1) := by decide +kernel
theorem dX6_repair_16 : decode cX6_repair 16 = .ok (.iload_n 2, 1) := by decide +kernel
theorem dX6_repair_17 : decode cX6_repair 17 = .ok (.invokevirtual 99, 3) := by decide +kernel
theorem dX6_repair_20 : decode cX6_repair 20 = .ok (.astore 4, 2) := by decide +kernel
theorem dX6_repair_22 : decode cX6_repair 22 = .ok (.aload 4, 2) := by decide +kernel
theorem dX6_repair_24 : decode cX6_repair 24 = .ok (.ifnonnull 6, 3) := by decide +kernel
theorem dX6_repair_27 : decode cX6_repair 27 = .ok (.goto 33, 3) := by decide +kernel
theorem dX6_repair_30 : decode cX6_repair 30 = .ok (.iload_n 2, 1) := by decide +kernel
theorem dX6_repair_31 : decode cX6_repair 31 = .ok (.iconst 1, 1) := by decide +kernel
theorem dX6_repair_32 : decode cX6_repair 32 = .ok (.aload 4, 2) := by decide +kernel
theorem dX6_repair_34 : decode cX6_repair 34 = .ok (.getfield 103, 3) := by decide +kernel
theorem dX6_repair_37 : decode cX6_repair 37 = .ok (.ishl, 1) := by decide +kernel
theorem dX6_repair_38 : decode cX6_repair 38 = .ok (.iconst (-1), 1) := by decide +kernel
theorem dX6_repair_39 : decode cX6_repair 39 = .ok (.ixor, 1) := by decide +kernel
theorem dX6_repair_40 : decode cX6_repair 40 = .ok (.iand, 1) := by decide +kernel
theorem dX6_repair_41 : decode cX6_repair 41 = .ok (.istore_n 2, 1) := by decide +kernel
theorem dX6_repair_42 : decode cX6_repair 42 = .ok (.aload_n 0, 1) := by decide +kernel
theorem dX6_repair_43 : decode cX6_repair 43 = .ok (.aload 4, 2) := by decide +kernel
theorem dX6_repair_45 : decode cX6_repair 45 = .ok (.aload_n 0, 1) := by decide +kernel
theorem dX6_repair_46 : decode cX6_repair 46 = .ok (.aload 4, 2) := by decide +kernel
theorem dX6_repair_48 : decode cX6_repair 48 = .ok (.invokevirtual 106, 3) := by decide +kernel
theorem dX6_repair_51 : decode cX6_repair 51 = .ok (.invokevirtual 110, 3) := by decide +kernel
theorem dX6_repair_54 : decode cX6_repair 54 = .ok (.iinc 3 1, 3) := by decide +kernel
theorem dX6_repair_57 : decode cX6_repair 57 = .ok (.goto (-48), 3) := by decide +kernel
theorem dX6_repair_60 : decode cX6_repair 60 = .ok (.iload_n 1, 1) := by decide +kernel
theorem dX6_repair_61 : decode cX6_repair 61 = .ok (.aload_n 0, 1) := by decide +kernel
theorem dX6_repair_62 : decode cX6_repair 62 = .ok (.invokevirtual 113, 3) := by decide +kernel
theorem dX6_repair_65 : decode cX6_repair 65 = .ok (.iand, 1) := by decide +kernel
theorem dX6_repair_66 : decode cX6_repair 66 = .ok (.invokestatic 116, 3) := by decide +kernel
theorem dX6_repair_69 : decode cX6_repair 69 = .ok (.ireturn, 1) := by decide +kernel
theorem dX6_copyPlaces_0 : decode cX6_copyPlaces 0 = .ok (.aload_n 1, 1) := by decide +kernel
theorem dX6_copyPlaces_1 : decode cX6_copyPlaces 1 = .ok (.iconst (-1), 1) := by decide +kernel
theorem dX6_copyPlaces_2 : decode cX6_copyPlaces 2 = .ok (.invokestatic 122, 3) := by decide +kernel
theorem dX6_copyPlaces_5 : decode cX6_copyPlaces 5 = .ok (.iconst 0, 1) := by decide +kernel
theorem dX6_copyPlaces_6 : decode cX6_copyPlaces 6 = .ok (.istore_n 2, 1) := by decide +kernel
theorem dX6_copyPlaces_7 : decode cX6_copyPlaces 7 = .ok (.iload_n 2, 1) := by decide +kernel
theorem dX6_copyPlaces_8 : decode cX6_copyPlaces 8 = .ok (.aload_n 0, 1) := by decide +kernel
theorem dX6_copyPlaces_9 : decode cX6_copyPlaces 9 = .ok (.getfield 21, 3) := by decide +kernel
theorem dX6_copyPlaces_12 : decode cX6_copyPlaces 12 = .ok (.invokevirtual 52, 3) := by decide +kernel
theorem dX6_copyPlaces_15 : decode cX6_copyPlaces 15 = .ok (.if_icmp .ge 32, 3) := by decide +kernel
theorem dX6_copyPlaces_18 : decode cX6_copyPlaces 18 = .ok (.iload_n 2, 1) := by decide +kernel
theorem dX6_copyPlaces_19 : decode cX6_copyPlaces 19 = .ok (.aload_n 1, 1) := by decide +kernel
theorem dX6_copyPlaces_20 : decode cX6_copyPlaces 20 = .ok (.arraylength, 1) := by decide +kernel
theorem dX6_copyPlaces_21 : decode cX6_copyPlaces 21 = .ok (.if_icmp .ge 26, 3) := by decide +kernel
theorem dX6_copyPlaces_24 : decode cX6_copyPlaces 24 = .ok (.aload_n 1, 1) := by decide +kernel
theorem dX6_copyPlaces_25 : decode cX6_copyPlaces 25 = .ok (.iload_n 2, 1) := by decide +kernel
theorem dX6_copyPlaces_26 : decode cX6_copyPlaces 26 = .ok (.aload_n 0, 1) := by decide +kernel
theorem dX6_copyPlaces_27 : decode cX6_copyPlaces 27 = .ok (.getfield 21, 3) := by decide +kernel
theorem dX6_copyPlaces_30 : decode cX6_copyPlaces 30 = .ok (.iload_n 2, 1) := by decide +kernel
theorem dX6_copyPlaces_31 : decode cX6_copyPlaces 31 = .ok (.invokevirtual 56, 3) := by decide +kernel
theorem dX6_copyPlaces_34 : decode cX6_copyPlaces 34 = .ok (.checkcast 32, 3) := by decide +kernel
theorem dX6_copyPlaces_37 : decode cX6_copyPlaces 37 = .ok (.invokevirtual 128, 3) := by decide +kernel
theorem dX6_copyPlaces_40 : decode cX6_copyPlaces 40 = .ok (.iastore, 1) := by decide +kernel
theorem dX6_copyPlaces_41 : decode cX6_copyPlaces 41 = .ok (.iinc 2 1, 3) := by decide +kernel
theorem dX6_copyPlaces_44 : decode cX6_copyPlaces 44 = .ok (.goto (-37), 3) := by decide +kernel
theorem dX6_copyPlaces_47 : decode cX6_copyPlaces 47 = .ok (.return_, 1) := by decide +kernel
theorem dX6_setFreeLessons_0 : decode cX6_setFreeLessons 0 = .ok (.iconst 0, 1) := by decide +kernel
theorem dX6_setFreeLessons_1 : decode cX6_setFreeLessons 1 = .ok (.istore_n 2, 1) := by decide +kernel
theorem dX6_setFreeLessons_2 : decode cX6_setFreeLessons 2 = .ok (.iconst 0, 1) := by decide +kernel
theorem dX6_setFreeLessons_3 : decode cX6_setFreeLessons 3 = .ok (.istore_n 3, 1) := by decide +kernel
theorem dX6_setFreeLessons_4 : decode cX6_setFreeLessons 4 = .ok (.iload_n 3, 1) := by decide +kernel
theorem dX6_setFreeLessons_5 : decode cX6_setFreeLessons 5 = .ok (.aload_n 0, 1) := by decide +kernel
theorem dX6_setFreeLessons_6 : decode cX6_setFreeLessons 6 = .ok (.getfield 21, 3) := by decide +kernel
theorem dX6_setFreeLessons_9 : decode cX6_setFreeLessons 9 = .ok (.invokevirtual 52, 3) := by decide +kernel
theorem dX6_setFreeLessons_12 : decode cX6_setFreeLessons 12 = .ok (.if_icmp .ge 37, 3) := by decide +kernel
theorem dX6_setFreeLessons_15 : decode cX6_setFreeLessons 15 = .ok (.iload_n 2, 1) := by decide +kernel
theorem dX6_setFreeLessons_16 : decode cX6_setFreeLessons 16 = .ok (.aload_n 0, 1) := by decide +kernel
theorem dX6_setFreeLessons_17 : decode cX6_setFreeLessons 17 = .ok (.aload_n 0, 1) := by decide +kernel
theorem dX6_setFreeLessons_18 : decode cX6_setFreeLessons 18 = .ok (.getfield 21, 3) := by decide +kernel
theorem dX6_setFreeLessons_21 : decode cX6_setFreeLessons 21 = .ok (.iload_n 3, 1) := by decide +kernel
theorem dX6_setFreeLessons_22 : decode cX6_setFreeLessons 22 = .ok (.invokevirtual 56, 3) := by decide +kernel
theorem dX6_setFreeLessons_25 : decode cX6_setFreeLessons 25 = .ok (.checkcast 32, 3) := by decide +kernel
theorem dX6_setFreeLessons_28 : decode cX6_setFreeLessons 28 = .ok (.invokevirtual 131, 3) := by decide +kernel
theorem dX6_setFreeLessons_31 : decode cX6_setFreeLessons 31 = .ok (.ifCond .eq 9, 3) := by decide +kernel
theorem dX6_setFreeLessons_34 : decode cX6_setFreeLessons 34 = .ok (.iconst 1, 1) := by decide +kernel
theorem dX6_setFreeLessons_35 : decode cX6_setFreeLessons 35 = .ok (.iload_n 3, 1) := by decide +kernel
theorem dX6_setFreeLessons_36 : decode cX6_setFreeLessons 36 = .ok (.ishl, 1) := by decide +kernel
theorem dX6_setFreeLessons_37 : decode cX6_setFreeLessons 37 = .ok (.goto 4, 3) := by decide +kernel
theorem dX6_setFreeLessons_40 : decode cX6_setFreeLessons 40 = .ok (.iconst 0, 1) := by decide +kernel
theorem dX6_setFreeLessons_41 : decode cX6_setFreeLessons 41 = .ok (.ior, 1) := by decide +kernel
theorem dX6_setFreeLessons_42 : decode cX6_setFreeLessons 42 = .ok (.istore_n 2, 1) := by decide +kernel
theorem dX6_setFreeLessons_43 : decode cX6_setFreeLessons 43 = .ok (.iinc 3 1, 3) := by decide +kernel
theorem dX6_setFreeLessons_46 : decode cX6_setFreeLessons 46 = .ok (.goto (-42), 3) := by decide +kernel
theorem dX6_setFreeLessons_49 : decode cX6_setFreeLessons 49 = .ok (.aload_n 0, 1) := by decide +kernel
theorem dX6_setFreeLessons_50 : decode cX6_setFreeLessons 50 = .ok (.iload_n 2, 1) := by decide +kernel
theorem dX6_setFreeLessons_51 : decode cX6_setFreeLessons 51 = .ok (.invokevirtual 96, 3) := by decide +kernel
theorem dX6_setFreeLessons_54 : decode cX6_setFreeLessons 54 = .ok (.iconst 0, 1) := by decide +kernel
theorem dX6_setFreeLessons_55 : decode cX6_setFreeLessons 55 = .ok (.istore_n 3, 1) := by decide +kernel
theorem dX6_setFreeLessons_56 : decode cX6_setFreeLessons 56 = .ok (.iload_n 3, 1) := by decide +kernel
theorem dX6_setFreeLessons_57 : decode cX6_setFreeLessons 57 = .ok (.aload_n 0, 1) := by decide +kernel
theorem dX6_setFreeLessons_58 : decode cX6_setFreeLessons 58 = .ok (.getfield 21, 3) := by decide +kernel
theorem dX6_setFreeLessons_61 : decode cX6_setFreeLessons 61 = .ok (.invokevirtual 52, 3) := by decide +kernel
theorem dX6_setFreeLessons_64 : decode cX6_setFreeLessons 64 = .ok (.if_icmp .ge 69, 3) := by decide +kernel
theorem dX6_setFreeLessons_67 : decode cX6_setFreeLessons 67 = .ok (.aload_n 0, 1) := by decide +kernel
theorem dX6_setFreeLessons_68 : decode cX6_setFreeLessons 68 = .ok (.getfield 21, 3) := by decide +kernel
theorem dX6_setFreeLessons_71 : decode cX6_setFreeLessons 71 = .ok (.iload_n 3, 1) := by decide +kernel
theorem dX6_setFreeLessons_72 : decode cX6_setFreeLessons 72 = .ok (.invokevirtual 56, 3) := by decide +kernel
theorem dX6_setFreeLessons_75 : decode cX6_setFreeLessons 75 = .ok (.checkcast 32, 3) := by decide +kernel
theorem dX6_setFreeLessons_78 : decode cX6_setFreeLessons 78 = .ok (.astore 4, 2) := by decide +kernel
theorem dX6_setFreeLessons_80 : decode cX6_setFreeLessons 80 = .ok (.iload_n 2, 1) := by decide +kernel
theorem dX6_setFreeLessons_81 : decode cX6_setFreeLessons 81 = .ok (.iload_n 3, 1) := by decide +kernel
theorem dX6_setFreeLessons_82 : decode cX6_setFreeLessons 82 = .ok (.invokestatic 89, 3) := by decide +kernel
theorem dX6_setFreeLessons_85 : decode cX6_setFreeLessons 85 = .ok (.ifCond .eq 42, 3) := by decide +kernel
theorem dX6_setFreeLessons_88 : decode cX6_setFreeLessons 88 = .ok (.aload_n 1, 1) := by decide +kernel
theorem dX6_setFreeLessons_89 : decode cX6_setFreeLessons 89 = .ok (.iload_n 3, 1) := by decide +kernel
theorem dX6_setFreeLessons_90 : decode cX6_setFreeLessons 90 = .ok (.invokestatic 134, 3) := by decide +kernel
theorem dX6_setFreeLessons_93 : decode cX6_setFreeLessons 93 = .ok (.iconst (-1), 1) := by decide +kernel
theorem dX6_setFreeLessons_94 : decode cX6_setFreeLessons 94 = .ok (.if_icmp .eq 33, 3) := by decide +kernel
theorem dX6_setFreeLessons_97 : decode cX6_setFreeLessons 97 = .ok (.aload_n 0, 1) := by decide +kernel
theorem dX6_setFreeLessons_98 : decode cX6_setFreeLessons 98 = .ok (.aload 4, 2) := by decide +kernel
theorem dX6_setFreeLessons_100 : decode cX6_setFreeLessons 100 = .ok (.invokevirtual 138, 3) := by decide +kernel
theorem dX6_setFreeLessons_103 : decode cX6_setFreeLessons 103 = .ok (.aload 4, 2) := by decide +kernel
theorem dX6_setFreeLessons_105 : decode cX6_setFreeLessons 105 = .ok (.aload_n 1, 1) := by decide +kernel
theorem dX6_setFreeLessons_106 : decode cX6_setFreeLessons 106 = .ok (.iload_n 3, 1) := by decide +kernel
theorem dX6_setFreeLessons_107 : decode cX6_setFreeLessons 107 = .ok (.invokestatic 134, 3) := by decide +kernel
theorem dX6_setFreeLessons_110 : decode cX6_setFreeLessons 110 = .ok (.invokevirtual 141, 3) := by decide +kernel
theorem dX6_setFreeLessons_113 : decode cX6_setFreeLessons 113 = .ok (.ifCond .eq 14, 3) := by decide +kernel
theorem dX6_setFreeLessons_116 : decode cX6_setFreeLessons 116 = .ok (.aload_n 0, 1) := by decide +kernel
theorem dX6_setFreeLessons_117 : decode cX6_setFreeLessons 117 = .ok (.aload 4, 2) := by decide +kernel
theorem dX6_setFreeLessons_119 : decode cX6_setFreeLessons 119 = .ok (.aload_n 1, 1) := by decide +kernel
theorem dX6_setFreeLessons_120 : decode cX6_setFreeLessons 120 = .ok (.iload_n 3, 1) := by decide +kernel
theorem dX6_setFreeLessons_121 : decode cX6_setFreeLessons 121 = .ok (.invokestatic 134, 3) := by decide +kernel
theorem dX6_setFreeLessons_124 : decode cX6_setFreeLessons 124 = .ok (.invokevirtual 110, 3) := by decide +kernel
theorem dX6_setFreeLessons_127 : decode cX6_setFreeLessons 127 = .ok (.iinc 3 1, 3) := by decide +kernel
theorem dX6_setFreeLessons_130 : decode cX6_setFreeLessons 130 = .ok (.goto (-74), 3) := by decide +kernel
theorem dX6_setFreeLessons_133 : decode cX6_setFreeLessons 133 = .ok (.return_, 1) := by decide +kernel
theorem dX6_changeWish_0 : decode cX6_changeWish 0 = .ok (.aload_n 1, 1) := by decide +kernel
theorem dX6_changeWish_1 : decode cX6_changeWish 1 = .ok (.getfield 145, 3) := by decide +kernel
theorem dX6_changeWish_4 : decode cX6_changeWish 4 = .ok (.iload_n 2, 1) := by decide +kernel
theorem dX6_changeWish_5 : decode cX6_changeWish 5 = .ok (.invokestatic 134, 3) := by decide +kernel
theorem dX6_changeWish_8 : decode cX6_changeWish 8 = .ok (.istore 4, 2) := by decide +kernel
theorem dX6_changeWish_10 : decode cX6_changeWish 10 = .ok (.iconst 0, 1) := by decide +kernel
theorem dX6_changeWish_11 : decode cX6_changeWish 11 = .ok (.istore 5, 2) := by decide +kernel
theorem dX6_changeWish_13 : decode cX6_changeWish 13 = .ok (.iload 5, 2) := by decide +kernel
theorem dX6_changeWish_15 : decode cX6_changeWish 15 = .ok (.aload_n 0, 1) := by decide +kernel
theorem dX6_changeWish_16 : decode cX6_changeWish 16 = .ok (.getfield 21, 3) := by decide +kernel
theorem dX6_changeWish_19 : decode cX6_changeWish 19 = .ok (.invokevirtual 52, 3) := by decide +kernel
theorem dX6_changeWish_22 : decode cX6_changeWish 22 = .ok (.if_icmp .ge 57, 3) := by decide +kernel
theorem dX6_changeWish_25 : decode cX6_changeWish 25 = .ok (.aload_n 0, 1) := by decide +kernel
theorem dX6_changeWish_26 : decode cX6_changeWish 26 = .ok (.getfield 21, 3) := by decide +kernel
theorem dX6_changeWish_29 : decode cX6_changeWish 29 = .ok (.iload 5, 2) := by decide +kernel
theorem dX6_changeWish_31 : decode cX6_changeWish 31 = .ok (.invokevirtual 56, 3) := by decide +kernel
theorem dX6_changeWish_34 : decode cX6_changeWish 34 = .ok (.checkcast 32, 3) := by decide +kernel
theorem dX6_changeWish_37 : decode cX6_changeWish 37 = .ok (.astore 6, 2) := by decide +kernel
theorem dX6_changeWish_39 : decode cX6_changeWish 39 = .ok (.aload 6, 2) := by decide +kernel
theorem dX6_changeWish_41 : decode cX6_changeWish 41 = .ok (.getfield 150, 3) := by decide +kernel
theorem dX6_changeWish_44 : decode cX6_changeWish 44 = .ok (.aload_n 1, 1) := by decide +kernel
theorem dX6_changeWish_45 : decode cX6_changeWish 45 = .ok (.if_acmp .ne 28, 3) := by decide +kernel
theorem dX6_changeWish_48 : decode cX6_changeWish 48 = .ok (.aload 6, 2) := by decide +kernel
theorem dX6_changeWish_50 : decode cX6_changeWish 50 = .ok (.invokevirtual 154, 3) := by decide +kernel
theorem dX6_changeWish_53 : decode cX6_changeWish 53 = .ok (.iload_n 2, 1) := by decide +kernel
theorem dX6_changeWish_54 : decode cX6_changeWish 54 = .ok (.invokestatic 89, 3) := by decide +kernel
theorem dX6_changeWish_57 : decode cX6_changeWish 57 = .ok (.ifCond .eq 16, 3) := by decide +kernel
theorem dX6_changeWish_60 : decode cX6_changeWish 60 = .ok (.aload_n 0, 1) := by decide +kernel
theorem dX6_changeWish_61 : decode cX6_changeWish 61 = .ok (.getfield 28, 3) := by decide +kernel
theorem dX6_changeWish_64 : decode cX6_changeWish 64 = .ok (.iconst 2, 1) := by decide +kernel
theorem dX6_changeWish_65 : decode cX6_changeWish 65 = .ok (.dup2, 1) := by decide +kernel
theorem dX6_changeWish_66 : decode cX6_changeWish 66 = .ok (.iaload, 1) := by decide +kernel
theorem dX6_changeWish_67 : decode cX6_changeWish 67 = .ok (.iload_n 3, 1) := by decide +kernel
theorem dX6_changeWish_68 : decode cX6_changeWish 68 = .ok (.iload 4, 2) := by decide +kernel
theorem dX6_changeWish_70 : decode cX6_changeWish 70 = .ok (.isub, 1) := by decide +kernel
theorem dX6_changeWish_71 : decode cX6_changeWish 71 = .ok (.iadd, 1) := by decide +kernel
theorem dX6_changeWish_72 : decode cX6_changeWish 72 = .ok (.iastore, 1) := by decide +kernel
theorem dX6_changeWish_73 : decode cX6_changeWish 73 = .ok (.iinc 5 1, 3) := by decide +kernel
theorem dX6_changeWish_76 : decode cX6_changeWish 76 = .ok (.goto (-63), 3) := by decide +kernel
theorem dX6_changeWish_79 : decode cX6_changeWish 79 = .ok (.iload_n 2, 1) := by decide +kernel
theorem dX6_changeWish_80 : decode cX6_changeWish 80 = .ok (.ifCond .lt 19, 3) := by decide +kernel
theorem dX6_changeWish_83 : decode cX6_changeWish 83 = .ok (.iload_n 2, 1) := by decide +kernel
theorem dX6_changeWish_84 : decode cX6_changeWish 84 = .ok (.aload_n 1, 1) := by decide +kernel
theorem dX6_changeWish_85 : decode cX6_changeWish 85 = .ok (.getfield 145, 3) := by decide +kernel
theorem dX6_changeWish_88 : decode cX6_changeWish 88 = .ok (.arraylength, 1) := by decide +kernel
theorem dX6_changeWish_89 : decode cX6_changeWish 89 = .ok (.if_icmp .ge 10, 3) := by decide +kernel
theorem dX6_changeWish_92 : decode cX6_changeWish 92 = .ok (.aload_n 1, 1) := by decide +kernel
theorem dX6_changeWish_93 : decode cX6_changeWish 93 = .ok (.getfield 145, 3) := by decide +kernel
theorem dX6_changeWish_96 : decode cX6_changeWish 96 = .ok (.iload_n 2, 1) := by decide +kernel
theorem dX6_changeWish_97 : decode cX6_changeWish 97 = .ok (.iload_n 3, 1) := by decide +kernel
theorem dX6_changeWish_98 : decode cX6_changeWish 98 = .ok (.iastore, 1) := by decide +kernel
theorem dX6_changeWish_99 : decode cX6_changeWish 99 = .ok (.iload 4, 2) := by decide +kernel
theorem dX6_changeWish_101 : decode cX6_changeWish 101 = .ok (.ireturn, 1) := by decide +kernel
theorem dX6_changeWeight_0 : decode cX6_changeWeight 0 = .ok (.aload_n 0, 1) := by decide +kernel
theorem dX6_changeWeight_1 : decode cX6_changeWeight 1 = .ok (.getfield 24, 3) := by decide +kernel
theorem dX6_changeWeight_4 : decode cX6_changeWeight 4 = .ok (.iload_n 1, 1) := by decide +kernel
theorem dX6_changeWeight_5 : decode cX6_changeWeight 5 = .ok (.invokestatic 134, 3) := by decide +kernel
theorem dX6_changeWeight_8 : decode cX6_changeWeight 8 = .ok (.istore_n 3, 1) := by decide +kernel
theorem dX6_changeWeight_9 : decode cX6_changeWeight 9 = .ok (.iload_n 1, 1) := by decide +kernel
theorem dX6_changeWeight_10 : decode cX6_changeWeight 10 = .ok (.ifCond .lt 19, 3) := by decide +kernel
theorem dX6_changeWeight_13 : decode cX6_changeWeight 13 = .ok (.iload_n 1, 1) := by decide +kernel
theorem dX6_changeWeight_14 : decode cX6_changeWeight 14 = .ok (.aload_n 0, 1) := by decide +kernel
theorem dX6_changeWeight_15 : decode cX6_changeWeight 15 = .ok (.getfield 24, 3) := by decide +kernel
theorem dX6_changeWeight_18 : decode cX6_changeWeight 18 = .ok (.arraylength, 1) := by decide +kernel
theorem dX6_changeWeight_19 : decode cX6_changeWeight 19 = .ok (.if_icmp .ge 10, 3) := by decide +kernel
theorem dX6_changeWeight_22 : decode cX6_changeWeight 22 = .ok (.aload_n 0, 1) := by decide +kernel
theorem dX6_changeWeight_23 : decode cX6_changeWeight 23 = .ok (.getfield 24, 3) := by decide +kernel
theorem dX6_changeWeight_26 : decode cX6_changeWeight 26 = .ok (.iload_n 1, 1) := by decide +kernel
theorem dX6_changeWeight_27 : decode cX6_changeWeight 27 = .ok (.iload_n 2, 1) := by decide +kernel
theorem dX6_changeWeight_28 : decode cX6_changeWeight 28 = .ok (.iastore, 1) := by decide +kernel
theorem dX6_changeWeight_29 : decode cX6_changeWeight 29 = .ok (.iload_n 3, 1) := by decide +kernel
theorem dX6_changeWeight_30 : decode cX6_changeWeight 30 = .ok (.ireturn, 1) := by decide +kernel
theorem dX6_bookLateHours_0 : decode cX6_bookLateHours 0 = .ok (.iconst 0, 1) := by decide +kernel
theorem dX6_bookLateHours_1 : decode cX6_bookLateHours 1 = .ok (.istore_n 1, 1) := by decide +kernel
theorem dX6_bookLateHours_2 : decode cX6_bookLateHours 2 = .ok (.iload_n 1, 1) := by decide +kernel
theorem dX6_bookLateHours_3 : decode cX6_bookLateHours 3 = .ok (.aload_n 0, 1) := by decide +kernel
theorem dX6_bookLateHours_4 : decode cX6_bookLateHours 4 = .ok (.getfield 21, 3) := by decide +kernel
theorem dX6_bookLateHours_7 : decode cX6_bookLateHours 7 = .ok (.invokevirtual 52, 3) := by decide +kernel
theorem dX6_bookLateHours_10 : decode cX6_bookLateHours 10 = .ok (.if_icmp .ge 70, 3) := by decide +kernel
theorem dX6_bookLateHours_13 : decode cX6_bookLateHours 13 = .ok (.aload_n 0, 1) := by decide +kernel
theorem dX6_bookLateHours_14 : decode cX6_bookLateHours 14 = .ok (.getfield 21, 3) := by decide +kernel
theorem dX6_bookLateHours_17 : decode cX6_bookLateHours 17 = .ok (.iload_n 1, 1) := by decide +kernel
theorem dX6_bookLateHours_18 : decode cX6_bookLateHours 18 = .ok (.invokevirtual 56, 3) := by decide +kernel
theorem dX6_bookLateHours_21 : decode cX6_bookLateHours 21 = .ok (.checkcast 32, 3) := by decide +kernel
theorem dX6_bookLateHours_24 : decode cX6_bookLateHours 24 = .ok (.astore_n 2, 1) := by decide +kernel
theorem dX6_bookLateHours_25 : decode cX6_bookLateHours 25 = .ok (.aload_n 2, 1) := by decide +kernel
theorem dX6_bookLateHours_26 : decode cX6_bookLateHours 26 = .ok (.invokestatic 157, 3) := by decide +kernel
theorem dX6_bookLateHours_29 : decode cX6_bookLateHours 29 = .ok (.ifCond .eq 45, 3) := by decide +kernel
theorem dX6_bookLateHours_32 : decode cX6_bookLateHours 32 = .ok (.aload_n 2, 1) := by decide +kernel
theorem dX6_bookLateHours_33 : decode cX6_bookLateHours 33 = .ok (.getfield 150, 3) := by decide +kernel
theorem dX6_bookLateHours_36 : decode cX6_bookLateHours 36 = .ok (.getfield 160, 3) := by decide +kernel
theorem dX6_bookLateHours_39 : decode cX6_bookLateHours 39 = .ok (.bipush 9, 2) := by decide +kernel
theorem dX6_bookLateHours_41 : decode cX6_bookLateHours 41 = .ok (.if_icmp .ge 33, 3) := by decide +kernel
theorem dX6_bookLateHours_44 : decode cX6_bookLateHours 44 = .ok (.aload_n 2, 1) := by decide +kernel
theorem dX6_bookLateHours_45 : decode cX6_bookLateHours 45 = .ok (.getfield 150, 3) := by decide +kernel
theorem dX6_bookLateHours_48 : decode cX6_bookLateHours 48 = .ok (.dup, 1) := by decide +kernel
theorem dX6_bookLateHours_49 : decode cX6_bookLateHours 49 = .ok (.getfield 160, 3) := by decide +kernel
theorem dX6_bookLateHours_52 : decode cX6_bookLateHours 52 = .ok (.iconst 1, 1) := by decide +kernel
theorem dX6_bookLateHours_53 : decode cX6_bookLateHours 53 = .ok (.iadd, 1) := by decide +kernel
theorem dX6_bookLateHours_54 : decode cX6_bookLateHours 54 = .ok (.putfield 160, 3) := by decide +kernel
theorem dX6_bookLateHours_57 : decode cX6_bookLateHours 57 = .ok (.aload_n 0, 1) := by decide +kernel
theorem dX6_bookLateHours_58 : decode cX6_bookLateHours 58 = .ok (.getfield 28, 3) := by decide +kernel
theorem dX6_bookLateHours_61 : decode cX6_bookLateHours 61 = .ok (.iconst 1, 1) := by decide +kernel
theorem dX6_bookLateHours_62 : decode cX6_bookLateHours 62 = .ok (.dup2, 1) := by decide +kernel
theorem dX6_bookLateHours_63 : decode cX6_bookLateHours 63 = .ok (.iaload, 1) := by decide +kernel
theorem dX6_bookLateHours_64 : decode cX6_bookLateHours 64 = .ok (.aload_n 0, 1) := by decide +kernel
theorem dX6_bookLateHours_65 : decode cX6_bookLateHours 65 = .ok (.aload_n 2, 1) := by decide +kernel
theorem dX6_bookLateHours_66 : decode cX6_bookLateHours 66 = .ok (.getfield 150, 3) := by decide +kernel
theorem dX6_bookLateHours_69 : decode cX6_bookLateHours 69 = .ok (.invokevirtual 163, 3) := by decide +kernel
theorem dX6_bookLateHours_72 : decode cX6_bookLateHours 72 = .ok (.iadd, 1) := by decide +kernel
theorem dX6_bookLateHours_73 : decode cX6_bookLateHours 73 = .ok (.iastore, 1) := by decide +kernel
theorem dX6_bookLateHours_74 : decode cX6_bookLateHours 74 = .ok (.iinc 1 1, 3) := by decide +kernel
theorem dX6_bookLateHours_77 : decode cX6_bookLateHours 77 = .ok (.goto (-75), 3) := by decide +kernel
theorem dX6_bookLateHours_80 : decode cX6_bookLateHours 80 = .ok (.return_, 1) := by decide +kernel
theorem dX6_isLate_0 : decode cX6_isLate 0 = .ok (.aload_n 0, 1) := by decide +kernel
theorem dX6_isLate_1 : decode cX6_isLate 1 = .ok (.invokevirtual 154, 3) := by decide +kernel
theorem dX6_isLate_4 : decode cX6_isLate 4 = .ok (.ldc 167, 2) := by decide +kernel
theorem dX6_isLate_6 : decode cX6_isLate 6 = .ok (.iand, 1) := by decide +kernel
theorem dX6_isLate_7 : decode cX6_isLate 7 = .ok (.ifCond .eq 7, 3) := by decide +kernel
theorem dX6_isLate_10 : decode cX6_isLate 10 = .ok (.iconst 1, 1) := by decide +kernel
theorem dX6_isLate_11 : decode cX6_isLate 11 = .ok (.goto 4, 3) := by decide +kernel
theorem dX6_isLate_14 : decode cX6_isLate 14 = .ok (.iconst 0, 1) := by decide +kernel
theorem dX6_isLate_15 : decode cX6_isLate 15 = .ok (.ireturn, 1) := by decide +kernel
theorem dX6_lateLessonsOf_0 : decode cX6_lateLessonsOf 0 = .ok (.iconst 0, 1) := by decide +kernel
theorem dX6_lateLessonsOf_1 : decode cX6_lateLessonsOf 1 = .ok (.istore_n 2, 1) := by decide +kernel
theorem dX6_lateLessonsOf_2 : decode cX6_lateLessonsOf 2 = .ok (.iconst 0, 1) := by decide +kernel
theorem dX6_lateLessonsOf_3 : decode cX6_lateLessonsOf 3 = .ok (.istore_n 3, 1) := by decide +kernel
theorem dX6_lateLessonsOf_4 : decode cX6_lateLessonsOf 4 = .ok (.iload_n 3, 1) := by decide +kernel
theorem dX6_lateLessonsOf_5 : decode cX6_lateLessonsOf 5 = .ok (.aload_n 0, 1) := by decide +kernel
theorem dX6_lateLessonsOf_6 : decode cX6_lateLessonsOf 6 = .ok (.getfield 21, 3) := by decide +kernel
theorem dX6_lateLessonsOf_9 : decode cX6_lateLessonsOf 9 = .ok (.invokevirtual 52, 3) := by decide +kernel
theorem dX6_lateLessonsOf_12 : decode cX6_lateLessonsOf 12 = .ok (.if_icmp .ge 47, 3) := by decide +kernel
theorem dX6_lateLessonsOf_15 : decode cX6_lateLessonsOf 15 = .ok (.aload_n 0, 1) := by decide +kernel
theorem dX6_lateLessonsOf_16 : decode cX6_lateLessonsOf 16 = .ok (.getfield 21, 3) := by decide +kernel
theorem dX6_lateLessonsOf_19 : decode cX6_lateLessonsOf 19 = .ok (.iload_n 3, 1) := by decide +kernel
theorem dX6_lateLessonsOf_20 : decode cX6_lateLessonsOf 20 = .ok (.invokevirtual 56, 3) := by decide +kernel
theorem dX6_lateLessonsOf_23 : decode cX6_lateLessonsOf 23 = .ok (.checkcast 32, 3) := by decide +kernel
theorem dX6_lateLessonsOf_26 : decode cX6_lateLessonsOf 26 = .ok (.getfield 150, 3) := by decide +kernel
theorem dX6_lateLessonsOf_29 : decode cX6_lateLessonsOf 29 = .ok (.aload_n 1, 1) := by decide +kernel
theorem dX6_lateLessonsOf_30 : decode cX6_lateLessonsOf 30 = .ok (.if_acmp .ne 23, 3) := by decide +kernel
theorem dX6_lateLessonsOf_33 : decode cX6_lateLessonsOf 33 = .ok (.aload_n 0, 1) := by decide +kernel
theorem dX6_lateLessonsOf_34 : decode cX6_lateLessonsOf 34 = .ok (.getfield 21, 3) := by decide +kernel
theorem dX6_lateLessonsOf_37 : decode cX6_lateLessonsOf 37 = .ok (.iload_n 3, 1) := by decide +kernel
theorem dX6_lateLessonsOf_38 : decode cX6_lateLessonsOf 38 = .ok (.invokevirtual 56, 3) := by decide +kernel
theorem dX6_lateLessonsOf_41 : decode cX6_lateLessonsOf 41 = .ok (.checkcast 32, 3) := by decide +kernel
theorem dX6_lateLessonsOf_44 : decode cX6_lateLessonsOf 44 = .ok (.invokestatic 157, 3) := by decide +kernel
theorem dX6_lateLessonsOf_47 : decode cX6_lateLessonsOf 47 = .ok (.ifCond .eq 6, 3) := by decide +kernel
theorem dX6_lateLessonsOf_50 : decode cX6_lateLessonsOf 50 = .ok (.iinc 2 1, 3) := by decide +kernel
theorem dX6_lateLessonsOf_53 : decode cX6_lateLessonsOf 53 = .ok (.iinc 3 1, 3) := by decide +kernel
theorem dX6_lateLessonsOf_56 : decode cX6_lateLessonsOf 56 = .ok (.goto (-52), 3) := by decide +kernel
theorem dX6_lateLessonsOf_59 : decode cX6_lateLessonsOf 59 = .ok (.iload_n 2, 1) := by decide +kernel
theorem dX6_lateLessonsOf_60 : decode cX6_lateLessonsOf 60 = .ok (.ireturn, 1) := by decide +kernel
theorem dX6_countPossible_0 : decode cX6_countPossible 0 = .ok (.aload_n 0, 1) := by decide +kernel
theorem dX6_countPossible_1 : decode cX6_countPossible 1 = .ok (.aload_n 1, 1) := by decide +kernel
theorem dX6_countPossible_2 : decode cX6_countPossible 2 = .ok (.invokevirtual 138, 3) := by decide +kernel
theorem dX6_countPossible_5 : decode cX6_countPossible 5 = .ok (.aload_n 1, 1) := by decide +kernel
theorem dX6_countPossible_6 : decode cX6_countPossible 6 = .ok (.invokevirtual 168, 3) := by decide +kernel
theorem dX6_countPossible_9 : decode cX6_countPossible 9 = .ok (.ireturn, 1) := by decide +kernel
theorem dX6_findPossible_0 : decode cX6_findPossible 0 = .ok (.aload_n 0, 1) := by decide +kernel
theorem dX6_findPossible_1 : decode cX6_findPossible 1 = .ok (.aload_n 1, 1) := by decide +kernel
theorem dX6_findPossible_2 : decode cX6_findPossible 2 = .ok (.invokevirtual 138, 3) := by decide +kernel
theorem dX6_findPossible_5 : decode cX6_findPossible 5 = .ok (.iload_n 2, 1) := by decide +kernel
theorem dX6_findPossible_6 : decode cX6_findPossible 6 = .ok (.istore_n 3, 1) := by decide +kernel
theorem dX6_findPossible_7 : decode cX6_findPossible 7 = .ok (.iconst 0, 1) := by decide +kernel
theorem dX6_findPossible_8 : decode cX6_findPossible 8 = .ok (.istore 4, 2) := by decide +kernel
theorem dX6_findPossible_10 : decode cX6_findPossible 10 = .ok (.iload 4, 2) := by decide +kernel
theorem dX6_findPossible_12 : decode cX6_findPossible 12 = .ok (.sipush 240, 3) := by decide +kernel
theorem dX6_findPossible_15 : decode cX6_findPossible 15 = .ok (.if_icmp .ge 28, 3) := by decide +kernel
theorem dX6_findPossible_18 : decode cX6_findPossible 18 = .ok (.aload_n 1, 1) := by decide +kernel
theorem dX6_findPossible_19 : decode cX6_findPossible 19 = .ok (.iload 4, 2) := by decide +kernel
theorem dX6_findPossible_21 : decode cX6_findPossible 21 = .ok (.invokevirtual 141, 3) := by decide +kernel
theorem dX6_findPossible_24 : decode cX6_findPossible 24 = .ok (.ifCond .eq 13, 3) := by decide +kernel
theorem dX6_findPossible_27 : decode cX6_findPossible 27 = .ok (.iload_n 3, 1) := by decide +kernel
theorem dX6_findPossible_28 : decode cX6_findPossible 28 = .ok (.ifCond .ne 6, 3) := by decide +kernel
theorem dX6_findPossible_31 : decode cX6_findPossible 31 = .ok (.iload 4, 2) := by decide +kernel
theorem dX6_findPossible_33 : decode cX6_findPossible 33 = .ok (.ireturn, 1) := by decide +kernel
theorem dX6_findPossible_34 : decode cX6_findPossible 34 = .ok (.iinc 3 (-1), 3) := by decide +kernel
theorem dX6_findPossible_37 : decode cX6_findPossible 37 = .ok (.iinc 4 1, 3) := by decide +kernel
theorem dX6_findPossible_40 : decode cX6_findPossible 40 = .ok (.goto (-30), 3) := by decide +kernel
theorem dX6_findPossible_43 : decode cX6_findPossible 43 = .ok (.iconst (-1), 1) := by decide +kernel
theorem dX6_findPossible_44 : decode cX6_findPossible 44 = .ok (.ireturn, 1) := by decide +kernel
theorem dX6_findCheapest_0 : decode cX6_findCheapest 0 = .ok (.aload_n 0, 1) := by decide +kernel
theorem dX6_findCheapest_1 : decode cX6_findCheapest 1 = .ok (.aload_n 1, 1) := by decide +kernel
theorem dX6_findCheapest_2 : decode cX6_findCheapest 2 = .ok (.invokevirtual 138, 3) := by decide +kernel
theorem dX6_findCheapest_5 : decode cX6_findCheapest 5 = .ok (.aload_n 0, 1) := by decide +kernel
theorem dX6_findCheapest_6 : decode cX6_findCheapest 6 = .ok (.aload_n 1, 1) := by decide +kernel
theorem dX6_findCheapest_7 : decode cX6_findCheapest 7 = .ok (.invokevirtual 171, 3) := by decide +kernel
theorem dX6_findCheapest_10 : decode cX6_findCheapest 10 = .ok (.ireturn, 1) := by decide +kernel
theorem dX6_findCheapestElsewhere_0 : decode cX6_findCheapestElsewhere 0 = .ok (.aload_n 0, 1) := by decide +kernel
theorem dX6_findCheapestElsewhere_1 : decode cX6_findCheapestElsewhere 1 = .ok (.aload_n 1, 1) := by decide +kernel
theorem dX6_findCheapestElsewhere_2 : decode cX6_findCheapestElsewhere 2 = .ok (.invokevirtual 138, 3) := by decide +kernel
theorem dX6_findCheapestElsewhere_5 : decode cX6_findCheapestElsewhere 5 = .ok (.aload_n 1, 1) := by decide +kernel
theorem dX6_findCheapestElsewhere_6 : decode cX6_findCheapestElsewhere 6 = .ok (.invokevirtual 174, 3) := by decide +kernel
theorem dX6_findCheapestElsewhere_9 : decode cX6_findCheapestElsewhere 9 = .ok (.aload_n 0, 1) := by decide +kernel
theorem dX6_findCheapestElsewhere_10 : decode cX6_findCheapestElsewhere 10 = .ok (.aload_n 1, 1) := by decide +kernel
theorem dX6_findCheapestElsewhere_11 : decode cX6_findCheapestElsewhere 11 = .ok (.invokevirtual 171, 3) := by decide +kernel
theorem dX6_findCheapestElsewhere_14 : decode cX6_findCheapestElsewhere 14 = .ok (.ireturn, 1) := by decide +kernel
theorem dX6_cheapestAmongJudged_0 : decode cX6_cheapestAmongJudged 0 = .ok (.iconst (-1), 1) := by decide +kernel
theorem dX6_cheapestAmongJudged_1 : decode cX6_cheapestAmongJudged 1 = .ok (.istore_n 2, 1) := by decide +kernel
theorem dX6_cheapestAmongJudged_2 : decode cX6_cheapestAmongJudged 2 = .ok (.iconst 0, 1) := by decide +kernel
theorem dX6_cheapestAmongJudged_3 : decode cX6_cheapestAmongJudged 3 = .ok (.istore_n 3, 1) := by decide +kernel
theorem dX6_cheapestAmongJudged_4 : decode cX6_cheapestAmongJudged 4 = .ok (.iconst 0, 1) := by decide +kernel
theorem dX6_cheapestAmongJudged_5 : decode cX6_cheapestAmongJudged 5 = .ok (.istore 4, 2) := by decide +kernel
theorem dX6_cheapestAmongJudged_7 : decode cX6_cheapestAmongJudged 7 = .ok (.iload 4, 2) := by decide +kernel
theorem dX6_cheapestAmongJudged_9 : decode cX6_cheapestAmongJudged 9 = .ok (.bipush 30, 2) := by decide +kernel
theorem dX6_cheapestAmongJudged_11 : decode cX6_cheapestAmongJudged 11 = .ok (.if_icmp .ge 55, 3) := by decide +kernel
theorem dX6_cheapestAmongJudged_14 : decode cX6_cheapestAmongJudged 14 = .ok (.aload_n 1, 1) := by decide +kernel
theorem dX6_cheapestAmongJudged_15 : decode cX6_cheapestAmongJudged 15 = .ok (.iload 4, 2) := by decide +kernel
theorem dX6_cheapestAmongJudged_17 : decode cX6_cheapestAmongJudged 17 = .ok (.invokevirtual 177, 3) := by decide +kernel
theorem dX6_cheapestAmongJudged_20 : decode cX6_cheapestAmongJudged 20 = .ok (.istore 5, 2) := by decide +kernel
theorem dX6_cheapestAmongJudged_22 : decode cX6_cheapestAmongJudged 22 = .ok (.iload 5, 2) := by decide +kernel
theorem dX6_cheapestAmongJudged_24 : decode cX6_cheapestAmongJudged 24 = .ok (.iconst (-1), 1) := by decide +kernel
theorem dX6_cheapestAmongJudged_25 : decode cX6_cheapestAmongJudged 25 = .ok (.if_icmp .eq 35, 3) := by decide +kernel
theorem dX6_cheapestAmongJudged_28 : decode cX6_cheapestAmongJudged 28 = .ok (.aload_n 0, 1) := by decide +kernel
theorem dX6_cheapestAmongJudged_29 : decode cX6_cheapestAmongJudged 29 = .ok (.aload_n 1, 1) := by decide +kernel
theorem dX6_cheapestAmongJudged_30 : decode cX6_cheapestAmongJudged 30 = .ok (.iload 4, 2) := by decide +kernel
theorem dX6_cheapestAmongJudged_32 : decode cX6_cheapestAmongJudged 32 = .ok (.invokevirtual 180, 3) := by decide +kernel
theorem dX6_cheapestAmongJudged_35 : decode cX6_cheapestAmongJudged 35 = .ok (.istore 6, 2) := by decide +kernel
theorem dX6_cheapestAmongJudged_37 : decode cX6_cheapestAmongJudged 37 = .ok (.iload_n 2, 1) := by decide +kernel
theorem dX6_cheapestAmongJudged_38 : decode cX6_cheapestAmongJudged 38 = .ok (.iconst (-1), 1) := by decide +kernel
theorem dX6_cheapestAmongJudged_39 : decode cX6_cheapestAmongJudged 39 = .ok (.if_icmp .eq 9, 3) := by decide +kernel
theorem dX6_cheapestAmongJudged_42 : decode cX6_cheapestAmongJudged 42 = .ok (.iload 6, 2) := by decide +kernel
theorem dX6_cheapestAmongJudged_44 : decode cX6_cheapestAmongJudged 44 = .ok (.iload_n 3, 1) := by decide +kernel
theorem dX6_cheapestAmongJudged_45 : decode cX6_cheapestAmongJudged 45 = .ok (.if_icmp .ge 15, 3) := by decide +kernel
theorem dX6_cheapestAmongJudged_48 : decode cX6_cheapestAmongJudged 48 = .ok (.bipush 8, 2) := by decide +kernel
theorem dX6_cheapestAmongJudged_50 : decode cX6_cheapestAmongJudged 50 = .ok (.iload 4, 2) := by decide +kernel
theorem dX6_cheapestAmongJudged_52 : decode cX6_cheapestAmongJudged 52 = .ok (.imul, 1) := by decide +kernel
theorem dX6_cheapestAmongJudged_53 : decode cX6_cheapestAmongJudged 53 = .ok (.iload 5, 2) := by decide +kernel
theorem dX6_cheapestAmongJudged_55 : decode cX6_cheapestAmongJudged 55 = .ok (.iadd, 1) := by decide +kernel
theorem dX6_cheapestAmongJudged_56 : decode cX6_cheapestAmongJudged 56 = .ok (.istore_n 2, 1) := by decide +kernel
theorem dX6_cheapestAmongJudged_57 : decode cX6_cheapestAmongJudged 57 = .ok (.iload 6, 2) := by decide +kernel
theorem dX6_cheapestAmongJudged_59 : decode cX6_cheapestAmongJudged 59 = .ok (.istore_n 3, 1) := by decide +kernel
theorem dX6_cheapestAmongJudged_60 : decode cX6_cheapestAmongJudged 60 = .ok (.iinc 4 1, 3) := by decide +kernel
theorem dX6_cheapestAmongJudged_63 : decode cX6_cheapestAmongJudged 63 = .ok (.goto (-56), 3) := by decide +kernel
theorem dX6_cheapestAmongJudged_66 : decode cX6_cheapestAmongJudged 66 = .ok (.iload_n 2, 1) := by decide +kernel
theorem dX6_cheapestAmongJudged_67 : decode cX6_cheapestAmongJudged 67 = .ok (.ireturn, 1) := by decide +kernel
theorem dX6_findHardest_0 : decode cX6_findHardest 0 = .ok (.aconst_null, 1) := by decide +kernel
theorem dX6_findHardest_1 : decode cX6_findHardest 1 = .ok (.astore_n 2, 1) := by decide +kernel
theorem dX6_findHardest_2 : decode cX6_findHardest 2 = .ok (.iconst 0, 1) := by decide +kernel
theorem dX6_findHardest_3 : decode cX6_findHardest 3 = .ok (.istore_n 3, 1) := by decide +kernel
theorem dX6_findHardest_4 : decode cX6_findHardest 4 = .ok (.iconst 0, 1) := by decide +kernel
theorem dX6_findHardest_5 : decode cX6_findHardest 5 = .ok (.istore 4, 2) := by decide +kernel
theorem dX6_findHardest_7 : decode cX6_findHardest 7 = .ok (.iload 4, 2) := by decide +kernel
theorem dX6_findHardest_9 : decode cX6_findHardest 9 = .ok (.aload_n 0, 1) := by decide +kernel
theorem dX6_findHardest_10 : decode cX6_findHardest 10 = .ok (.getfield 21, 3) := by decide +kernel
theorem dX6_findHardest_13 : decode cX6_findHardest 13 = .ok (.invokevirtual 52, 3) := by decide +kernel
theorem dX6_findHardest_16 : decode cX6_findHardest 16 = .ok (.if_icmp .ge 62, 3) := by decide +kernel
theorem dX6_findHardest_19 : decode cX6_findHardest 19 = .ok (.iload_n 1, 1) := by decide +kernel
theorem dX6_findHardest_20 : decode cX6_findHardest 20 = .ok (.iload 4, 2) := by decide +kernel
theorem dX6_findHardest_22 : decode cX6_findHardest 22 = .ok (.invokestatic 89, 3) := by decide +kernel
theorem dX6_findHardest_25 : decode cX6_findHardest 25 = .ok (.ifCond .eq 47, 3) := by decide +kernel
theorem dX6_findHardest_28 : decode cX6_findHardest 28 = .ok (.aload_n 0, 1) := by decide +kernel
theorem dX6_findHardest_29 : decode cX6_findHardest 29 = .ok (.aload_n 0, 1) := by decide +kernel
theorem dX6_findHardest_30 : decode cX6_findHardest 30 = .ok (.getfield 21, 3) := by decide +kernel
theorem dX6_findHardest_33 : decode cX6_findHardest 33 = .ok (.iload 4, 2) := by decide +kernel
theorem dX6_findHardest_35 : decode cX6_findHardest 35 = .ok (.invokevirtual 56, 3) := by decide +kernel
theorem dX6_findHardest_38 : decode cX6_findHardest 38 = .ok (.checkcast 32, 3) := by decide +kernel
theorem dX6_findHardest_41 : decode cX6_findHardest 41 = .ok (.invokevirtual 184, 3) := by decide +kernel
theorem dX6_findHardest_44 : decode cX6_findHardest 44 = .ok (.istore 5, 2) := by decide +kernel
theorem dX6_findHardest_46 : decode cX6_findHardest 46 = .ok (.aload_n 2, 1) := by decide +kernel
theorem dX6_findHardest_47 : decode cX6_findHardest 47 = .ok (.ifnull 9, 3) := by decide +kernel
theorem dX6_findHardest_50 : decode cX6_findHardest 50 = .ok (.iload 5, 2) := by decide +kernel
theorem dX6_findHardest_52 : decode cX6_findHardest 52 = .ok (.iload_n 3, 1) := by decide +kernel
theorem dX6_findHardest_53 : decode cX6_findHardest 53 = .ok (.if_icmp .ge 19, 3) := by decide +kernel
theorem dX6_findHardest_56 : decode cX6_findHardest 56 = .ok (.aload_n 0, 1) := by decide +kernel
theorem dX6_findHardest_57 : decode cX6_findHardest 57 = .ok (.getfield 21, 3) := by decide +kernel
theorem dX6_findHardest_60 : decode cX6_findHardest 60 = .ok (.iload 4, 2) := by decide +kernel
theorem dX6_findHardest_62 : decode cX6_findHardest 62 = .ok (.invokevirtual 56, 3) := by decide +kernel
theorem dX6_findHardest_65 : decode cX6_findHardest 65 = .ok (.checkcast 32, 3) := by decide +kernel
theorem dX6_findHardest_68 : decode cX6_findHardest 68 = .ok (.astore_n 2, 1) := by decide +kernel
theorem dX6_findHardest_69 : decode cX6_findHardest 69 = .ok (.iload 5, 2) := by decide +kernel
theorem dX6_findHardest_71 : decode cX6_findHardest 71 = .ok (.istore_n 3, 1) := by decide +kernel
theorem dX6_findHardest_72 : decode cX6_findHardest 72 = .ok (.iinc 4 1, 3) := by decide +kernel
theorem dX6_findHardest_75 : decode cX6_findHardest 75 = .ok (.goto (-68), 3) := by decide +kernel
theorem dX6_findHardest_78 : decode cX6_findHardest 78 = .ok (.aload_n 2, 1) := by decide +kernel
theorem dX6_findHardest_79 : decode cX6_findHardest 79 = .ok (.areturn, 1) := by decide +kernel
theorem dX6_broken_0 : decode cX6_broken 0 = .ok (.iconst 0, 1) := by decide +kernel
theorem dX6_broken_1 : decode cX6_broken 1 = .ok (.istore_n 1, 1) := by decide +kernel
theorem dX6_broken_2 : decode cX6_broken 2 = .ok (.iconst 0, 1) := by decide +kernel
theorem dX6_broken_3 : decode cX6_broken 3 = .ok (.istore_n 2, 1) := by decide +kernel
theorem dX6_broken_4 : decode cX6_broken 4 = .ok (.iload_n 2, 1) := by decide +kernel
theorem dX6_broken_5 : decode cX6_broken 5 = .ok (.aload_n 0, 1) := by decide +kernel
theorem dX6_broken_6 : decode cX6_broken 6 = .ok (.getfield 21, 3) := by decide +kernel
theorem dX6_broken_9 : decode cX6_broken 9 = .ok (.invokevirtual 52, 3) := by decide +kernel
theorem dX6_broken_12 : decode cX6_broken 12 = .ok (.if_icmp .ge 68, 3) := by decide +kernel
theorem dX6_broken_15 : decode cX6_broken 15 = .ok (.aload_n 0, 1) := by decide +kernel
theorem dX6_broken_16 : decode cX6_broken 16 = .ok (.getfield 21, 3) := by decide +kernel
theorem dX6_broken_19 : decode cX6_broken 19 = .ok (.iload_n 2, 1) := by decide +kernel
theorem dX6_broken_20 : decode cX6_broken 20 = .ok (.invokevirtual 56, 3) := by decide +kernel
theorem dX6_broken_23 : decode cX6_broken 23 = .ok (.checkcast 32, 3) := by decide +kernel
theorem dX6_broken_26 : decode cX6_broken 26 = .ok (.astore_n 3, 1) := by decide +kernel
theorem dX6_broken_27 : decode cX6_broken 27 = .ok (.aload_n 3, 1) := by decide +kernel
theorem dX6_broken_28 : decode cX6_broken 28 = .ok (.getfield 31, 3) := by decide +kernel
theorem dX6_broken_31 : decode cX6_broken 31 = .ok (.astore 4, 2) := by decide +kernel
theorem dX6_broken_33 : decode cX6_broken 33 = .ok (.aload 4, 2) := by decide +kernel
theorem dX6_broken_35 : decode cX6_broken 35 = .ok (.ifnull 39, 3) := by decide +kernel
theorem dX6_broken_38 : decode cX6_broken 38 = .ok (.aload_n 0, 1) := by decide +kernel
theorem dX6_broken_39 : decode cX6_broken 39 = .ok (.aload_n 3, 1) := by decide +kernel
theorem dX6_broken_40 : decode cX6_broken 40 = .ok (.invokevirtual 48, 3) := by decide +kernel
theorem dX6_broken_43 : decode cX6_broken 43 = .ok (.ifCond .ne 31, 3) := by decide +kernel
theorem dX6_broken_46 : decode cX6_broken 46 = .ok (.aload_n 0, 1) := by decide +kernel
theorem dX6_broken_47 : decode cX6_broken 47 = .ok (.aload_n 3, 1) := by decide +kernel
theorem dX6_broken_48 : decode cX6_broken 48 = .ok (.invokevirtual 68, 3) := by decide +kernel
theorem dX6_broken_51 : decode cX6_broken 51 = .ok (.iload_n 1, 1) := by decide +kernel
theorem dX6_broken_52 : decode cX6_broken 52 = .ok (.aload_n 3, 1) := by decide +kernel
theorem dX6_broken_53 : decode cX6_broken 53 = .ok (.aload_n 3, 1) := by decide +kernel
theorem dX6_broken_54 : decode cX6_broken 54 = .ok (.getfield 37, 3) := by decide +kernel
theorem dX6_broken_57 : decode cX6_broken 57 = .ok (.aload 4, 2) := by decide +kernel
theorem dX6_broken_59 : decode cX6_broken 59 = .ok (.invokevirtual 187, 3) := by decide +kernel
theorem dX6_broken_62 : decode cX6_broken 62 = .ok (.ifCond .eq 9, 3) := by decide +kernel
theorem dX6_broken_65 : decode cX6_broken 65 = .ok (.iconst 1, 1) := by decide +kernel
theorem dX6_broken_66 : decode cX6_broken 66 = .ok (.iload_n 2, 1) := by decide +kernel
theorem dX6_broken_67 : decode cX6_broken 67 = .ok (.ishl, 1) := by decide +kernel
theorem dX6_broken_68 : decode cX6_broken 68 = .ok (.goto 4, 3) := by decide +kernel
theorem dX6_broken_71 : decode cX6_broken 71 = .ok (.iconst 0, 1) := by decide +kernel
theorem dX6_broken_72 : decode cX6_broken 72 = .ok (.ior, 1) := by decide +kernel
theorem dX6_broken_73 : decode cX6_broken 73 = .ok (.istore_n 1, 1) := by decide +kernel
theorem dX6_broken_74 : decode cX6_broken 74 = .ok (.iinc 2 1, 3) := by decide +kernel
theorem dX6_broken_77 : decode cX6_broken 77 = .ok (.goto (-73), 3) := by decide +kernel
theorem dX6_broken_80 : decode cX6_broken 80 = .ok (.iload_n 1, 1) := by decide +kernel
theorem dX6_broken_81 : decode cX6_broken 81 = .ok (.ireturn, 1) := by decide +kernel
theorem dX6_countBreaks_0 : decode cX6_countBreaks 0 = .ok (.aload_n 0, 1) := by decide +kernel
theorem dX6_countBreaks_1 : decode cX6_countBreaks 1 = .ok (.invokevirtual 191, 3) := by decide +kernel
theorem dX6_countBreaks_4 : decode cX6_countBreaks 4 = .ok (.invokestatic 116, 3) := by decide +kernel
theorem dX6_countBreaks_7 : decode cX6_countBreaks 7 = .ok (.ireturn, 1) := by decide +kernel
theorem dX6_costKept_0 : decode cX6_costKept 0 = .ok (.iconst 0, 1) := by decide +kernel
theorem dX6_costKept_1 : decode cX6_costKept 1 = .ok (.istore_n 1, 1) := by decide +kernel
theorem dX6_costKept_2 : decode cX6_costKept 2 = .ok (.iconst 0, 1) := by decide +kernel
theorem dX6_costKept_3 : decode cX6_costKept 3 = .ok (.istore_n 2, 1) := by decide +kernel
theorem dX6_costKept_4 : decode cX6_costKept 4 = .ok (.iload_n 2, 1) := by decide +kernel
theorem dX6_costKept_5 : decode cX6_costKept 5 = .ok (.iconst 4, 1) := by decide +kernel
theorem dX6_costKept_6 : decode cX6_costKept 6 = .ok (.if_icmp .ge 29, 3) := by decide +kernel
theorem dX6_costKept_9 : decode cX6_costKept 9 = .ok (.iload_n 1, 1) := by decide +kernel
theorem dX6_costKept_10 : decode cX6_costKept 10 = .ok (.aload_n 0, 1) := by decide +kernel
theorem dX6_costKept_11 : decode cX6_costKept 11 = .ok (.getfield 24, 3) := by decide +kernel
theorem dX6_costKept_14 : decode cX6_costKept 14 = .ok (.iload_n 2, 1) := by decide +kernel
theorem dX6_costKept_15 : decode cX6_costKept 15 = .ok (.invokestatic 134, 3) := by decide +kernel
theorem dX6_costKept_18 : decode cX6_costKept 18 = .ok (.aload_n 0, 1) := by decide +kernel
theorem dX6_costKept_19 : decode cX6_costKept 19 = .ok (.getfield 28, 3) := by decide +kernel
theorem dX6_costKept_22 : decode cX6_costKept 22 = .ok (.iload_n 2, 1) := by decide +kernel
theorem dX6_costKept_23 : decode cX6_costKept 23 = .ok (.invokestatic 134, 3) := by decide +kernel
theorem dX6_costKept_26 : decode cX6_costKept 26 = .ok (.imul, 1) := by decide +kernel
theorem dX6_costKept_27 : decode cX6_costKept 27 = .ok (.iadd, 1) := by decide +kernel
theorem dX6_costKept_28 : decode cX6_costKept 28 = .ok (.istore_n 1, 1) := by decide +kernel
theorem dX6_costKept_29 : decode cX6_costKept 29 = .ok (.iinc 2 1, 3) := by decide +kernel
theorem dX6_costKept_32 : decode cX6_costKept 32 = .ok (.goto (-28), 3) := by decide +kernel
theorem dX6_costKept_35 : decode cX6_costKept 35 = .ok (.iload_n 1, 1) := by decide +kernel
theorem dX6_costKept_36 : decode cX6_costKept 36 = .ok (.ireturn, 1) := by decide +kernel
theorem dX6_addedCost_0 : decode cX6_addedCost 0 = .ok (.iconst 0, 1) := by decide +kernel
theorem dX6_addedCost_1 : decode cX6_addedCost 1 = .ok (.istore_n 3, 1) := by decide +kernel
theorem dX6_addedCost_2 : decode cX6_addedCost 2 = .ok (.iconst 0, 1) := by decide +kernel
theorem dX6_addedCost_3 : decode cX6_addedCost 3 = .ok (.istore 4, 2) := by decide +kernel
theorem dX6_addedCost_5 : decode cX6_addedCost 5 = .ok (.iload 4, 2) := by decide +kernel
theorem dX6_addedCost_7 : decode cX6_addedCost 7 = .ok (.aload_n 0, 1) := by decide +kernel
theorem dX6_addedCost_8 : decode cX6_addedCost 8 = .ok (.getfield 24, 3) := by decide +kernel
theorem dX6_addedCost_11 : decode cX6_addedCost 11 = .ok (.arraylength, 1) := by decide +kernel
theorem dX6_addedCost_12 : decode cX6_addedCost 12 = .ok (.if_icmp .ge 41, 3) := by decide +kernel
theorem dX6_addedCost_15 : decode cX6_addedCost 15 = .ok (.iload_n 3, 1) := by decide +kernel
theorem dX6_addedCost_16 : decode cX6_addedCost 16 = .ok (.aload_n 0, 1) := by decide +kernel
theorem dX6_addedCost_17 : decode cX6_addedCost 17 = .ok (.getfield 24, 3) := by decide +kernel
theorem dX6_addedCost_20 : decode cX6_addedCost 20 = .ok (.iload 4, 2) := by decide +kernel
theorem dX6_addedCost_22 : decode cX6_addedCost 22 = .ok (.iaload, 1) := by decide +kernel
theorem dX6_addedCost_23 : decode cX6_addedCost 23 = .ok (.ifCond .ne 7, 3) := by decide +kernel
theorem dX6_addedCost_26 : decode cX6_addedCost 26 = .ok (.iconst 0, 1) := by decide +kernel
theorem dX6_addedCost_27 : decode cX6_addedCost 27 = .ok (.goto 18, 3) := by decide +kernel
theorem dX6_addedCost_30 : decode cX6_addedCost 30 = .ok (.aload_n 0, 1) := by decide +kernel
theorem dX6_addedCost_31 : decode cX6_addedCost 31 = .ok (.getfield 24, 3) := by decide +kernel
theorem dX6_addedCost_34 : decode cX6_addedCost 34 = .ok (.iload 4, 2) := by decide +kernel
theorem dX6_addedCost_36 : decode cX6_addedCost 36 = .ok (.iaload, 1) := by decide +kernel
theorem dX6_addedCost_37 : decode cX6_addedCost 37 = .ok (.aload_n 1, 1) := by decide +kernel
theorem dX6_addedCost_38 : decode cX6_addedCost 38 = .ok (.iload 4, 2) := by decide +kernel
theorem dX6_addedCost_40 : decode cX6_addedCost 40 = .ok (.iload_n 2, 1) := by decide +kernel
theorem dX6_addedCost_41 : decode cX6_addedCost 41 = .ok (.invokevirtual 85, 3) := by decide +kernel
theorem dX6_addedCost_44 : decode cX6_addedCost 44 = .ok (.imul, 1) := by decide +kernel
theorem dX6_addedCost_45 : decode cX6_addedCost 45 = .ok (.iadd, 1) := by decide +kernel
theorem dX6_addedCost_46 : decode cX6_addedCost 46 = .ok (.istore_n 3, 1) := by decide +kernel
theorem dX6_addedCost_47 : decode cX6_addedCost 47 = .ok (.iinc 4 1, 3) := by decide +kernel
theorem dX6_addedCost_50 : decode cX6_addedCost 50 = .ok (.goto (-45), 3) := by decide +kernel
theorem dX6_addedCost_53 : decode cX6_addedCost 53 = .ok (.iload_n 3, 1) := by decide +kernel
theorem dX6_addedCost_54 : decode cX6_addedCost 54 = .ok (.ireturn, 1) := by decide +kernel
theorem dX6_costFrom_0 : decode cX6_costFrom 0 = .ok (.aload_n 0, 1) := by decide +kernel
theorem dX6_costFrom_1 : decode cX6_costFrom 1 = .ok (.invokevirtual 194, 3) := by decide +kernel
theorem dX6_costFrom_4 : decode cX6_costFrom 4 = .ok (.aload_n 1, 1) := by decide +kernel
theorem dX6_costFrom_5 : decode cX6_costFrom 5 = .ok (.getfield 31, 3) := by decide +kernel
theorem dX6_costFrom_8 : decode cX6_costFrom 8 = .ok (.ifnonnull 7, 3) := by decide +kernel
theorem dX6_costFrom_11 : decode cX6_costFrom 11 = .ok (.iconst 0, 1) := by decide +kernel
theorem dX6_costFrom_12 : decode cX6_costFrom 12 = .ok (.goto 12, 3) := by decide +kernel
theorem dX6_costFrom_15 : decode cX6_costFrom 15 = .ok (.aload_n 0, 1) := by decide +kernel
theorem dX6_costFrom_16 : decode cX6_costFrom 16 = .ok (.aload_n 1, 1) := by decide +kernel
theorem dX6_costFrom_17 : decode cX6_costFrom 17 = .ok (.aload_n 1, 1) := by decide +kernel
theorem dX6_costFrom_18 : decode cX6_costFrom 18 = .ok (.getfield 37, 3) := by decide +kernel
theorem dX6_costFrom_21 : decode cX6_costFrom 21 = .ok (.invokevirtual 180, 3) := by decide +kernel
theorem dX6_costFrom_24 : decode cX6_costFrom 24 = .ok (.isub, 1) := by decide +kernel
theorem dX6_costFrom_25 : decode cX6_costFrom 25 = .ok (.istore_n 3, 1) := by decide +kernel
theorem dX6_costFrom_26 : decode cX6_costFrom 26 = .ok (.iload_n 3, 1) := by decide +kernel
theorem dX6_costFrom_27 : decode cX6_costFrom 27 = .ok (.aload_n 0, 1) := by decide +kernel
theorem dX6_costFrom_28 : decode cX6_costFrom 28 = .ok (.aload_n 1, 1) := by decide +kernel
theorem dX6_costFrom_29 : decode cX6_costFrom 29 = .ok (.iload_n 2, 1) := by decide +kernel
theorem dX6_costFrom_30 : decode cX6_costFrom 30 = .ok (.invokevirtual 180, 3) := by decide +kernel
theorem dX6_costFrom_33 : decode cX6_costFrom 33 = .ok (.iadd, 1) := by decide +kernel
theorem dX6_costFrom_34 : decode cX6_costFrom 34 = .ok (.ireturn, 1) := by decide +kernel
theorem dX6_amountAnew_0 : decode cX6_amountAnew 0 = .ok (.iload_n 1, 1) := by decide +kernel
theorem dX6_amountAnew_1 : decode cX6_amountAnew 1 = .ok (.tableswitch 51 0 3 #[31, 36, 41, 46], 31) := by decide +kernel
theorem dX6_amountAnew_32 : decode cX6_amountAnew 32 = .ok (.aload_n 0, 1) := by decide +kernel
theorem dX6_amountAnew_33 : decode cX6_amountAnew 33 = .ok (.invokevirtual 197, 3) := by decide +kernel
theorem dX6_amountAnew_36 : decode cX6_amountAnew 36 = .ok (.ireturn, 1) := by decide +kernel
theorem dX6_amountAnew_37 : decode cX6_amountAnew 37 = .ok (.aload_n 0, 1) := by decide +kernel
theorem dX6_amountAnew_38 : decode cX6_amountAnew 38 = .ok (.invokevirtual 200, 3) := by decide +kernel
theorem dX6_amountAnew_41 : decode cX6_amountAnew 41 = .ok (.ireturn, 1) := by decide +kernel
theorem dX6_amountAnew_42 : decode cX6_amountAnew 42 = .ok (.aload_n 0, 1) := by decide +kernel
theorem dX6_amountAnew_43 : decode cX6_amountAnew 43 = .ok (.invokevirtual 203, 3) := by decide +kernel
theorem dX6_amountAnew_46 : decode cX6_amountAnew 46 = .ok (.ireturn, 1) := by decide +kernel
theorem dX6_amountAnew_47 : decode cX6_amountAnew 47 = .ok (.aload_n 0, 1) := by decide +kernel
theorem dX6_amountAnew_48 : decode cX6_amountAnew 48 = .ok (.invokevirtual 206, 3) := by decide +kernel
theorem dX6_amountAnew_51 : decode cX6_amountAnew 51 = .ok (.ireturn, 1) := by decide +kernel
theorem dX6_amountAnew_52 : decode cX6_amountAnew 52 = .ok (.iconst 0, 1) := by decide +kernel
theorem dX6_amountAnew_53 : decode cX6_amountAnew 53 = .ok (.ireturn, 1) := by decide +kernel
theorem dX6_gapsAnew_0 : decode cX6_gapsAnew 0 = .ok (.iconst 0, 1) := by decide +kernel
theorem dX6_gapsAnew_1 : decode cX6_gapsAnew 1 = .ok (.istore_n 1, 1) := by decide +kernel
theorem dX6_gapsAnew_2 : decode cX6_gapsAnew 2 = .ok (.iconst 0, 1) := by decide +kernel
theorem dX6_gapsAnew_3 : decode cX6_gapsAnew 3 = .ok (.istore_n 2, 1) := by decide +kernel
theorem dX6_gapsAnew_4 : decode cX6_gapsAnew 4 = .ok (.iload_n 2, 1) := by decide +kernel
theorem dX6_gapsAnew_5 : decode cX6_gapsAnew 5 = .ok (.aload_n 0, 1) := by decide +kernel
theorem dX6_gapsAnew_6 : decode cX6_gapsAnew 6 = .ok (.getfield 18, 3) := by decide +kernel
theorem dX6_gapsAnew_9 : decode cX6_gapsAnew 9 = .ok (.invokevirtual 52, 3) := by decide +kernel
theorem dX6_gapsAnew_12 : decode cX6_gapsAnew 12 = .ok (.if_icmp .ge 49, 3) := by decide +kernel
theorem dX6_gapsAnew_15 : decode cX6_gapsAnew 15 = .ok (.aload_n 0, 1) := by decide +kernel
theorem dX6_gapsAnew_16 : decode cX6_gapsAnew 16 = .ok (.aload_n 0, 1) := by decide +kernel
theorem dX6_gapsAnew_17 : decode cX6_gapsAnew 17 = .ok (.getfield 18, 3) := by decide +kernel
theorem dX6_gapsAnew_20 : decode cX6_gapsAnew 20 = .ok (.iload_n 2, 1) := by decide +kernel
theorem dX6_gapsAnew_21 : decode cX6_gapsAnew 21 = .ok (.invokevirtual 56, 3) := by decide +kernel
theorem dX6_gapsAnew_24 : decode cX6_gapsAnew 24 = .ok (.checkcast 209, 3) := by decide +kernel
theorem dX6_gapsAnew_27 : decode cX6_gapsAnew 27 = .ok (.invokevirtual 211, 3) := by decide +kernel
theorem dX6_gapsAnew_30 : decode cX6_gapsAnew 30 = .ok (.istore_n 3, 1) := by decide +kernel
theorem dX6_gapsAnew_31 : decode cX6_gapsAnew 31 = .ok (.iconst 0, 1) := by decide +kernel
theorem dX6_gapsAnew_32 : decode cX6_gapsAnew 32 = .ok (.istore 4, 2) := by decide +kernel
theorem dX6_gapsAnew_34 : decode cX6_gapsAnew 34 = .ok (.iload 4, 2) := by decide +kernel
theorem dX6_gapsAnew_36 : decode cX6_gapsAnew 36 = .ok (.iconst 5, 1) := by decide +kernel
theorem dX6_gapsAnew_37 : decode cX6_gapsAnew 37 = .ok (.if_icmp .ge 18, 3) := by decide +kernel
theorem dX6_gapsAnew_40 : decode cX6_gapsAnew 40 = .ok (.iload_n 1, 1) := by decide +kernel
theorem dX6_gapsAnew_41 : decode cX6_gapsAnew 41 = .ok (.iload_n 3, 1) := by decide +kernel
theorem dX6_gapsAnew_42 : decode cX6_gapsAnew 42 = .ok (.iload 4, 2) := by decide +kernel
theorem dX6_gapsAnew_44 : decode cX6_gapsAnew 44 = .ok (.invokestatic 215, 3) := by decide +kernel
theorem dX6_gapsAnew_47 : decode cX6_gapsAnew 47 = .ok (.iadd, 1) := by decide +kernel
theorem dX6_gapsAnew_48 : decode cX6_gapsAnew 48 = .ok (.istore_n 1, 1) := by decide +kernel
theorem dX6_gapsAnew_49 : decode cX6_gapsAnew 49 = .ok (.iinc 4 1, 3) := by decide +kernel
theorem dX6_gapsAnew_52 : decode cX6_gapsAnew 52 = .ok (.goto (-18), 3) := by decide +kernel
theorem dX6_gapsAnew_55 : decode cX6_gapsAnew 55 = .ok (.iinc 2 1, 3) := by decide +kernel
theorem dX6_gapsAnew_58 : decode cX6_gapsAnew 58 = .ok (.goto (-54), 3) := by decide +kernel
theorem dX6_gapsAnew_61 : decode cX6_gapsAnew 61 = .ok (.iload_n 1, 1) := by decide +kernel
theorem dX6_gapsAnew_62 : decode cX6_gapsAnew 62 = .ok (.ireturn, 1) := by decide +kernel
theorem dX6_hoursOf_0 : decode cX6_hoursOf 0 = .ok (.iconst 0, 1) := by decide +kernel
theorem dX6_hoursOf_1 : decode cX6_hoursOf 1 = .ok (.istore_n 2, 1) := by decide +kernel
theorem dX6_hoursOf_2 : decode cX6_hoursOf 2 = .ok (.iconst 0, 1) := by decide +kernel
theorem dX6_hoursOf_3 : decode cX6_hoursOf 3 = .ok (.istore_n 3, 1) := by decide +kernel
theorem dX6_hoursOf_4 : decode cX6_hoursOf 4 = .ok (.iload_n 3, 1) := by decide +kernel
theorem dX6_hoursOf_5 : decode cX6_hoursOf 5 = .ok (.aload_n 0, 1) := by decide +kernel
theorem dX6_hoursOf_6 : decode cX6_hoursOf 6 = .ok (.getfield 21, 3) := by decide +kernel
theorem dX6_hoursOf_9 : decode cX6_hoursOf 9 = .ok (.invokevirtual 52, 3) := by decide +kernel
theorem dX6_hoursOf_12 : decode cX6_hoursOf 12 = .ok (.if_icmp .ge 48, 3) := by decide +kernel
theorem dX6_hoursOf_15 : decode cX6_hoursOf 15 = .ok (.iload_n 2, 1) := by decide +kernel
theorem dX6_hoursOf_16 : decode cX6_hoursOf 16 = .ok (.aload_n 0, 1) := by decide +kernel
theorem dX6_hoursOf_17 : decode cX6_hoursOf 17 = .ok (.getfield 21, 3) := by decide +kernel
theorem dX6_hoursOf_20 : decode cX6_hoursOf 20 = .ok (.iload_n 3, 1) := by decide +kernel
theorem dX6_hoursOf_21 : decode cX6_hoursOf 21 = .ok (.invokevirtual 56, 3) := by decide +kernel
theorem dX6_hoursOf_24 : decode cX6_hoursOf 24 = .ok (.checkcast 32, 3) := by decide +kernel
theorem dX6_hoursOf_27 : decode cX6_hoursOf 27 = .ok (.getfield 218, 3) := by decide +kernel
theorem dX6_hoursOf_30 : decode cX6_hoursOf 30 = .ok (.aload_n 1, 1) := by decide +kernel
theorem dX6_hoursOf_31 : decode cX6_hoursOf 31 = .ok (.if_acmp .ne 20, 3) := by decide +kernel
theorem dX6_hoursOf_34 : decode cX6_hoursOf 34 = .ok (.aload_n 0, 1) := by decide +kernel
theorem dX6_hoursOf_35 : decode cX6_hoursOf 35 = .ok (.getfield 21, 3) := by decide +kernel
theorem dX6_hoursOf_38 : decode cX6_hoursOf 38 = .ok (.iload_n 3, 1) := by decide +kernel
theorem dX6_hoursOf_39 : decode cX6_hoursOf 39 = .ok (.invokevirtual 56, 3) := by decide +kernel
theorem dX6_hoursOf_42 : decode cX6_hoursOf 42 = .ok (.checkcast 32, 3) := by decide +kernel
theorem dX6_hoursOf_45 : decode cX6_hoursOf 45 = .ok (.invokevirtual 154, 3) := by decide +kernel
theorem dX6_hoursOf_48 : decode cX6_hoursOf 48 = .ok (.goto 4, 3) := by decide +kernel
theorem dX6_hoursOf_51 : decode cX6_hoursOf 51 = .ok (.iconst 0, 1) := by decide +kernel
theorem dX6_hoursOf_52 : decode cX6_hoursOf 52 = .ok (.ior, 1) := by decide +kernel
theorem dX6_hoursOf_53 : decode cX6_hoursOf 53 = .ok (.istore_n 2, 1) := by decide +kernel
theorem dX6_hoursOf_54 : decode cX6_hoursOf 54 = .ok (.iinc 3 1, 3) := by decide +kernel
theorem dX6_hoursOf_57 : decode cX6_hoursOf 57 = .ok (.goto (-53), 3) := by decide +kernel
theorem dX6_hoursOf_60 : decode cX6_hoursOf 60 = .ok (.iload_n 2, 1) := by decide +kernel
theorem dX6_hoursOf_61 : decode cX6_hoursOf 61 = .ok (.ireturn, 1) := by decide +kernel
theorem dX6_gapsOnDay_0 : decode cX6_gapsOnDay 0 = .ok (.iconst 0, 1) := by decide +kernel
theorem dX6_gapsOnDay_1 : decode cX6_gapsOnDay 1 = .ok (.istore_n 2, 1) := by decide +kernel
theorem dX6_gapsOnDay_2 : decode cX6_gapsOnDay 2 = .ok (.iconst 0, 1) := by decide +kernel
theorem dX6_gapsOnDay_3 : decode cX6_gapsOnDay 3 = .ok (.istore_n 3, 1) := by decide +kernel
theorem dX6_gapsOnDay_4 : decode cX6_gapsOnDay 4 = .ok (.iconst 0, 1) := by decide +kernel
theorem dX6_gapsOnDay_5 : decode cX6_gapsOnDay 5 = .ok (.istore 4, 2) := by decide +kernel
theorem dX6_gapsOnDay_7 : decode cX6_gapsOnDay 7 = .ok (.iconst 0, 1) := by decide +kernel
theorem dX6_gapsOnDay_8 : decode cX6_gapsOnDay 8 = .ok (.istore 5, 2) := by decide +kernel
theorem dX6_gapsOnDay_10 : decode cX6_gapsOnDay 10 = .ok (.iload 5, 2) := by decide +kernel
theorem dX6_gapsOnDay_12 : decode cX6_gapsOnDay 12 = .ok (.bipush 6, 2) := by decide +kernel
theorem dX6_gapsOnDay_14 : decode cX6_gapsOnDay 14 = .ok (.if_icmp .ge 47, 3) := by decide +kernel
theorem dX6_gapsOnDay_17 : decode cX6_gapsOnDay 17 = .ok (.iload_n 0, 1) := by decide +kernel
theorem dX6_gapsOnDay_18 : decode cX6_gapsOnDay 18 = .ok (.bipush 6, 2) := by decide +kernel
theorem dX6_gapsOnDay_20 : decode cX6_gapsOnDay 20 = .ok (.iload_n 1, 1) := by decide +kernel
theorem dX6_gapsOnDay_21 : decode cX6_gapsOnDay 21 = .ok (.imul, 1) := by decide +kernel
theorem dX6_gapsOnDay_22 : decode cX6_gapsOnDay 22 = .ok (.iload 5, 2) := by decide +kernel
theorem dX6_gapsOnDay_24 : decode cX6_gapsOnDay 24 = .ok (.iadd, 1) := by decide +kernel
theorem dX6_gapsOnDay_25 : decode cX6_gapsOnDay 25 = .ok (.invokestatic 89, 3) := by decide +kernel
theorem dX6_gapsOnDay_28 : decode cX6_gapsOnDay 28 = .ok (.ifCond .eq 24, 3) := by decide +kernel
theorem dX6_gapsOnDay_31 : decode cX6_gapsOnDay 31 = .ok (.iload_n 2, 1) := by decide +kernel
theorem dX6_gapsOnDay_32 : decode cX6_gapsOnDay 32 = .ok (.iload 4, 2) := by decide +kernel
theorem dX6_gapsOnDay_34 : decode cX6_gapsOnDay 34 = .ok (.ifCond .eq 7, 3) := by decide +kernel
theorem dX6_gapsOnDay_37 : decode cX6_gapsOnDay 37 = .ok (.iload_n 3, 1) := by decide +kernel
theorem dX6_gapsOnDay_38 : decode cX6_gapsOnDay 38 = .ok (.goto 4, 3) := by decide +kernel
theorem dX6_gapsOnDay_41 : decode cX6_gapsOnDay 41 = .ok (.iconst 0, 1) := by decide +kernel
theorem dX6_gapsOnDay_42 : decode cX6_gapsOnDay 42 = .ok (.iadd, 1) := by decide +kernel
theorem dX6_gapsOnDay_43 : decode cX6_gapsOnDay 43 = .ok (.istore_n 2, 1) := by decide +kernel
theorem dX6_gapsOnDay_44 : decode cX6_gapsOnDay 44 = .ok (.iconst 0, 1) := by decide +kernel
theorem dX6_gapsOnDay_45 : decode cX6_gapsOnDay 45 = .ok (.istore_n 3, 1) := by decide +kernel
theorem dX6_gapsOnDay_46 : decode cX6_gapsOnDay 46 = .ok (.iconst 1, 1) := by decide +kernel
theorem dX6_gapsOnDay_47 : decode cX6_gapsOnDay 47 = .ok (.istore 4, 2) := by decide +kernel
theorem dX6_gapsOnDay_49 : decode cX6_gapsOnDay 49 = .ok (.goto 6, 3) := by decide +kernel
theorem dX6_gapsOnDay_52 : decode cX6_gapsOnDay 52 = .ok (.iinc 3 1, 3) := by decide +kernel
theorem dX6_gapsOnDay_55 : decode cX6_gapsOnDay 55 = .ok (.iinc 5 1, 3) := by decide +kernel
theorem dX6_gapsOnDay_58 : decode cX6_gapsOnDay 58 = .ok (.goto (-48), 3) := by decide +kernel
theorem dX6_gapsOnDay_61 : decode cX6_gapsOnDay 61 = .ok (.iload_n 2, 1) := by decide +kernel
theorem dX6_gapsOnDay_62 : decode cX6_gapsOnDay 62 = .ok (.ireturn, 1) := by decide +kernel
theorem dX6_lateHoursAnew_0 : decode cX6_lateHoursAnew 0 = .ok (.iconst 0, 1) := by decide +kernel
theorem dX6_lateHoursAnew_1 : decode cX6_lateHoursAnew 1 = .ok (.istore_n 1, 1) := by decide +kernel
theorem dX6_lateHoursAnew_2 : decode cX6_lateHoursAnew 2 = .ok (.iconst 0, 1) := by decide +kernel
theorem dX6_lateHoursAnew_3 : decode cX6_lateHoursAnew 3 = .ok (.istore_n 2, 1) := by decide +kernel
theorem dX6_lateHoursAnew_4 : decode cX6_lateHoursAnew 4 = .ok (.iload_n 2, 1) := by decide +kernel
theorem dX6_lateHoursAnew_5 : decode cX6_lateHoursAnew 5 = .ok (.aload_n 0, 1) := by decide +kernel
theorem dX6_lateHoursAnew_6 : decode cX6_lateHoursAnew 6 = .ok (.getfield 21, 3) := by decide +kernel
theorem dX6_lateHoursAnew_9 : decode cX6_lateHoursAnew 9 = .ok (.invokevirtual 52, 3) := by decide +kernel
theorem dX6_lateHoursAnew_12 : decode cX6_lateHoursAnew 12 = .ok (.if_icmp .ge 52, 3) := by decide +kernel
theorem dX6_lateHoursAnew_15 : decode cX6_lateHoursAnew 15 = .ok (.iload_n 1, 1) := by decide +kernel
theorem dX6_lateHoursAnew_16 : decode cX6_lateHoursAnew 16 = .ok (.aload_n 0, 1) := by decide +kernel
theorem dX6_lateHoursAnew_17 : decode cX6_lateHoursAnew 17 = .ok (.getfield 21, 3) := by decide +kernel
theorem dX6_lateHoursAnew_20 : decode cX6_lateHoursAnew 20 = .ok (.iload_n 2, 1) := by decide +kernel
theorem dX6_lateHoursAnew_21 : decode cX6_lateHoursAnew 21 = .ok (.invokevirtual 56, 3) := by decide +kernel
theorem dX6_lateHoursAnew_24 : decode cX6_lateHoursAnew 24 = .ok (.checkcast 32, 3) := by decide +kernel
theorem dX6_lateHoursAnew_27 : decode cX6_lateHoursAnew 27 = .ok (.invokestatic 157, 3) := by decide +kernel
theorem dX6_lateHoursAnew_30 : decode cX6_lateHoursAnew 30 = .ok (.ifCond .eq 25, 3) := by decide +kernel
theorem dX6_lateHoursAnew_33 : decode cX6_lateHoursAnew 33 = .ok (.iconst 1, 1) := by decide +kernel
theorem dX6_lateHoursAnew_34 : decode cX6_lateHoursAnew 34 = .ok (.aload_n 0, 1) := by decide +kernel
theorem dX6_lateHoursAnew_35 : decode cX6_lateHoursAnew 35 = .ok (.getfield 21, 3) := by decide +kernel
theorem dX6_lateHoursAnew_38 : decode cX6_lateHoursAnew 38 = .ok (.iload_n 2, 1) := by decide +kernel
theorem dX6_lateHoursAnew_39 : decode cX6_lateHoursAnew 39 = .ok (.invokevirtual 56, 3) := by decide +kernel
theorem dX6_lateHoursAnew_42 : decode cX6_lateHoursAnew 42 = .ok (.checkcast 32, 3) := by decide +kernel
theorem dX6_lateHoursAnew_45 : decode cX6_lateHoursAnew 45 = .ok (.getfield 150, 3) := by decide +kernel
theorem dX6_lateHoursAnew_48 : decode cX6_lateHoursAnew 48 = .ok (.getfield 160, 3) := by decide +kernel
theorem dX6_lateHoursAnew_51 : decode cX6_lateHoursAnew 51 = .ok (.iadd, 1) := by decide +kernel
theorem dX6_lateHoursAnew_52 : decode cX6_lateHoursAnew 52 = .ok (.goto 4, 3) := by decide +kernel
theorem dX6_lateHoursAnew_55 : decode cX6_lateHoursAnew 55 = .ok (.iconst 0, 1) := by decide +kernel
theorem dX6_lateHoursAnew_56 : decode cX6_lateHoursAnew 56 = .ok (.iadd, 1) := by decide +kernel
theorem dX6_lateHoursAnew_57 : decode cX6_lateHoursAnew 57 = .ok (.istore_n 1, 1) := by decide +kernel
theorem dX6_lateHoursAnew_58 : decode cX6_lateHoursAnew 58 = .ok (.iinc 2 1, 3) := by decide +kernel
theorem dX6_lateHoursAnew_61 : decode cX6_lateHoursAnew 61 = .ok (.goto (-57), 3) := by decide +kernel
theorem dX6_lateHoursAnew_64 : decode cX6_lateHoursAnew 64 = .ok (.iload_n 1, 1) := by decide +kernel
theorem dX6_lateHoursAnew_65 : decode cX6_lateHoursAnew 65 = .ok (.ireturn, 1) := by decide +kernel
theorem dX6_wishesAnew_0 : decode cX6_wishesAnew 0 = .ok (.iconst 0, 1) := by decide +kernel
theorem dX6_wishesAnew_1 : decode cX6_wishesAnew 1 = .ok (.istore_n 1, 1) := by decide +kernel
theorem dX6_wishesAnew_2 : decode cX6_wishesAnew 2 = .ok (.iconst 0, 1) := by decide +kernel
theorem dX6_wishesAnew_3 : decode cX6_wishesAnew 3 = .ok (.istore_n 2, 1) := by decide +kernel
theorem dX6_wishesAnew_4 : decode cX6_wishesAnew 4 = .ok (.iload_n 2, 1) := by decide +kernel
theorem dX6_wishesAnew_5 : decode cX6_wishesAnew 5 = .ok (.aload_n 0, 1) := by decide +kernel
theorem dX6_wishesAnew_6 : decode cX6_wishesAnew 6 = .ok (.getfield 21, 3) := by decide +kernel
theorem dX6_wishesAnew_9 : decode cX6_wishesAnew 9 = .ok (.invokevirtual 52, 3) := by decide +kernel
theorem dX6_wishesAnew_12 : decode cX6_wishesAnew 12 = .ok (.if_icmp .ge 70, 3) := by decide +kernel
theorem dX6_wishesAnew_15 : decode cX6_wishesAnew 15 = .ok (.aload_n 0, 1) := by decide +kernel
theorem dX6_wishesAnew_16 : decode cX6_wishesAnew 16 = .ok (.getfield 21, 3) := by decide +kernel
theorem dX6_wishesAnew_19 : decode cX6_wishesAnew 19 = .ok (.iload_n 2, 1) := by decide +kernel
theorem dX6_wishesAnew_20 : decode cX6_wishesAnew 20 = .ok (.invokevirtual 56, 3) := by decide +kernel
theorem dX6_wishesAnew_23 : decode cX6_wishesAnew 23 = .ok (.checkcast 32, 3) := by decide +kernel
theorem dX6_wishesAnew_26 : decode cX6_wishesAnew 26 = .ok (.astore_n 3, 1) := by decide +kernel
theorem dX6_wishesAnew_27 : decode cX6_wishesAnew 27 = .ok (.iconst 0, 1) := by decide +kernel
theorem dX6_wishesAnew_28 : decode cX6_wishesAnew 28 = .ok (.istore 4, 2) := by decide +kernel
theorem dX6_wishesAnew_30 : decode cX6_wishesAnew 30 = .ok (.iload 4, 2) := by decide +kernel
theorem dX6_wishesAnew_32 : decode cX6_wishesAnew 32 = .ok (.aload_n 3, 1) := by decide +kernel
theorem dX6_wishesAnew_33 : decode cX6_wishesAnew 33 = .ok (.getfield 222, 3) := by decide +kernel
theorem dX6_wishesAnew_36 : decode cX6_wishesAnew 36 = .ok (.if_icmp .ge 40, 3) := by decide +kernel
theorem dX6_wishesAnew_39 : decode cX6_wishesAnew 39 = .ok (.iload_n 1, 1) := by decide +kernel
theorem dX6_wishesAnew_40 : decode cX6_wishesAnew 40 = .ok (.aload_n 3, 1) := by decide +kernel
theorem dX6_wishesAnew_41 : decode cX6_wishesAnew 41 = .ok (.getfield 31, 3) := by decide +kernel
theorem dX6_wishesAnew_44 : decode cX6_wishesAnew 44 = .ok (.ifnonnull 7, 3) := by decide +kernel
theorem dX6_wishesAnew_47 : decode cX6_wishesAnew 47 = .ok (.iconst 0, 1) := by decide +kernel
theorem dX6_wishesAnew_48 : decode cX6_wishesAnew 48 = .ok (.goto 20, 3) := by decide +kernel
theorem dX6_wishesAnew_51 : decode cX6_wishesAnew 51 = .ok (.aload_n 3, 1) := by decide +kernel
theorem dX6_wishesAnew_52 : decode cX6_wishesAnew 52 = .ok (.getfield 150, 3) := by decide +kernel
theorem dX6_wishesAnew_55 : decode cX6_wishesAnew 55 = .ok (.getfield 145, 3) := by decide +kernel
theorem dX6_wishesAnew_58 : decode cX6_wishesAnew 58 = .ok (.aload_n 3, 1) := by decide +kernel
theorem dX6_wishesAnew_59 : decode cX6_wishesAnew 59 = .ok (.getfield 37, 3) := by decide +kernel
theorem dX6_wishesAnew_62 : decode cX6_wishesAnew 62 = .ok (.iload 4, 2) := by decide +kernel
theorem dX6_wishesAnew_64 : decode cX6_wishesAnew 64 = .ok (.iadd, 1) := by decide +kernel
theorem dX6_wishesAnew_65 : decode cX6_wishesAnew 65 = .ok (.invokestatic 134, 3) := by decide +kernel
theorem dX6_wishesAnew_68 : decode cX6_wishesAnew 68 = .ok (.iadd, 1) := by decide +kernel
theorem dX6_wishesAnew_69 : decode cX6_wishesAnew 69 = .ok (.istore_n 1, 1) := by decide +kernel
theorem dX6_wishesAnew_70 : decode cX6_wishesAnew 70 = .ok (.iinc 4 1, 3) := by decide +kernel
theorem dX6_wishesAnew_73 : decode cX6_wishesAnew 73 = .ok (.goto (-43), 3) := by decide +kernel
theorem dX6_wishesAnew_76 : decode cX6_wishesAnew 76 = .ok (.iinc 2 1, 3) := by decide +kernel
theorem dX6_wishesAnew_79 : decode cX6_wishesAnew 79 = .ok (.goto (-75), 3) := by decide +kernel
theorem dX6_wishesAnew_82 : decode cX6_wishesAnew 82 = .ok (.iload_n 1, 1) := by decide +kernel
theorem dX6_wishesAnew_83 : decode cX6_wishesAnew 83 = .ok (.ireturn, 1) := by decide +kernel
theorem dX6_crowdsAnew_0 : decode cX6_crowdsAnew 0 = .ok (.iconst 0, 1) := by decide +kernel
theorem dX6_crowdsAnew_1 : decode cX6_crowdsAnew 1 = .ok (.istore_n 1, 1) := by decide +kernel
theorem dX6_crowdsAnew_2 : decode cX6_crowdsAnew 2 = .ok (.iconst 0, 1) := by decide +kernel
theorem dX6_crowdsAnew_3 : decode cX6_crowdsAnew 3 = .ok (.istore_n 2, 1) := by decide +kernel
theorem dX6_crowdsAnew_4 : decode cX6_crowdsAnew 4 = .ok (.iload_n 2, 1) := by decide +kernel
theorem dX6_crowdsAnew_5 : decode cX6_crowdsAnew 5 = .ok (.aload_n 0, 1) := by decide +kernel
theorem dX6_crowdsAnew_6 : decode cX6_crowdsAnew 6 = .ok (.getfield 21, 3) := by decide +kernel
theorem dX6_crowdsAnew_9 : decode cX6_crowdsAnew 9 = .ok (.invokevirtual 52, 3) := by decide +kernel
theorem dX6_crowdsAnew_12 : decode cX6_crowdsAnew 12 = .ok (.if_icmp .ge 58, 3) := by decide +kernel
theorem dX6_crowdsAnew_15 : decode cX6_crowdsAnew 15 = .ok (.iconst 0, 1) := by decide +kernel
theorem dX6_crowdsAnew_16 : decode cX6_crowdsAnew 16 = .ok (.istore_n 3, 1) := by decide +kernel
theorem dX6_crowdsAnew_17 : decode cX6_crowdsAnew 17 = .ok (.iload_n 3, 1) := by decide +kernel
theorem dX6_crowdsAnew_18 : decode cX6_crowdsAnew 18 = .ok (.iload_n 2, 1) := by decide +kernel
theorem dX6_crowdsAnew_19 : decode cX6_crowdsAnew 19 = .ok (.if_icmp .ge 45, 3) := by decide +kernel
theorem dX6_crowdsAnew_22 : decode cX6_crowdsAnew 22 = .ok (.iload_n 1, 1) := by decide +kernel
theorem dX6_crowdsAnew_23 : decode cX6_crowdsAnew 23 = .ok (.aload_n 0, 1) := by decide +kernel
theorem dX6_crowdsAnew_24 : decode cX6_crowdsAnew 24 = .ok (.getfield 21, 3) := by decide +kernel
theorem dX6_crowdsAnew_27 : decode cX6_crowdsAnew 27 = .ok (.iload_n 2, 1) := by decide +kernel
theorem dX6_crowdsAnew_28 : decode cX6_crowdsAnew 28 = .ok (.invokevirtual 56, 3) := by decide +kernel
theorem dX6_crowdsAnew_31 : decode cX6_crowdsAnew 31 = .ok (.checkcast 32, 3) := by decide +kernel
theorem dX6_crowdsAnew_34 : decode cX6_crowdsAnew 34 = .ok (.aload_n 0, 1) := by decide +kernel
theorem dX6_crowdsAnew_35 : decode cX6_crowdsAnew 35 = .ok (.getfield 21, 3) := by decide +kernel
theorem dX6_crowdsAnew_38 : decode cX6_crowdsAnew 38 = .ok (.iload_n 3, 1) := by decide +kernel
theorem dX6_crowdsAnew_39 : decode cX6_crowdsAnew 39 = .ok (.invokevirtual 56, 3) := by decide +kernel
theorem dX6_crowdsAnew_42 : decode cX6_crowdsAnew 42 = .ok (.checkcast 32, 3) := by decide +kernel
theorem dX6_crowdsAnew_45 : decode cX6_crowdsAnew 45 = .ok (.invokestatic 225, 3) := by decide +kernel
theorem dX6_crowdsAnew_48 : decode cX6_crowdsAnew 48 = .ok (.ifCond .eq 7, 3) := by decide +kernel
theorem dX6_crowdsAnew_51 : decode cX6_crowdsAnew 51 = .ok (.iconst 1, 1) := by decide +kernel
theorem dX6_crowdsAnew_52 : decode cX6_crowdsAnew 52 = .ok (.goto 4, 3) := by decide +kernel
theorem dX6_crowdsAnew_55 : decode cX6_crowdsAnew 55 = .ok (.iconst 0, 1) := by decide +kernel
theorem dX6_crowdsAnew_56 : decode cX6_crowdsAnew 56 = .ok (.iadd, 1) := by decide +kernel
theorem dX6_crowdsAnew_57 : decode cX6_crowdsAnew 57 = .ok (.istore_n 1, 1) := by decide +kernel
theorem dX6_crowdsAnew_58 : decode cX6_crowdsAnew 58 = .ok (.iinc 3 1, 3) := by decide +kernel
theorem dX6_crowdsAnew_61 : decode cX6_crowdsAnew 61 = .ok (.goto (-44), 3) := by decide +kernel
theorem dX6_crowdsAnew_64 : decode cX6_crowdsAnew 64 = .ok (.iinc 2 1, 3) := by decide +kernel
theorem dX6_crowdsAnew_67 : decode cX6_crowdsAnew 67 = .ok (.goto (-63), 3) := by decide +kernel
theorem dX6_crowdsAnew_70 : decode cX6_crowdsAnew 70 = .ok (.iload_n 1, 1) := by decide +kernel
theorem dX6_crowdsAnew_71 : decode cX6_crowdsAnew 71 = .ok (.ireturn, 1) := by decide +kernel
theorem dX6_areCrowd_0 : decode cX6_areCrowd 0 = .ok (.aload_n 0, 1) := by decide +kernel
theorem dX6_areCrowd_1 : decode cX6_areCrowd 1 = .ok (.getfield 31, 3) := by decide +kernel
theorem dX6_areCrowd_4 : decode cX6_areCrowd 4 = .ok (.ifnull 43, 3) := by decide +kernel
theorem dX6_areCrowd_7 : decode cX6_areCrowd 7 = .ok (.aload_n 1, 1) := by decide +kernel
theorem dX6_areCrowd_8 : decode cX6_areCrowd 8 = .ok (.aload_n 0, 1) := by decide +kernel
theorem dX6_areCrowd_9 : decode cX6_areCrowd 9 = .ok (.getfield 37, 3) := by decide +kernel
theorem dX6_areCrowd_12 : decode cX6_areCrowd 12 = .ok (.bipush 6, 2) := by decide +kernel
theorem dX6_areCrowd_14 : decode cX6_areCrowd 14 = .ok (.idiv, 1) := by decide +kernel
theorem dX6_areCrowd_15 : decode cX6_areCrowd 15 = .ok (.invokevirtual 229, 3) := by decide +kernel
theorem dX6_areCrowd_18 : decode cX6_areCrowd 18 = .ok (.ifCond .eq 29, 3) := by decide +kernel
theorem dX6_areCrowd_21 : decode cX6_areCrowd 21 = .ok (.aload_n 0, 1) := by decide +kernel
theorem dX6_areCrowd_22 : decode cX6_areCrowd 22 = .ok (.getfield 218, 3) := by decide +kernel
theorem dX6_areCrowd_25 : decode cX6_areCrowd 25 = .ok (.aload_n 1, 1) := by decide +kernel
theorem dX6_areCrowd_26 : decode cX6_areCrowd 26 = .ok (.getfield 218, 3) := by decide +kernel
theorem dX6_areCrowd_29 : decode cX6_areCrowd 29 = .ok (.if_acmp .ne 18, 3) := by decide +kernel
theorem dX6_areCrowd_32 : decode cX6_areCrowd 32 = .ok (.aload_n 0, 1) := by decide +kernel
theorem dX6_areCrowd_33 : decode cX6_areCrowd 33 = .ok (.getfield 232, 3) := by decide +kernel
theorem dX6_areCrowd_36 : decode cX6_areCrowd 36 = .ok (.aload_n 1, 1) := by decide +kernel
theorem dX6_areCrowd_37 : decode cX6_areCrowd 37 = .ok (.getfield 232, 3) := by decide +kernel
theorem dX6_areCrowd_40 : decode cX6_areCrowd 40 = .ok (.if_icmp .ne 7, 3) := by decide +kernel
theorem dX6_areCrowd_43 : decode cX6_areCrowd 43 = .ok (.iconst 1, 1) := by decide +kernel
theorem dX6_areCrowd_44 : decode cX6_areCrowd 44 = .ok (.goto 4, 3) := by decide +kernel
theorem dX6_areCrowd_47 : decode cX6_areCrowd 47 = .ok (.iconst 0, 1) := by decide +kernel
theorem dX6_areCrowd_48 : decode cX6_areCrowd 48 = .ok (.ireturn, 1) := by decide +kernel
theorem dX7_init_0 : decode cX7_init 0 = .ok (.aload_n 0, 1) := by decide +kernel
theorem dX7_init_1 : decode cX7_init 1 = .ok (.invokespecial 3, 3) := by decide +kernel
theorem dX7_init_4 : decode cX7_init 4 = .ok (.aload_n 0, 1) := by decide +kernel
theorem dX7_init_5 : decode cX7_init 5 = .ok (.bipush 30, 2) := by decide +kernel
theorem dX7_init_7 : decode cX7_init 7 = .ok (.newarray .int, 2) := by decide +kernel
theorem dX7_init_9 : decode cX7_init 9 = .ok (.putfield 9, 3) := by decide +kernel
theorem dX7_init_12 : decode cX7_init 12 = .ok (.aload_n 0, 1) := by decide +kernel
theorem dX7_init_13 : decode cX7_init 13 = .ok (.iload_n 1, 1) := by decide +kernel
theorem dX7_init_14 : decode cX7_init 14 = .ok (.putfield 15, 3) := by decide +kernel
theorem dX7_init_17 : decode cX7_init 17 = .ok (.return_, 1) := by decide +kernel
