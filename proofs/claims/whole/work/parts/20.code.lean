theorem dJ3_checkIndex_8e157_0 : decode cJ3_checkIndex_8e157 0 = .ok (.iload_n 0, 1) := by decide +kernel
theorem dJ3_checkIndex_8e157_1 : decode cJ3_checkIndex_8e157 1 = .ok (.ifCond .lt 8, 3) := by decide +kernel
theorem dJ3_checkIndex_8e157_4 : decode cJ3_checkIndex_8e157 4 = .ok (.iload_n 0, 1) := by decide +kernel
theorem dJ3_checkIndex_8e157_5 : decode cJ3_checkIndex_8e157 5 = .ok (.iload_n 1, 1) := by decide +kernel
theorem dJ3_checkIndex_8e157_6 : decode cJ3_checkIndex_8e157 6 = .ok (.if_icmp .lt 10, 3) := by decide +kernel
theorem dJ3_checkIndex_8e157_9 : decode cJ3_checkIndex_8e157 9 = .ok (.aload_n 2, 1) := by decide +kernel
theorem dJ3_checkIndex_8e157_10 : decode cJ3_checkIndex_8e157 10 = .ok (.iload_n 0, 1) := by decide +kernel
theorem dJ3_checkIndex_8e157_11 : decode cJ3_checkIndex_8e157 11 = .ok (.iload_n 1, 1) := by decide +kernel
theorem dJ3_checkIndex_8e157_12 : decode cJ3_checkIndex_8e157 12 = .ok (.invokestatic 95, 3) := by decide +kernel
theorem dJ3_checkIndex_8e157_15 : decode cJ3_checkIndex_8e157 15 = .ok (.athrow, 1) := by decide +kernel
theorem dJ3_checkIndex_8e157_16 : decode cJ3_checkIndex_8e157 16 = .ok (.iload_n 0, 1) := by decide +kernel
theorem dJ3_checkIndex_8e157_17 : decode cJ3_checkIndex_8e157 17 = .ok (.ireturn, 1) := by decide +kernel
theorem dJ0_isLatin1_aae02_0 : decode cJ0_isLatin1_aae02 0 = .ok (.getstatic 38, 3) := by decide +kernel
theorem dJ0_isLatin1_aae02_3 : decode cJ0_isLatin1_aae02 3 = .ok (.ifCond .eq 14, 3) := by decide +kernel
theorem dJ0_isLatin1_aae02_6 : decode cJ0_isLatin1_aae02 6 = .ok (.aload_n 0, 1) := by decide +kernel
theorem dJ0_isLatin1_aae02_7 : decode cJ0_isLatin1_aae02 7 = .ok (.getfield 15, 3) := by decide +kernel
theorem dJ0_isLatin1_aae02_10 : decode cJ0_isLatin1_aae02 10 = .ok (.ifCond .ne 7, 3) := by decide +kernel
theorem dJ0_isLatin1_aae02_13 : decode cJ0_isLatin1_aae02 13 = .ok (.iconst 1, 1) := by decide +kernel
theorem dJ0_isLatin1_aae02_14 : decode cJ0_isLatin1_aae02 14 = .ok (.goto 4, 3) := by decide +kernel
theorem dJ0_isLatin1_aae02_17 : decode cJ0_isLatin1_aae02 17 = .ok (.iconst 0, 1) := by decide +kernel
theorem dJ0_isLatin1_aae02_18 : decode cJ0_isLatin1_aae02 18 = .ok (.ireturn, 1) := by decide +kernel
theorem dJ1_charAt_3b067_0 : decode cJ1_charAt_3b067 0 = .ok (.iload_n 1, 1) := by decide +kernel
theorem dJ1_charAt_3b067_1 : decode cJ1_charAt_3b067 1 = .ok (.aload_n 0, 1) := by decide +kernel
theorem dJ1_charAt_3b067_2 : decode cJ1_charAt_3b067 2 = .ok (.arraylength, 1) := by decide +kernel
theorem dJ1_charAt_3b067_3 : decode cJ1_charAt_3b067 3 = .ok (.invokestatic 9, 3) := by decide +kernel
theorem dJ1_charAt_3b067_6 : decode cJ1_charAt_3b067 6 = .ok (.aload_n 0, 1) := by decide +kernel
theorem dJ1_charAt_3b067_7 : decode cJ1_charAt_3b067 7 = .ok (.iload_n 1, 1) := by decide +kernel
theorem dJ1_charAt_3b067_8 : decode cJ1_charAt_3b067 8 = .ok (.baload, 1) := by decide +kernel
theorem dJ1_charAt_3b067_9 : decode cJ1_charAt_3b067 9 = .ok (.sipush 255, 3) := by decide +kernel
theorem dJ1_charAt_3b067_12 : decode cJ1_charAt_3b067 12 = .ok (.iand, 1) := by decide +kernel
theorem dJ1_charAt_3b067_13 : decode cJ1_charAt_3b067 13 = .ok (.i2c, 1) := by decide +kernel
theorem dJ1_charAt_3b067_14 : decode cJ1_charAt_3b067 14 = .ok (.ireturn, 1) := by decide +kernel
theorem dJ0_charAt_5068e_0 : decode cJ0_charAt_5068e 0 = .ok (.aload_n 0, 1) := by decide +kernel
theorem dJ0_charAt_5068e_1 : decode cJ0_charAt_5068e 1 = .ok (.invokevirtual 492, 3) := by decide +kernel
theorem dJ0_charAt_5068e_4 : decode cJ0_charAt_5068e 4 = .ok (.ifCond .eq 12, 3) := by decide +kernel
theorem dJ0_charAt_5068e_7 : decode cJ0_charAt_5068e 7 = .ok (.aload_n 0, 1) := by decide +kernel
theorem dJ0_charAt_5068e_8 : decode cJ0_charAt_5068e 8 = .ok (.getfield 9, 3) := by decide +kernel
theorem dJ0_charAt_5068e_11 : decode cJ0_charAt_5068e 11 = .ok (.iload_n 1, 1) := by decide +kernel
theorem dJ0_charAt_5068e_12 : decode cJ0_charAt_5068e 12 = .ok (.invokestatic 495, 3) := by decide +kernel
theorem dJ0_charAt_5068e_15 : decode cJ0_charAt_5068e 15 = .ok (.ireturn, 1) := by decide +kernel
theorem dJ0_charAt_5068e_16 : decode cJ0_charAt_5068e 16 = .ok (.aload_n 0, 1) := by decide +kernel
theorem dJ0_charAt_5068e_17 : decode cJ0_charAt_5068e 17 = .ok (.getfield 9, 3) := by decide +kernel
theorem dJ0_charAt_5068e_20 : decode cJ0_charAt_5068e 20 = .ok (.iload_n 1, 1) := by decide +kernel
theorem dJ0_charAt_5068e_21 : decode cJ0_charAt_5068e 21 = .ok (.invokestatic 498, 3) := by decide +kernel
theorem dJ0_charAt_5068e_24 : decode cJ0_charAt_5068e 24 = .ok (.ireturn, 1) := by decide +kernel
theorem dJ0_coder_7d493_0 : decode cJ0_coder_7d493 0 = .ok (.getstatic 38, 3) := by decide +kernel
theorem dJ0_coder_7d493_3 : decode cJ0_coder_7d493 3 = .ok (.ifCond .eq 10, 3) := by decide +kernel
theorem dJ0_coder_7d493_6 : decode cJ0_coder_7d493 6 = .ok (.aload_n 0, 1) := by decide +kernel
theorem dJ0_coder_7d493_7 : decode cJ0_coder_7d493 7 = .ok (.getfield 15, 3) := by decide +kernel
theorem dJ0_coder_7d493_10 : decode cJ0_coder_7d493 10 = .ok (.goto 4, 3) := by decide +kernel
theorem dJ0_coder_7d493_13 : decode cJ0_coder_7d493 13 = .ok (.iconst 1, 1) := by decide +kernel
theorem dJ0_coder_7d493_14 : decode cJ0_coder_7d493 14 = .ok (.ireturn, 1) := by decide +kernel
theorem dJ0_length_8abf5_0 : decode cJ0_length_8abf5 0 = .ok (.aload_n 0, 1) := by decide +kernel
theorem dJ0_length_8abf5_1 : decode cJ0_length_8abf5 1 = .ok (.getfield 9, 3) := by decide +kernel
theorem dJ0_length_8abf5_4 : decode cJ0_length_8abf5 4 = .ok (.arraylength, 1) := by decide +kernel
theorem dJ0_length_8abf5_5 : decode cJ0_length_8abf5 5 = .ok (.aload_n 0, 1) := by decide +kernel
theorem dJ0_length_8abf5_6 : decode cJ0_length_8abf5 6 = .ok (.invokevirtual 335, 3) := by decide +kernel
theorem dJ0_length_8abf5_9 : decode cJ0_length_8abf5 9 = .ok (.ishr, 1) := by decide +kernel
theorem dJ0_length_8abf5_10 : decode cJ0_length_8abf5 10 = .ok (.ireturn, 1) := by decide +kernel
theorem dJ1_canEncode_9a6ad_0 : decode cJ1_canEncode_9a6ad 0 = .ok (.iload_n 0, 1) := by decide +kernel
theorem dJ1_canEncode_9a6ad_1 : decode cJ1_canEncode_9a6ad 1 = .ok (.ifCond .lt 14, 3) := by decide +kernel
theorem dJ1_canEncode_9a6ad_4 : decode cJ1_canEncode_9a6ad 4 = .ok (.iload_n 0, 1) := by decide +kernel
theorem dJ1_canEncode_9a6ad_5 : decode cJ1_canEncode_9a6ad 5 = .ok (.sipush 255, 3) := by decide +kernel
theorem dJ1_canEncode_9a6ad_8 : decode cJ1_canEncode_9a6ad 8 = .ok (.if_icmp .gt 7, 3) := by decide +kernel
theorem dJ1_canEncode_9a6ad_11 : decode cJ1_canEncode_9a6ad 11 = .ok (.iconst 1, 1) := by decide +kernel
theorem dJ1_canEncode_9a6ad_12 : decode cJ1_canEncode_9a6ad 12 = .ok (.goto 4, 3) := by decide +kernel
theorem dJ1_canEncode_9a6ad_15 : decode cJ1_canEncode_9a6ad 15 = .ok (.iconst 0, 1) := by decide +kernel
theorem dJ1_canEncode_9a6ad_16 : decode cJ1_canEncode_9a6ad 16 = .ok (.ireturn, 1) := by decide +kernel
theorem dJ1_indexOfChar_4cfef_0 : decode cJ1_indexOfChar_4cfef 0 = .ok (.iload_n 1, 1) := by decide +kernel
theorem dJ1_indexOfChar_4cfef_1 : decode cJ1_indexOfChar_4cfef 1 = .ok (.i2b, 1) := by decide +kernel
theorem dJ1_indexOfChar_4cfef_2 : decode cJ1_indexOfChar_4cfef 2 = .ok (.istore 4, 2) := by decide +kernel
theorem dJ1_indexOfChar_4cfef_4 : decode cJ1_indexOfChar_4cfef 4 = .ok (.iload_n 2, 1) := by decide +kernel
theorem dJ1_indexOfChar_4cfef_5 : decode cJ1_indexOfChar_4cfef 5 = .ok (.istore 5, 2) := by decide +kernel
theorem dJ1_indexOfChar_4cfef_7 : decode cJ1_indexOfChar_4cfef 7 = .ok (.iload 5, 2) := by decide +kernel
theorem dJ1_indexOfChar_4cfef_9 : decode cJ1_indexOfChar_4cfef 9 = .ok (.iload_n 3, 1) := by decide +kernel
theorem dJ1_indexOfChar_4cfef_10 : decode cJ1_indexOfChar_4cfef 10 = .ok (.if_icmp .ge 21, 3) := by decide +kernel
theorem dJ1_indexOfChar_4cfef_13 : decode cJ1_indexOfChar_4cfef 13 = .ok (.aload_n 0, 1) := by decide +kernel
theorem dJ1_indexOfChar_4cfef_14 : decode cJ1_indexOfChar_4cfef 14 = .ok (.iload 5, 2) := by decide +kernel
theorem dJ1_indexOfChar_4cfef_16 : decode cJ1_indexOfChar_4cfef 16 = .ok (.baload, 1) := by decide +kernel
theorem dJ1_indexOfChar_4cfef_17 : decode cJ1_indexOfChar_4cfef 17 = .ok (.iload 4, 2) := by decide +kernel
theorem dJ1_indexOfChar_4cfef_19 : decode cJ1_indexOfChar_4cfef 19 = .ok (.if_icmp .ne 6, 3) := by decide +kernel
theorem dJ1_indexOfChar_4cfef_22 : decode cJ1_indexOfChar_4cfef 22 = .ok (.iload 5, 2) := by decide +kernel
theorem dJ1_indexOfChar_4cfef_24 : decode cJ1_indexOfChar_4cfef 24 = .ok (.ireturn, 1) := by decide +kernel
theorem dJ1_indexOfChar_4cfef_25 : decode cJ1_indexOfChar_4cfef 25 = .ok (.iinc 5 1, 3) := by decide +kernel
theorem dJ1_indexOfChar_4cfef_28 : decode cJ1_indexOfChar_4cfef 28 = .ok (.goto (-21), 3) := by decide +kernel
theorem dJ1_indexOfChar_4cfef_31 : decode cJ1_indexOfChar_4cfef 31 = .ok (.iconst (-1), 1) := by decide +kernel
theorem dJ1_indexOfChar_4cfef_32 : decode cJ1_indexOfChar_4cfef 32 = .ok (.ireturn, 1) := by decide +kernel
theorem dJ1_indexOf_4cfef_0 : decode cJ1_indexOf_4cfef 0 = .ok (.iload_n 1, 1) := by decide +kernel
theorem dJ1_indexOf_4cfef_1 : decode cJ1_indexOf_4cfef 1 = .ok (.invokestatic 88, 3) := by decide +kernel
theorem dJ1_indexOf_4cfef_4 : decode cJ1_indexOf_4cfef 4 = .ok (.ifCond .ne 5, 3) := by decide +kernel
theorem dJ1_indexOf_4cfef_7 : decode cJ1_indexOf_4cfef 7 = .ok (.iconst (-1), 1) := by decide +kernel
theorem dJ1_indexOf_4cfef_8 : decode cJ1_indexOf_4cfef 8 = .ok (.ireturn, 1) := by decide +kernel
theorem dJ1_indexOf_4cfef_9 : decode cJ1_indexOf_4cfef 9 = .ok (.iload_n 2, 1) := by decide +kernel
theorem dJ1_indexOf_4cfef_10 : decode cJ1_indexOf_4cfef 10 = .ok (.iconst 0, 1) := by decide +kernel
theorem dJ1_indexOf_4cfef_11 : decode cJ1_indexOf_4cfef 11 = .ok (.invokestatic 92, 3) := by decide +kernel
theorem dJ1_indexOf_4cfef_14 : decode cJ1_indexOf_4cfef 14 = .ok (.istore_n 2, 1) := by decide +kernel
theorem dJ1_indexOf_4cfef_15 : decode cJ1_indexOf_4cfef 15 = .ok (.iload_n 3, 1) := by decide +kernel
theorem dJ1_indexOf_4cfef_16 : decode cJ1_indexOf_4cfef 16 = .ok (.aload_n 0, 1) := by decide +kernel
theorem dJ1_indexOf_4cfef_17 : decode cJ1_indexOf_4cfef 17 = .ok (.arraylength, 1) := by decide +kernel
theorem dJ1_indexOf_4cfef_18 : decode cJ1_indexOf_4cfef 18 = .ok (.invokestatic 38, 3) := by decide +kernel
theorem dJ1_indexOf_4cfef_21 : decode cJ1_indexOf_4cfef 21 = .ok (.istore_n 3, 1) := by decide +kernel
theorem dJ1_indexOf_4cfef_22 : decode cJ1_indexOf_4cfef 22 = .ok (.iload_n 2, 1) := by decide +kernel
theorem dJ1_indexOf_4cfef_23 : decode cJ1_indexOf_4cfef 23 = .ok (.iload_n 3, 1) := by decide +kernel
theorem dJ1_indexOf_4cfef_24 : decode cJ1_indexOf_4cfef 24 = .ok (.if_icmp .lt 5, 3) := by decide +kernel
theorem dJ1_indexOf_4cfef_27 : decode cJ1_indexOf_4cfef 27 = .ok (.iconst (-1), 1) := by decide +kernel
theorem dJ1_indexOf_4cfef_28 : decode cJ1_indexOf_4cfef 28 = .ok (.ireturn, 1) := by decide +kernel
theorem dJ1_indexOf_4cfef_29 : decode cJ1_indexOf_4cfef 29 = .ok (.aload_n 0, 1) := by decide +kernel
theorem dJ1_indexOf_4cfef_30 : decode cJ1_indexOf_4cfef 30 = .ok (.iload_n 1, 1) := by decide +kernel
theorem dJ1_indexOf_4cfef_31 : decode cJ1_indexOf_4cfef 31 = .ok (.iload_n 2, 1) := by decide +kernel
theorem dJ1_indexOf_4cfef_32 : decode cJ1_indexOf_4cfef 32 = .ok (.iload_n 3, 1) := by decide +kernel
theorem dJ1_indexOf_4cfef_33 : decode cJ1_indexOf_4cfef 33 = .ok (.invokestatic 95, 3) := by decide +kernel
theorem dJ1_indexOf_4cfef_36 : decode cJ1_indexOf_4cfef 36 = .ok (.ireturn, 1) := by decide +kernel
theorem dJ0_indexOf_7cf53_0 : decode cJ0_indexOf_7cf53 0 = .ok (.aload_n 0, 1) := by decide +kernel
theorem dJ0_indexOf_7cf53_1 : decode cJ0_indexOf_7cf53 1 = .ok (.invokevirtual 492, 3) := by decide +kernel
theorem dJ0_indexOf_7cf53_4 : decode cJ0_indexOf_7cf53 4 = .ok (.ifCond .eq 19, 3) := by decide +kernel
theorem dJ0_indexOf_7cf53_7 : decode cJ0_indexOf_7cf53 7 = .ok (.aload_n 0, 1) := by decide +kernel
theorem dJ0_indexOf_7cf53_8 : decode cJ0_indexOf_7cf53 8 = .ok (.getfield 9, 3) := by decide +kernel
theorem dJ0_indexOf_7cf53_11 : decode cJ0_indexOf_7cf53 11 = .ok (.iload_n 1, 1) := by decide +kernel
theorem dJ0_indexOf_7cf53_12 : decode cJ0_indexOf_7cf53 12 = .ok (.iload_n 2, 1) := by decide +kernel
theorem dJ0_indexOf_7cf53_13 : decode cJ0_indexOf_7cf53 13 = .ok (.aload_n 0, 1) := by decide +kernel
theorem dJ0_indexOf_7cf53_14 : decode cJ0_indexOf_7cf53 14 = .ok (.invokevirtual 505, 3) := by decide +kernel
theorem dJ0_indexOf_7cf53_17 : decode cJ0_indexOf_7cf53 17 = .ok (.invokestatic 637, 3) := by decide +kernel
theorem dJ0_indexOf_7cf53_20 : decode cJ0_indexOf_7cf53 20 = .ok (.goto 16, 3) := by decide +kernel
theorem dJ0_indexOf_7cf53_23 : decode cJ0_indexOf_7cf53 23 = .ok (.aload_n 0, 1) := by decide +kernel
theorem dJ0_indexOf_7cf53_24 : decode cJ0_indexOf_7cf53 24 = .ok (.getfield 9, 3) := by decide +kernel
theorem dJ0_indexOf_7cf53_27 : decode cJ0_indexOf_7cf53 27 = .ok (.iload_n 1, 1) := by decide +kernel
theorem dJ0_indexOf_7cf53_28 : decode cJ0_indexOf_7cf53 28 = .ok (.iload_n 2, 1) := by decide +kernel
theorem dJ0_indexOf_7cf53_29 : decode cJ0_indexOf_7cf53 29 = .ok (.aload_n 0, 1) := by decide +kernel
theorem dJ0_indexOf_7cf53_30 : decode cJ0_indexOf_7cf53 30 = .ok (.invokevirtual 505, 3) := by decide +kernel
theorem dJ0_indexOf_7cf53_33 : decode cJ0_indexOf_7cf53 33 = .ok (.invokestatic 640, 3) := by decide +kernel
theorem dJ0_indexOf_7cf53_36 : decode cJ0_indexOf_7cf53 36 = .ok (.ireturn, 1) := by decide +kernel
theorem dJ0_indexOf_0f7a4_0 : decode cJ0_indexOf_0f7a4 0 = .ok (.aload_n 0, 1) := by decide +kernel
theorem dJ0_indexOf_0f7a4_1 : decode cJ0_indexOf_0f7a4 1 = .ok (.iload_n 1, 1) := by decide +kernel
theorem dJ0_indexOf_0f7a4_2 : decode cJ0_indexOf_0f7a4 2 = .ok (.iconst 0, 1) := by decide +kernel
theorem dJ0_indexOf_0f7a4_3 : decode cJ0_indexOf_0f7a4 3 = .ok (.invokevirtual 633, 3) := by decide +kernel
theorem dJ0_indexOf_0f7a4_6 : decode cJ0_indexOf_0f7a4 6 = .ok (.ireturn, 1) := by decide +kernel
theorem dJ6_bitCount_0f7a4_0 : decode cJ6_bitCount_0f7a4 0 = .ok (.iload_n 0, 1) := by decide +kernel
theorem dJ6_bitCount_0f7a4_1 : decode cJ6_bitCount_0f7a4 1 = .ok (.iload_n 0, 1) := by decide +kernel
theorem dJ6_bitCount_0f7a4_2 : decode cJ6_bitCount_0f7a4 2 = .ok (.iconst 1, 1) := by decide +kernel
theorem dJ6_bitCount_0f7a4_3 : decode cJ6_bitCount_0f7a4 3 = .ok (.iushr, 1) := by decide +kernel
theorem dJ6_bitCount_0f7a4_4 : decode cJ6_bitCount_0f7a4 4 = .ok (.ldc_w 265, 3) := by decide +kernel
theorem dJ6_bitCount_0f7a4_7 : decode cJ6_bitCount_0f7a4 7 = .ok (.iand, 1) := by decide +kernel
theorem dJ6_bitCount_0f7a4_8 : decode cJ6_bitCount_0f7a4 8 = .ok (.isub, 1) := by decide +kernel
theorem dJ6_bitCount_0f7a4_9 : decode cJ6_bitCount_0f7a4 9 = .ok (.istore_n 0, 1) := by decide +kernel
theorem dJ6_bitCount_0f7a4_10 : decode cJ6_bitCount_0f7a4 10 = .ok (.iload_n 0, 1) := by decide +kernel
theorem dJ6_bitCount_0f7a4_11 : decode cJ6_bitCount_0f7a4 11 = .ok (.ldc_w 266, 3) := by decide +kernel
theorem dJ6_bitCount_0f7a4_14 : decode cJ6_bitCount_0f7a4 14 = .ok (.iand, 1) := by decide +kernel
theorem dJ6_bitCount_0f7a4_15 : decode cJ6_bitCount_0f7a4 15 = .ok (.iload_n 0, 1) := by decide +kernel
theorem dJ6_bitCount_0f7a4_16 : decode cJ6_bitCount_0f7a4 16 = .ok (.iconst 2, 1) := by decide +kernel
theorem dJ6_bitCount_0f7a4_17 : decode cJ6_bitCount_0f7a4 17 = .ok (.iushr, 1) := by decide +kernel
theorem dJ6_bitCount_0f7a4_18 : decode cJ6_bitCount_0f7a4 18 = .ok (.ldc_w 266, 3) := by decide +kernel
theorem dJ6_bitCount_0f7a4_21 : decode cJ6_bitCount_0f7a4 21 = .ok (.iand, 1) := by decide +kernel
theorem dJ6_bitCount_0f7a4_22 : decode cJ6_bitCount_0f7a4 22 = .ok (.iadd, 1) := by decide +kernel
theorem dJ6_bitCount_0f7a4_23 : decode cJ6_bitCount_0f7a4 23 = .ok (.istore_n 0, 1) := by decide +kernel
theorem dJ6_bitCount_0f7a4_24 : decode cJ6_bitCount_0f7a4 24 = .ok (.iload_n 0, 1) := by decide +kernel
theorem dJ6_bitCount_0f7a4_25 : decode cJ6_bitCount_0f7a4 25 = .ok (.iload_n 0, 1) := by decide +kernel
theorem dJ6_bitCount_0f7a4_26 : decode cJ6_bitCount_0f7a4 26 = .ok (.iconst 4, 1) := by decide +kernel
theorem dJ6_bitCount_0f7a4_27 : decode cJ6_bitCount_0f7a4 27 = .ok (.iushr, 1) := by decide +kernel
theorem dJ6_bitCount_0f7a4_28 : decode cJ6_bitCount_0f7a4 28 = .ok (.iadd, 1) := by decide +kernel
theorem dJ6_bitCount_0f7a4_29 : decode cJ6_bitCount_0f7a4 29 = .ok (.ldc_w 267, 3) := by decide +kernel
theorem dJ6_bitCount_0f7a4_32 : decode cJ6_bitCount_0f7a4 32 = .ok (.iand, 1) := by decide +kernel
theorem dJ6_bitCount_0f7a4_33 : decode cJ6_bitCount_0f7a4 33 = .ok (.istore_n 0, 1) := by decide +kernel
theorem dJ6_bitCount_0f7a4_34 : decode cJ6_bitCount_0f7a4 34 = .ok (.iload_n 0, 1) := by decide +kernel
theorem dJ6_bitCount_0f7a4_35 : decode cJ6_bitCount_0f7a4 35 = .ok (.iload_n 0, 1) := by decide +kernel
theorem dJ6_bitCount_0f7a4_36 : decode cJ6_bitCount_0f7a4 36 = .ok (.bipush 8, 2) := by decide +kernel
theorem dJ6_bitCount_0f7a4_38 : decode cJ6_bitCount_0f7a4 38 = .ok (.iushr, 1) := by decide +kernel
theorem dJ6_bitCount_0f7a4_39 : decode cJ6_bitCount_0f7a4 39 = .ok (.iadd, 1) := by decide +kernel
theorem dJ6_bitCount_0f7a4_40 : decode cJ6_bitCount_0f7a4 40 = .ok (.istore_n 0, 1) := by decide +kernel
theorem dJ6_bitCount_0f7a4_41 : decode cJ6_bitCount_0f7a4 41 = .ok (.iload_n 0, 1) := by decide +kernel
theorem dJ6_bitCount_0f7a4_42 : decode cJ6_bitCount_0f7a4 42 = .ok (.iload_n 0, 1) := by decide +kernel
theorem dJ6_bitCount_0f7a4_43 : decode cJ6_bitCount_0f7a4 43 = .ok (.bipush 16, 2) := by decide +kernel
theorem dJ6_bitCount_0f7a4_45 : decode cJ6_bitCount_0f7a4 45 = .ok (.iushr, 1) := by decide +kernel
theorem dJ6_bitCount_0f7a4_46 : decode cJ6_bitCount_0f7a4 46 = .ok (.iadd, 1) := by decide +kernel
theorem dJ6_bitCount_0f7a4_47 : decode cJ6_bitCount_0f7a4 47 = .ok (.istore_n 0, 1) := by decide +kernel
theorem dJ6_bitCount_0f7a4_48 : decode cJ6_bitCount_0f7a4 48 = .ok (.iload_n 0, 1) := by decide +kernel
theorem dJ6_bitCount_0f7a4_49 : decode cJ6_bitCount_0f7a4 49 = .ok (.bipush 63, 2) := by decide +kernel
theorem dJ6_bitCount_0f7a4_51 : decode cJ6_bitCount_0f7a4 51 = .ok (.iand, 1) := by decide +kernel
theorem dJ6_bitCount_0f7a4_52 : decode cJ6_bitCount_0f7a4 52 = .ok (.ireturn, 1) := by decide +kernel
theorem dJ7_copyOf_59c91_0 : decode cJ7_copyOf_59c91 0 = .ok (.iload_n 1, 1) := by decide +kernel
theorem dJ7_copyOf_59c91_1 : decode cJ7_copyOf_59c91 1 = .ok (.aload_n 0, 1) := by decide +kernel
theorem dJ7_copyOf_59c91_2 : decode cJ7_copyOf_59c91 2 = .ok (.arraylength, 1) := by decide +kernel
theorem dJ7_copyOf_59c91_3 : decode cJ7_copyOf_59c91 3 = .ok (.if_icmp .ne 11, 3) := by decide +kernel
theorem dJ7_copyOf_59c91_6 : decode cJ7_copyOf_59c91 6 = .ok (.aload_n 0, 1) := by decide +kernel
theorem dJ7_copyOf_59c91_7 : decode cJ7_copyOf_59c91 7 = .ok (.invokevirtual 316, 3) := by decide +kernel
theorem dJ7_copyOf_59c91_10 : decode cJ7_copyOf_59c91 10 = .ok (.checkcast 317, 3) := by decide +kernel
theorem dJ7_copyOf_59c91_13 : decode cJ7_copyOf_59c91 13 = .ok (.areturn, 1) := by decide +kernel
theorem dJ7_copyOf_59c91_14 : decode cJ7_copyOf_59c91 14 = .ok (.iload_n 1, 1) := by decide +kernel
theorem dJ7_copyOf_59c91_15 : decode cJ7_copyOf_59c91 15 = .ok (.newarray .int, 2) := by decide +kernel
theorem dJ7_copyOf_59c91_17 : decode cJ7_copyOf_59c91 17 = .ok (.astore_n 2, 1) := by decide +kernel
theorem dJ7_copyOf_59c91_18 : decode cJ7_copyOf_59c91 18 = .ok (.aload_n 0, 1) := by decide +kernel
theorem dJ7_copyOf_59c91_19 : decode cJ7_copyOf_59c91 19 = .ok (.iconst 0, 1) := by decide +kernel
theorem dJ7_copyOf_59c91_20 : decode cJ7_copyOf_59c91 20 = .ok (.aload_n 2, 1) := by decide +kernel
theorem dJ7_copyOf_59c91_21 : decode cJ7_copyOf_59c91 21 = .ok (.iconst 0, 1) := by decide +kernel
theorem dJ7_copyOf_59c91_22 : decode cJ7_copyOf_59c91 22 = .ok (.aload_n 0, 1) := by decide +kernel
theorem dJ7_copyOf_59c91_23 : decode cJ7_copyOf_59c91 23 = .ok (.arraylength, 1) := by decide +kernel
theorem dJ7_copyOf_59c91_24 : decode cJ7_copyOf_59c91 24 = .ok (.iload_n 1, 1) := by decide +kernel
theorem dJ7_copyOf_59c91_25 : decode cJ7_copyOf_59c91 25 = .ok (.invokestatic 304, 3) := by decide +kernel
theorem dJ7_copyOf_59c91_28 : decode cJ7_copyOf_59c91 28 = .ok (.invokestatic 150, 3) := by decide +kernel
theorem dJ7_copyOf_59c91_31 : decode cJ7_copyOf_59c91 31 = .ok (.aload_n 2, 1) := by decide +kernel
theorem dJ7_copyOf_59c91_32 : decode cJ7_copyOf_59c91 32 = .ok (.areturn, 1) := by decide +kernel
theorem dJ7_fill_53178_0 : decode cJ7_fill_53178 0 = .ok (.iconst 0, 1) := by decide +kernel
theorem dJ7_fill_53178_1 : decode cJ7_fill_53178 1 = .ok (.istore_n 2, 1) := by decide +kernel
theorem dJ7_fill_53178_2 : decode cJ7_fill_53178 2 = .ok (.aload_n 0, 1) := by decide +kernel
theorem dJ7_fill_53178_3 : decode cJ7_fill_53178 3 = .ok (.arraylength, 1) := by decide +kernel
theorem dJ7_fill_53178_4 : decode cJ7_fill_53178 4 = .ok (.istore_n 3, 1) := by decide +kernel
theorem dJ7_fill_53178_5 : decode cJ7_fill_53178 5 = .ok (.iload_n 2, 1) := by decide +kernel
theorem dJ7_fill_53178_6 : decode cJ7_fill_53178 6 = .ok (.iload_n 3, 1) := by decide +kernel
theorem dJ7_fill_53178_7 : decode cJ7_fill_53178 7 = .ok (.if_icmp .ge 13, 3) := by decide +kernel
theorem dJ7_fill_53178_10 : decode cJ7_fill_53178 10 = .ok (.aload_n 0, 1) := by decide +kernel
theorem dJ7_fill_53178_11 : decode cJ7_fill_53178 11 = .ok (.iload_n 2, 1) := by decide +kernel
theorem dJ7_fill_53178_12 : decode cJ7_fill_53178 12 = .ok (.iload_n 1, 1) := by decide +kernel
theorem dJ7_fill_53178_13 : decode cJ7_fill_53178 13 = .ok (.iastore, 1) := by decide +kernel
theorem dJ7_fill_53178_14 : decode cJ7_fill_53178 14 = .ok (.iinc 2 1, 3) := by decide +kernel
theorem dJ7_fill_53178_17 : decode cJ7_fill_53178 17 = .ok (.goto (-12), 3) := by decide +kernel
theorem dJ7_fill_53178_20 : decode cJ7_fill_53178 20 = .ok (.return_, 1) := by decide +kernel
theorem dX8_within_0 : decode cX8_within 0 = .ok (.iload_n 0, 1) := by decide +kernel
theorem dX8_within_1 : decode cX8_within 1 = .ok (.iload_n 1, 1) := by decide +kernel
theorem dX8_within_2 : decode cX8_within 2 = .ok (.if_icmp .lt 12, 3) := by decide +kernel
theorem dX8_within_5 : decode cX8_within 5 = .ok (.iload_n 0, 1) := by decide +kernel
theorem dX8_within_6 : decode cX8_within 6 = .ok (.iload_n 2, 1) := by decide +kernel
theorem dX8_within_7 : decode cX8_within 7 = .ok (.if_icmp .gt 7, 3) := by decide +kernel
theorem dX8_within_10 : decode cX8_within 10 = .ok (.iconst 1, 1) := by decide +kernel
theorem dX8_within_11 : decode cX8_within 11 = .ok (.goto 4, 3) := by decide +kernel
theorem dX8_within_14 : decode cX8_within 14 = .ok (.iconst 0, 1) := by decide +kernel
theorem dX8_within_15 : decode cX8_within 15 = .ok (.ireturn, 1) := by decide +kernel
theorem dX8_at_0 : decode cX8_at 0 = .ok (.iload_n 1, 1) := by decide +kernel
theorem dX8_at_1 : decode cX8_at 1 = .ok (.ifCond .lt 15, 3) := by decide +kernel
theorem dX8_at_4 : decode cX8_at 4 = .ok (.iload_n 1, 1) := by decide +kernel
theorem dX8_at_5 : decode cX8_at 5 = .ok (.aload_n 0, 1) := by decide +kernel
theorem dX8_at_6 : decode cX8_at 6 = .ok (.arraylength, 1) := by decide +kernel
theorem dX8_at_7 : decode cX8_at 7 = .ok (.if_icmp .ge 9, 3) := by decide +kernel
theorem dX8_at_10 : decode cX8_at 10 = .ok (.aload_n 0, 1) := by decide +kernel
theorem dX8_at_11 : decode cX8_at 11 = .ok (.iload_n 1, 1) := by decide +kernel
theorem dX8_at_12 : decode cX8_at 12 = .ok (.iaload, 1) := by decide +kernel
theorem dX8_at_13 : decode cX8_at 13 = .ok (.goto 4, 3) := by decide +kernel
theorem dX8_at_16 : decode cX8_at 16 = .ok (.iconst 0, 1) := by decide +kernel
theorem dX8_at_17 : decode cX8_at 17 = .ok (.ireturn, 1) := by decide +kernel
theorem dX1_countsAt_0 : decode cX1_countsAt 0 = .ok (.aload_n 0, 1) := by decide +kernel
theorem dX1_countsAt_1 : decode cX1_countsAt 1 = .ok (.getfield 30, 3) := by decide +kernel
theorem dX1_countsAt_4 : decode cX1_countsAt 4 = .ok (.iload_n 1, 1) := by decide +kernel
theorem dX1_countsAt_5 : decode cX1_countsAt 5 = .ok (.if_icmp .gt 23, 3) := by decide +kernel
theorem dX1_countsAt_8 : decode cX1_countsAt 8 = .ok (.aload_n 0, 1) := by decide +kernel
theorem dX1_countsAt_9 : decode cX1_countsAt 9 = .ok (.getfield 9, 3) := by decide +kernel
theorem dX1_countsAt_12 : decode cX1_countsAt 12 = .ok (.iconst (-1), 1) := by decide +kernel
theorem dX1_countsAt_13 : decode cX1_countsAt 13 = .ok (.if_icmp .eq 11, 3) := by decide +kernel
theorem dX1_countsAt_16 : decode cX1_countsAt 16 = .ok (.aload_n 0, 1) := by decide +kernel
theorem dX1_countsAt_17 : decode cX1_countsAt 17 = .ok (.getfield 9, 3) := by decide +kernel
theorem dX1_countsAt_20 : decode cX1_countsAt 20 = .ok (.iload_n 1, 1) := by decide +kernel
theorem dX1_countsAt_21 : decode cX1_countsAt 21 = .ok (.if_icmp .le 7, 3) := by decide +kernel
theorem dX1_countsAt_24 : decode cX1_countsAt 24 = .ok (.iconst 1, 1) := by decide +kernel
theorem dX1_countsAt_25 : decode cX1_countsAt 25 = .ok (.goto 4, 3) := by decide +kernel
theorem dX1_countsAt_28 : decode cX1_countsAt 28 = .ok (.iconst 0, 1) := by decide +kernel
theorem dX1_countsAt_29 : decode cX1_countsAt 29 = .ok (.ireturn, 1) := by decide +kernel
theorem dX1_init_0 : decode cX1_init 0 = .ok (.aload_n 0, 1) := by decide +kernel
theorem dX1_init_1 : decode cX1_init 1 = .ok (.invokespecial 3, 3) := by decide +kernel
theorem dX1_init_4 : decode cX1_init 4 = .ok (.aload_n 0, 1) := by decide +kernel
theorem dX1_init_5 : decode cX1_init 5 = .ok (.iconst (-1), 1) := by decide +kernel
theorem dX1_init_6 : decode cX1_init 6 = .ok (.putfield 9, 3) := by decide +kernel
theorem dX1_init_9 : decode cX1_init 9 = .ok (.aload_n 0, 1) := by decide +kernel
theorem dX1_init_10 : decode cX1_init 10 = .ok (.iload_n 1, 1) := by decide +kernel
theorem dX1_init_11 : decode cX1_init 11 = .ok (.putfield 15, 3) := by decide +kernel
theorem dX1_init_14 : decode cX1_init 14 = .ok (.aload_n 0, 1) := by decide +kernel
theorem dX1_init_15 : decode cX1_init 15 = .ok (.iload_n 2, 1) := by decide +kernel
theorem dX1_init_16 : decode cX1_init 16 = .ok (.putfield 18, 3) := by decide +kernel
theorem dX1_init_19 : decode cX1_init 19 = .ok (.aload_n 0, 1) := by decide +kernel
theorem dX1_init_20 : decode cX1_init 20 = .ok (.iload_n 3, 1) := by decide +kernel
theorem dX1_init_21 : decode cX1_init 21 = .ok (.putfield 21, 3) := by decide +kernel
theorem dX1_init_24 : decode cX1_init 24 = .ok (.aload_n 0, 1) := by decide +kernel
theorem dX1_init_25 : decode cX1_init 25 = .ok (.iload 4, 2) := by decide +kernel
theorem dX1_init_27 : decode cX1_init 27 = .ok (.putfield 24, 3) := by decide +kernel
theorem dX1_init_30 : decode cX1_init 30 = .ok (.aload_n 0, 1) := by decide +kernel
theorem dX1_init_31 : decode cX1_init 31 = .ok (.iload 5, 2) := by decide +kernel
theorem dX1_init_33 : decode cX1_init 33 = .ok (.putfield 27, 3) := by decide +kernel
theorem dX1_init_36 : decode cX1_init 36 = .ok (.aload_n 0, 1) := by decide +kernel
theorem dX1_init_37 : decode cX1_init 37 = .ok (.iload 6, 2) := by decide +kernel
theorem dX1_init_39 : decode cX1_init 39 = .ok (.putfield 30, 3) := by decide +kernel
theorem dX1_init_42 : decode cX1_init 42 = .ok (.return_, 1) := by decide +kernel
theorem dX3_init_0 : decode cX3_init 0 = .ok (.aload_n 0, 1) := by decide +kernel
theorem dX3_init_1 : decode cX3_init 1 = .ok (.invokespecial 1, 3) := by decide +kernel
theorem dX3_init_4 : decode cX3_init 4 = .ok (.aload_n 0, 1) := by decide +kernel
theorem dX3_init_5 : decode cX3_init 5 = .ok (.iload_n 1, 1) := by decide +kernel
theorem dX3_init_6 : decode cX3_init 6 = .ok (.putfield 7, 3) := by decide +kernel
theorem dX3_init_9 : decode cX3_init 9 = .ok (.aload_n 0, 1) := by decide +kernel
theorem dX3_init_10 : decode cX3_init 10 = .ok (.iload_n 2, 1) := by decide +kernel
theorem dX3_init_11 : decode cX3_init 11 = .ok (.putfield 13, 3) := by decide +kernel
theorem dX3_init_14 : decode cX3_init 14 = .ok (.aload_n 0, 1) := by decide +kernel
theorem dX3_init_15 : decode cX3_init 15 = .ok (.aload_n 3, 1) := by decide +kernel
theorem dX3_init_16 : decode cX3_init 16 = .ok (.putfield 16, 3) := by decide +kernel
theorem dX3_init_19 : decode cX3_init 19 = .ok (.return_, 1) := by decide +kernel
theorem dX0_addRule_0 : decode cX0_addRule 0 = .ok (.aload_n 0, 1) := by decide +kernel
theorem dX0_addRule_1 : decode cX0_addRule 1 = .ok (.getfield 22, 3) := by decide +kernel
theorem dX0_addRule_4 : decode cX0_addRule 4 = .ok (.ifCond .lt 35, 3) := by decide +kernel
theorem dX0_addRule_7 : decode cX0_addRule 7 = .ok (.aload_n 0, 1) := by decide +kernel
theorem dX0_addRule_8 : decode cX0_addRule 8 = .ok (.getfield 22, 3) := by decide +kernel
theorem dX0_addRule_11 : decode cX0_addRule 11 = .ok (.aload_n 0, 1) := by decide +kernel
theorem dX0_addRule_12 : decode cX0_addRule 12 = .ok (.getfield 11, 3) := by decide +kernel
theorem dX0_addRule_15 : decode cX0_addRule 15 = .ok (.arraylength, 1) := by decide +kernel
theorem dX0_addRule_16 : decode cX0_addRule 16 = .ok (.if_icmp .ge 23, 3) := by decide +kernel
theorem dX0_addRule_19 : decode cX0_addRule 19 = .ok (.aload_n 0, 1) := by decide +kernel
theorem dX0_addRule_20 : decode cX0_addRule 20 = .ok (.getfield 11, 3) := by decide +kernel
theorem dX0_addRule_23 : decode cX0_addRule 23 = .ok (.aload_n 0, 1) := by decide +kernel
theorem dX0_addRule_24 : decode cX0_addRule 24 = .ok (.getfield 22, 3) := by decide +kernel
theorem dX0_addRule_27 : decode cX0_addRule 27 = .ok (.aload_n 1, 1) := by decide +kernel
theorem dX0_addRule_28 : decode cX0_addRule 28 = .ok (.aastore, 1) := by decide +kernel
theorem dX0_addRule_29 : decode cX0_addRule 29 = .ok (.aload_n 0, 1) := by decide +kernel
theorem dX0_addRule_30 : decode cX0_addRule 30 = .ok (.dup, 1) := by decide +kernel
theorem dX0_addRule_31 : decode cX0_addRule 31 = .ok (.getfield 22, 3) := by decide +kernel
theorem dX0_addRule_34 : decode cX0_addRule 34 = .ok (.iconst 1, 1) := by decide +kernel
theorem dX0_addRule_35 : decode cX0_addRule 35 = .ok (.iadd, 1) := by decide +kernel
theorem dX0_addRule_36 : decode cX0_addRule 36 = .ok (.putfield 22, 3) := by decide +kernel
theorem dX0_addRule_39 : decode cX0_addRule 39 = .ok (.return_, 1) := by decide +kernel
theorem dX0_init_0 : decode cX0_init 0 = .ok (.aload_n 0, 1) := by decide +kernel
theorem dX0_init_1 : decode cX0_init 1 = .ok (.invokespecial 1, 3) := by decide +kernel
theorem dX0_init_4 : decode cX0_init 4 = .ok (.aload_n 0, 1) := by decide +kernel
theorem dX0_init_5 : decode cX0_init 5 = .ok (.bipush 10, 2) := by decide +kernel
theorem dX0_init_7 : decode cX0_init 7 = .ok (.anewarray 9, 3) := by decide +kernel
theorem dX0_init_10 : decode cX0_init 10 = .ok (.putfield 11, 3) := by decide +kernel
theorem dX0_init_13 : decode cX0_init 13 = .ok (.aload_n 0, 1) := by decide +kernel
theorem dX0_init_14 : decode cX0_init 14 = .ok (.iconst 0, 1) := by decide +kernel
theorem dX0_init_15 : decode cX0_init 15 = .ok (.newarray .int, 2) := by decide +kernel
theorem dX0_init_17 : decode cX0_init 17 = .ok (.putfield 15, 3) := by decide +kernel
theorem dX0_init_20 : decode cX0_init 20 = .ok (.aload_n 0, 1) := by decide +kernel
theorem dX0_init_21 : decode cX0_init 21 = .ok (.bipush 7, 2) := by decide +kernel
theorem dX0_init_23 : decode cX0_init 23 = .ok (.newarray .int, 2) := by decide +kernel
theorem dX0_init_25 : decode cX0_init 25 = .ok (.dup, 1) := by decide +kernel
theorem dX0_init_26 : decode cX0_init 26 = .ok (.iconst 0, 1) := by decide +kernel
theorem dX0_init_27 : decode cX0_init 27 = .ok (.bipush 12, 2) := by decide +kernel
theorem dX0_init_29 : decode cX0_init 29 = .ok (.iastore, 1) := by decide +kernel
theorem dX0_init_30 : decode cX0_init 30 = .ok (.dup, 1) := by decide +kernel
theorem dX0_init_31 : decode cX0_init 31 = .ok (.iconst 1, 1) := by decide +kernel
theorem dX0_init_32 : decode cX0_init 32 = .ok (.bipush 104, 2) := by decide +kernel
theorem dX0_init_34 : decode cX0_init 34 = .ok (.iastore, 1) := by decide +kernel
theorem dX0_init_35 : decode cX0_init 35 = .ok (.dup, 1) := by decide +kernel
theorem dX0_init_36 : decode cX0_init 36 = .ok (.iconst 2, 1) := by decide +kernel
theorem dX0_init_37 : decode cX0_init 37 = .ok (.iconst 5, 1) := by decide +kernel
theorem dX0_init_38 : decode cX0_init 38 = .ok (.iastore, 1) := by decide +kernel
theorem dX0_init_39 : decode cX0_init 39 = .ok (.dup, 1) := by decide +kernel
theorem dX0_init_40 : decode cX0_init 40 = .ok (.iconst 3, 1) := by decide +kernel
theorem dX0_init_41 : decode cX0_init 41 = .ok (.bipush 90, 2) := by decide +kernel
theorem dX0_init_43 : decode cX0_init 43 = .ok (.iastore, 1) := by decide +kernel
theorem dX0_init_44 : decode cX0_init 44 = .ok (.dup, 1) := by decide +kernel
theorem dX0_init_45 : decode cX0_init 45 = .ok (.iconst 4, 1) := by decide +kernel
theorem dX0_init_46 : decode cX0_init 46 = .ok (.bipush 90, 2) := by decide +kernel
theorem dX0_init_48 : decode cX0_init 48 = .ok (.iastore, 1) := by decide +kernel
theorem dX0_init_49 : decode cX0_init 49 = .ok (.dup, 1) := by decide +kernel
theorem dX0_init_50 : decode cX0_init 50 = .ok (.iconst 5, 1) := by decide +kernel
theorem dX0_init_51 : decode cX0_init 51 = .ok (.sipush 9999, 3) := by decide +kernel
theorem dX0_init_54 : decode cX0_init 54 = .ok (.iastore, 1) := by decide +kernel
theorem dX0_init_55 : decode cX0_init 55 = .ok (.dup, 1) := by decide +kernel
theorem dX0_init_56 : decode cX0_init 56 = .ok (.bipush 6, 2) := by decide +kernel
theorem dX0_init_58 : decode cX0_init 58 = .ok (.iconst 0, 1) := by decide +kernel
theorem dX0_init_59 : decode cX0_init 59 = .ok (.iastore, 1) := by decide +kernel
theorem dX0_init_60 : decode cX0_init 60 = .ok (.putfield 19, 3) := by decide +kernel
theorem dX0_init_63 : decode cX0_init 63 = .ok (.return_, 1) := by decide +kernel
theorem dX0_number_0 : decode cX0_number 0 = .ok (.aload_n 0, 1) := by decide +kernel
theorem dX0_number_1 : decode cX0_number 1 = .ok (.getfield 19, 3) := by decide +kernel
theorem dX0_number_4 : decode cX0_number 4 = .ok (.iload_n 1, 1) := by decide +kernel
theorem dX0_number_5 : decode cX0_number 5 = .ok (.invokestatic 26, 3) := by decide +kernel
theorem dX0_number_8 : decode cX0_number 8 = .ok (.ireturn, 1) := by decide +kernel
theorem dX2_byteAt_0 : decode cX2_byteAt 0 = .ok (.iload_n 1, 1) := by decide +kernel
theorem dX2_byteAt_1 : decode cX2_byteAt 1 = .ok (.ifCond .lt 33, 3) := by decide +kernel
theorem dX2_byteAt_4 : decode cX2_byteAt 4 = .ok (.iload_n 1, 1) := by decide +kernel
theorem dX2_byteAt_5 : decode cX2_byteAt 5 = .ok (.aload_n 0, 1) := by decide +kernel
theorem dX2_byteAt_6 : decode cX2_byteAt 6 = .ok (.getfield 32, 3) := by decide +kernel
theorem dX2_byteAt_9 : decode cX2_byteAt 9 = .ok (.if_icmp .ge 25, 3) := by decide +kernel
theorem dX2_byteAt_12 : decode cX2_byteAt 12 = .ok (.iload_n 1, 1) := by decide +kernel
theorem dX2_byteAt_13 : decode cX2_byteAt 13 = .ok (.aload_n 0, 1) := by decide +kernel
theorem dX2_byteAt_14 : decode cX2_byteAt 14 = .ok (.getfield 9, 3) := by decide +kernel
theorem dX2_byteAt_17 : decode cX2_byteAt 17 = .ok (.arraylength, 1) := by decide +kernel
theorem dX2_byteAt_18 : decode cX2_byteAt 18 = .ok (.if_icmp .ge 16, 3) := by decide +kernel
theorem dX2_byteAt_21 : decode cX2_byteAt 21 = .ok (.aload_n 0, 1) := by decide +kernel
theorem dX2_byteAt_22 : decode cX2_byteAt 22 = .ok (.getfield 9, 3) := by decide +kernel
theorem dX2_byteAt_25 : decode cX2_byteAt 25 = .ok (.iload_n 1, 1) := by decide +kernel
theorem dX2_byteAt_26 : decode cX2_byteAt 26 = .ok (.baload, 1) := by decide +kernel
theorem dX2_byteAt_27 : decode cX2_byteAt 27 = .ok (.sipush 255, 3) := by decide +kernel
theorem dX2_byteAt_30 : decode cX2_byteAt 30 = .ok (.iand, 1) := by decide +kernel
theorem dX2_byteAt_31 : decode cX2_byteAt 31 = .ok (.goto 4, 3) := by decide +kernel
theorem dX2_byteAt_34 : decode cX2_byteAt 34 = .ok (.iconst (-1), 1) := by decide +kernel
theorem dX2_byteAt_35 : decode cX2_byteAt 35 = .ok (.ireturn, 1) := by decide +kernel
theorem dX2_init_0 : decode cX2_init 0 = .ok (.aload_n 0, 1) := by decide +kernel
theorem dX2_init_1 : decode cX2_init 1 = .ok (.invokespecial 3, 3) := by decide +kernel
theorem dX2_init_4 : decode cX2_init 4 = .ok (.aload_n 0, 1) := by decide +kernel
theorem dX2_init_5 : decode cX2_init 5 = .ok (.sipush 900, 3) := by decide +kernel
theorem dX2_init_8 : decode cX2_init 8 = .ok (.newarray .byte, 2) := by decide +kernel
theorem dX2_init_10 : decode cX2_init 10 = .ok (.putfield 9, 3) := by decide +kernel
theorem dX2_init_13 : decode cX2_init 13 = .ok (.aload_n 0, 1) := by decide +kernel
theorem dX2_init_14 : decode cX2_init 14 = .ok (.sipush 901, 3) := by decide +kernel
theorem dX2_init_17 : decode cX2_init 17 = .ok (.newarray .int, 2) := by decide +kernel
theorem dX2_init_19 : decode cX2_init 19 = .ok (.putfield 15, 3) := by decide +kernel
theorem dX2_init_22 : decode cX2_init 22 = .ok (.aload_n 0, 1) := by decide +kernel
theorem dX2_init_23 : decode cX2_init 23 = .ok (.sipush 901, 3) := by decide +kernel
theorem dX2_init_26 : decode cX2_init 26 = .ok (.newarray .int, 2) := by decide +kernel
theorem dX2_init_28 : decode cX2_init 28 = .ok (.putfield 19, 3) := by decide +kernel
theorem dX2_init_31 : decode cX2_init 31 = .ok (.aload_n 0, 1) := by decide +kernel
theorem dX2_init_32 : decode cX2_init 32 = .ok (.sipush 900, 3) := by decide +kernel
theorem dX2_init_35 : decode cX2_init 35 = .ok (.newarray .int, 2) := by decide +kernel
theorem dX2_init_37 : decode cX2_init 37 = .ok (.putfield 22, 3) := by decide +kernel
theorem dX2_init_40 : decode cX2_init 40 = .ok (.aload_n 0, 1) := by decide +kernel
theorem dX2_init_41 : decode cX2_init 41 = .ok (.iconst 0, 1) := by decide +kernel
theorem dX2_init_42 : decode cX2_init 42 = .ok (.putfield 25, 3) := by decide +kernel
theorem dX2_init_45 : decode cX2_init 45 = .ok (.aload_n 0, 1) := by decide +kernel
theorem dX2_init_46 : decode cX2_init 46 = .ok (.iconst (-1), 1) := by decide +kernel
theorem dX2_init_47 : decode cX2_init 47 = .ok (.putfield 29, 3) := by decide +kernel
theorem dX2_init_50 : decode cX2_init 50 = .ok (.return_, 1) := by decide +kernel
theorem dX2_isBlank_0 : decode cX2_isBlank 0 = .ok (.iload_n 0, 1) := by decide +kernel
theorem dX2_isBlank_1 : decode cX2_isBlank 1 = .ok (.bipush 32, 2) := by decide +kernel
theorem dX2_isBlank_3 : decode cX2_isBlank 3 = .ok (.if_icmp .eq 9, 3) := by decide +kernel
theorem dX2_isBlank_6 : decode cX2_isBlank 6 = .ok (.iload_n 0, 1) := by decide +kernel
theorem dX2_isBlank_7 : decode cX2_isBlank 7 = .ok (.bipush 10, 2) := by decide +kernel
theorem dX2_isBlank_9 : decode cX2_isBlank 9 = .ok (.if_icmp .ne 7, 3) := by decide +kernel
theorem dX2_isBlank_12 : decode cX2_isBlank 12 = .ok (.iconst 1, 1) := by decide +kernel
theorem dX2_isBlank_13 : decode cX2_isBlank 13 = .ok (.goto 4, 3) := by decide +kernel
theorem dX2_isBlank_16 : decode cX2_isBlank 16 = .ok (.iconst 0, 1) := by decide +kernel
theorem dX2_isBlank_17 : decode cX2_isBlank 17 = .ok (.ireturn, 1) := by decide +kernel
theorem dX2_isDigit_0 : decode cX2_isDigit 0 = .ok (.iload_n 0, 1) := by decide +kernel
theorem dX2_isDigit_1 : decode cX2_isDigit 1 = .ok (.bipush 48, 2) := by decide +kernel
theorem dX2_isDigit_3 : decode cX2_isDigit 3 = .ok (.if_icmp .lt 13, 3) := by decide +kernel
theorem dX2_isDigit_6 : decode cX2_isDigit 6 = .ok (.iload_n 0, 1) := by decide +kernel
theorem dX2_isDigit_7 : decode cX2_isDigit 7 = .ok (.bipush 57, 2) := by decide +kernel
theorem dX2_isDigit_9 : decode cX2_isDigit 9 = .ok (.if_icmp .gt 7, 3) := by decide +kernel
theorem dX2_isDigit_12 : decode cX2_isDigit 12 = .ok (.iconst 1, 1) := by decide +kernel
theorem dX2_isDigit_13 : decode cX2_isDigit 13 = .ok (.goto 4, 3) := by decide +kernel
theorem dX2_isDigit_16 : decode cX2_isDigit 16 = .ok (.iconst 0, 1) := by decide +kernel
theorem dX2_isDigit_17 : decode cX2_isDigit 17 = .ok (.ireturn, 1) := by decide +kernel
theorem dX2_isLetter_0 : decode cX2_isLetter 0 = .ok (.iload_n 0, 1) := by decide +kernel
theorem dX2_isLetter_1 : decode cX2_isLetter 1 = .ok (.bipush 97, 2) := by decide +kernel
theorem dX2_isLetter_3 : decode cX2_isLetter 3 = .ok (.if_icmp .lt 13, 3) := by decide +kernel
theorem dX2_isLetter_6 : decode cX2_isLetter 6 = .ok (.iload_n 0, 1) := by decide +kernel
theorem dX2_isLetter_7 : decode cX2_isLetter 7 = .ok (.bipush 122, 2) := by decide +kernel
theorem dX2_isLetter_9 : decode cX2_isLetter 9 = .ok (.if_icmp .gt 7, 3) := by decide +kernel
theorem dX2_isLetter_12 : decode cX2_isLetter 12 = .ok (.iconst 1, 1) := by decide +kernel
theorem dX2_isLetter_13 : decode cX2_isLetter 13 = .ok (.goto 4, 3) := by decide +kernel
theorem dX2_isLetter_16 : decode cX2_isLetter 16 = .ok (.iconst 0, 1) := by decide +kernel
theorem dX2_isLetter_17 : decode cX2_isLetter 17 = .ok (.ireturn, 1) := by decide +kernel
theorem dX2_isWord_0 : decode cX2_isWord 0 = .ok (.iconst 0, 1) := by decide +kernel
theorem dX2_isWord_1 : decode cX2_isWord 1 = .ok (.istore_n 3, 1) := by decide +kernel
theorem dX2_isWord_2 : decode cX2_isWord 2 = .ok (.iload_n 3, 1) := by decide +kernel
theorem dX2_isWord_3 : decode cX2_isWord 3 = .ok (.bipush 8, 2) := by decide +kernel
theorem dX2_isWord_5 : decode cX2_isWord 5 = .ok (.if_icmp .ge 70, 3) := by decide +kernel
theorem dX2_isWord_8 : decode cX2_isWord 8 = .ok (.iload_n 2, 1) := by decide +kernel
theorem dX2_isWord_9 : decode cX2_isWord 9 = .ok (.iload_n 3, 1) := by decide +kernel
theorem dX2_isWord_10 : decode cX2_isWord 10 = .ok (.iadd, 1) := by decide +kernel
theorem dX2_isWord_11 : decode cX2_isWord 11 = .ok (.aload_n 0, 1) := by decide +kernel
theorem dX2_isWord_12 : decode cX2_isWord 12 = .ok (.getfield 66, 3) := by decide +kernel
theorem dX2_isWord_15 : decode cX2_isWord 15 = .ok (.if_icmp .ge 13, 3) := by decide +kernel
theorem dX2_isWord_18 : decode cX2_isWord 18 = .ok (.aload_n 0, 1) := by decide +kernel
theorem dX2_isWord_19 : decode cX2_isWord 19 = .ok (.iload_n 2, 1) := by decide +kernel
theorem dX2_isWord_20 : decode cX2_isWord 20 = .ok (.iload_n 3, 1) := by decide +kernel
theorem dX2_isWord_21 : decode cX2_isWord 21 = .ok (.iadd, 1) := by decide +kernel
theorem dX2_isWord_22 : decode cX2_isWord 22 = .ok (.invokevirtual 72, 3) := by decide +kernel
theorem dX2_isWord_25 : decode cX2_isWord 25 = .ok (.goto 5, 3) := by decide +kernel
theorem dX2_isWord_28 : decode cX2_isWord 28 = .ok (.bipush 32, 2) := by decide +kernel
theorem dX2_isWord_30 : decode cX2_isWord 30 = .ok (.istore 4, 2) := by decide +kernel
theorem dX2_isWord_32 : decode cX2_isWord 32 = .ok (.iload_n 1, 1) := by decide +kernel
theorem dX2_isWord_33 : decode cX2_isWord 33 = .ok (.bipush 8, 2) := by decide +kernel
theorem dX2_isWord_35 : decode cX2_isWord 35 = .ok (.imul, 1) := by decide +kernel
theorem dX2_isWord_36 : decode cX2_isWord 36 = .ok (.iload_n 3, 1) := by decide +kernel
theorem dX2_isWord_37 : decode cX2_isWord 37 = .ok (.iadd, 1) := by decide +kernel
theorem dX2_isWord_38 : decode cX2_isWord 38 = .ok (.istore 5, 2) := by decide +kernel
theorem dX2_isWord_40 : decode cX2_isWord 40 = .ok (.iload 5, 2) := by decide +kernel
theorem dX2_isWord_42 : decode cX2_isWord 42 = .ok (.ifCond .lt 25, 3) := by decide +kernel
theorem dX2_isWord_45 : decode cX2_isWord 45 = .ok (.iload 5, 2) := by decide +kernel
theorem dX2_isWord_47 : decode cX2_isWord 47 = .ok (.ldc 107, 2) := by decide +kernel
theorem dX2_isWord_49 : decode cX2_isWord 49 = .ok (.invokevirtual 109, 3) := by decide +kernel
theorem dX2_isWord_52 : decode cX2_isWord 52 = .ok (.if_icmp .ge 15, 3) := by decide +kernel
theorem dX2_isWord_55 : decode cX2_isWord 55 = .ok (.ldc 107, 2) := by decide +kernel
theorem dX2_isWord_57 : decode cX2_isWord 57 = .ok (.iload 5, 2) := by decide +kernel
theorem dX2_isWord_59 : decode cX2_isWord 59 = .ok (.invokevirtual 112, 3) := by decide +kernel
theorem dX2_isWord_62 : decode cX2_isWord 62 = .ok (.iload 4, 2) := by decide +kernel
theorem dX2_isWord_64 : decode cX2_isWord 64 = .ok (.if_icmp .eq 5, 3) := by decide +kernel
theorem dX2_isWord_67 : decode cX2_isWord 67 = .ok (.iconst 0, 1) := by decide +kernel
theorem dX2_isWord_68 : decode cX2_isWord 68 = .ok (.ireturn, 1) := by decide +kernel
theorem dX2_isWord_69 : decode cX2_isWord 69 = .ok (.iinc 3 1, 3) := by decide +kernel
theorem dX2_isWord_72 : decode cX2_isWord 72 = .ok (.goto (-70), 3) := by decide +kernel
theorem dX2_isWord_75 : decode cX2_isWord 75 = .ok (.iconst 1, 1) := by decide +kernel
theorem dX2_isWord_76 : decode cX2_isWord 76 = .ok (.ireturn, 1) := by decide +kernel
theorem dX2_levelOf_0 : decode cX2_levelOf 0 = .ok (.iload_n 0, 1) := by decide +kernel
theorem dX2_levelOf_1 : decode cX2_levelOf 1 = .ok (.lookupswitch 93 #[(10, 83), (11, 85), (42, 91), (43, 89), (45, 89), (47, 91), (60, 87), (61, 87), (62, 87)], 83) := by decide +kernel
theorem dX2_levelOf_84 : decode cX2_levelOf 84 = .ok (.iconst 0, 1) := by decide +kernel
theorem dX2_levelOf_85 : decode cX2_levelOf 85 = .ok (.ireturn, 1) := by decide +kernel
theorem dX2_levelOf_86 : decode cX2_levelOf 86 = .ok (.iconst 1, 1) := by decide +kernel
theorem dX2_levelOf_87 : decode cX2_levelOf 87 = .ok (.ireturn, 1) := by decide +kernel
theorem dX2_levelOf_88 : decode cX2_levelOf 88 = .ok (.iconst 2, 1) := by decide +kernel
theorem dX2_levelOf_89 : decode cX2_levelOf 89 = .ok (.ireturn, 1) := by decide +kernel
theorem dX2_levelOf_90 : decode cX2_levelOf 90 = .ok (.iconst 3, 1) := by decide +kernel
theorem dX2_levelOf_91 : decode cX2_levelOf 91 = .ok (.ireturn, 1) := by decide +kernel
theorem dX2_levelOf_92 : decode cX2_levelOf 92 = .ok (.iconst 4, 1) := by decide +kernel
theorem dX2_levelOf_93 : decode cX2_levelOf 93 = .ok (.ireturn, 1) := by decide +kernel
theorem dX2_levelOf_94 : decode cX2_levelOf 94 = .ok (.iconst (-1), 1) := by decide +kernel
theorem dX2_levelOf_95 : decode cX2_levelOf 95 = .ok (.ireturn, 1) := by decide +kernel
theorem dX2_nextToken_0 : decode cX2_nextToken 0 = .ok (.aload_n 0, 1) := by decide +kernel
theorem dX2_nextToken_1 : decode cX2_nextToken 1 = .ok (.getfield 44, 3) := by decide +kernel
theorem dX2_nextToken_4 : decode cX2_nextToken 4 = .ok (.iconst 1, 1) := by decide +kernel
theorem dX2_nextToken_5 : decode cX2_nextToken 5 = .ok (.iadd, 1) := by decide +kernel
theorem dX2_nextToken_6 : decode cX2_nextToken 6 = .ok (.istore_n 1, 1) := by decide +kernel
theorem dX2_nextToken_7 : decode cX2_nextToken 7 = .ok (.aload_n 0, 1) := by decide +kernel
theorem dX2_nextToken_8 : decode cX2_nextToken 8 = .ok (.getfield 25, 3) := by decide +kernel
theorem dX2_nextToken_11 : decode cX2_nextToken 11 = .ok (.ifCond .ne 39, 3) := by decide +kernel
theorem dX2_nextToken_14 : decode cX2_nextToken 14 = .ok (.iload_n 1, 1) := by decide +kernel
theorem dX2_nextToken_15 : decode cX2_nextToken 15 = .ok (.ifCond .lt 35, 3) := by decide +kernel
theorem dX2_nextToken_18 : decode cX2_nextToken 18 = .ok (.iload_n 1, 1) := by decide +kernel
theorem dX2_nextToken_19 : decode cX2_nextToken 19 = .ok (.aload_n 0, 1) := by decide +kernel
theorem dX2_nextToken_20 : decode cX2_nextToken 20 = .ok (.getfield 69, 3) := by decide +kernel
theorem dX2_nextToken_23 : decode cX2_nextToken 23 = .ok (.if_icmp .ge 27, 3) := by decide +kernel
theorem dX2_nextToken_26 : decode cX2_nextToken 26 = .ok (.iload_n 1, 1) := by decide +kernel
theorem dX2_nextToken_27 : decode cX2_nextToken 27 = .ok (.aload_n 0, 1) := by decide +kernel
theorem dX2_nextToken_28 : decode cX2_nextToken 28 = .ok (.getfield 15, 3) := by decide +kernel
theorem dX2_nextToken_31 : decode cX2_nextToken 31 = .ok (.arraylength, 1) := by decide +kernel
theorem dX2_nextToken_32 : decode cX2_nextToken 32 = .ok (.if_icmp .ge 18, 3) := by decide +kernel
theorem dX2_nextToken_35 : decode cX2_nextToken 35 = .ok (.aload_n 0, 1) := by decide +kernel
theorem dX2_nextToken_36 : decode cX2_nextToken 36 = .ok (.iload_n 1, 1) := by decide +kernel
theorem dX2_nextToken_37 : decode cX2_nextToken 37 = .ok (.putfield 44, 3) := by decide +kernel
theorem dX2_nextToken_40 : decode cX2_nextToken 40 = .ok (.aload_n 0, 1) := by decide +kernel
theorem dX2_nextToken_41 : decode cX2_nextToken 41 = .ok (.aload_n 0, 1) := by decide +kernel
theorem dX2_nextToken_42 : decode cX2_nextToken 42 = .ok (.getfield 15, 3) := by decide +kernel
theorem dX2_nextToken_45 : decode cX2_nextToken 45 = .ok (.iload_n 1, 1) := by decide +kernel
theorem dX2_nextToken_46 : decode cX2_nextToken 46 = .ok (.iaload, 1) := by decide +kernel
theorem dX2_nextToken_47 : decode cX2_nextToken 47 = .ok (.putfield 53, 3) := by decide +kernel
theorem dX2_nextToken_50 : decode cX2_nextToken 50 = .ok (.return_, 1) := by decide +kernel
theorem dX2_putBytes_0 : decode cX2_putBytes 0 = .ok (.bipush 24, 2) := by decide +kernel
theorem dX2_putBytes_2 : decode cX2_putBytes 2 = .ok (.istore_n 2, 1) := by decide +kernel
theorem dX2_putBytes_3 : decode cX2_putBytes 3 = .ok (.iload_n 2, 1) := by decide +kernel
theorem dX2_putBytes_4 : decode cX2_putBytes 4 = .ok (.ifCond .lt 51, 3) := by decide +kernel
theorem dX2_putBytes_7 : decode cX2_putBytes 7 = .ok (.aload_n 0, 1) := by decide +kernel
theorem dX2_putBytes_8 : decode cX2_putBytes 8 = .ok (.getfield 32, 3) := by decide +kernel
theorem dX2_putBytes_11 : decode cX2_putBytes 11 = .ok (.ifCond .lt 38, 3) := by decide +kernel
theorem dX2_putBytes_14 : decode cX2_putBytes 14 = .ok (.aload_n 0, 1) := by decide +kernel
theorem dX2_putBytes_15 : decode cX2_putBytes 15 = .ok (.getfield 32, 3) := by decide +kernel
theorem dX2_putBytes_18 : decode cX2_putBytes 18 = .ok (.aload_n 0, 1) := by decide +kernel
theorem dX2_putBytes_19 : decode cX2_putBytes 19 = .ok (.getfield 9, 3) := by decide +kernel
theorem dX2_putBytes_22 : decode cX2_putBytes 22 = .ok (.arraylength, 1) := by decide +kernel
theorem dX2_putBytes_23 : decode cX2_putBytes 23 = .ok (.if_icmp .ge 26, 3) := by decide +kernel
theorem dX2_putBytes_26 : decode cX2_putBytes 26 = .ok (.aload_n 0, 1) := by decide +kernel
theorem dX2_putBytes_27 : decode cX2_putBytes 27 = .ok (.getfield 9, 3) := by decide +kernel
theorem dX2_putBytes_30 : decode cX2_putBytes 30 = .ok (.aload_n 0, 1) := by decide +kernel
theorem dX2_putBytes_31 : decode cX2_putBytes 31 = .ok (.getfield 32, 3) := by decide +kernel
theorem dX2_putBytes_34 : decode cX2_putBytes 34 = .ok (.iload_n 1, 1) := by decide +kernel
theorem dX2_putBytes_35 : decode cX2_putBytes 35 = .ok (.iload_n 2, 1) := by decide +kernel
theorem dX2_putBytes_36 : decode cX2_putBytes 36 = .ok (.ishr, 1) := by decide +kernel
theorem dX2_putBytes_37 : decode cX2_putBytes 37 = .ok (.i2b, 1) := by decide +kernel
theorem dX2_putBytes_38 : decode cX2_putBytes 38 = .ok (.bastore, 1) := by decide +kernel
theorem dX2_putBytes_39 : decode cX2_putBytes 39 = .ok (.aload_n 0, 1) := by decide +kernel
theorem dX2_putBytes_40 : decode cX2_putBytes 40 = .ok (.dup, 1) := by decide +kernel
theorem dX2_putBytes_41 : decode cX2_putBytes 41 = .ok (.getfield 32, 3) := by decide +kernel
theorem dX2_putBytes_44 : decode cX2_putBytes 44 = .ok (.iconst 1, 1) := by decide +kernel
theorem dX2_putBytes_45 : decode cX2_putBytes 45 = .ok (.iadd, 1) := by decide +kernel
theorem dX2_putBytes_46 : decode cX2_putBytes 46 = .ok (.putfield 32, 3) := by decide +kernel
theorem dX2_putBytes_49 : decode cX2_putBytes 49 = .ok (.iinc 2 (-8), 3) := by decide +kernel
theorem dX2_putBytes_52 : decode cX2_putBytes 52 = .ok (.goto (-49), 3) := by decide +kernel
theorem dX2_putBytes_55 : decode cX2_putBytes 55 = .ok (.return_, 1) := by decide +kernel
theorem dX2_putStep_0 : decode cX2_putStep 0 = .ok (.aload_n 0, 1) := by decide +kernel
theorem dX2_putStep_1 : decode cX2_putStep 1 = .ok (.getfield 170, 3) := by decide +kernel
theorem dX2_putStep_4 : decode cX2_putStep 4 = .ok (.ifCond .lt 35, 3) := by decide +kernel
theorem dX2_putStep_7 : decode cX2_putStep 7 = .ok (.aload_n 0, 1) := by decide +kernel
theorem dX2_putStep_8 : decode cX2_putStep 8 = .ok (.getfield 170, 3) := by decide +kernel
theorem dX2_putStep_11 : decode cX2_putStep 11 = .ok (.aload_n 0, 1) := by decide +kernel
theorem dX2_putStep_12 : decode cX2_putStep 12 = .ok (.getfield 22, 3) := by decide +kernel
theorem dX2_putStep_15 : decode cX2_putStep 15 = .ok (.arraylength, 1) := by decide +kernel
theorem dX2_putStep_16 : decode cX2_putStep 16 = .ok (.if_icmp .ge 23, 3) := by decide +kernel
theorem dX2_putStep_19 : decode cX2_putStep 19 = .ok (.aload_n 0, 1) := by decide +kernel
theorem dX2_putStep_20 : decode cX2_putStep 20 = .ok (.getfield 22, 3) := by decide +kernel
theorem dX2_putStep_23 : decode cX2_putStep 23 = .ok (.aload_n 0, 1) := by decide +kernel
theorem dX2_putStep_24 : decode cX2_putStep 24 = .ok (.getfield 170, 3) := by decide +kernel
theorem dX2_putStep_27 : decode cX2_putStep 27 = .ok (.iload_n 1, 1) := by decide +kernel
theorem dX2_putStep_28 : decode cX2_putStep 28 = .ok (.iastore, 1) := by decide +kernel
theorem dX2_putStep_29 : decode cX2_putStep 29 = .ok (.aload_n 0, 1) := by decide +kernel
theorem dX2_putStep_30 : decode cX2_putStep 30 = .ok (.dup, 1) := by decide +kernel
theorem dX2_putStep_31 : decode cX2_putStep 31 = .ok (.getfield 170, 3) := by decide +kernel
theorem dX2_putStep_34 : decode cX2_putStep 34 = .ok (.iconst 1, 1) := by decide +kernel
theorem dX2_putStep_35 : decode cX2_putStep 35 = .ok (.iadd, 1) := by decide +kernel
theorem dX2_putStep_36 : decode cX2_putStep 36 = .ok (.putfield 170, 3) := by decide +kernel
theorem dX2_putStep_39 : decode cX2_putStep 39 = .ok (.return_, 1) := by decide +kernel
theorem dX2_refuse_0 : decode cX2_refuse 0 = .ok (.aload_n 0, 1) := by decide +kernel
theorem dX2_refuse_1 : decode cX2_refuse 1 = .ok (.getfield 25, 3) := by decide +kernel
theorem dX2_refuse_4 : decode cX2_refuse 4 = .ok (.ifCond .ne 57, 3) := by decide +kernel
theorem dX2_refuse_7 : decode cX2_refuse 7 = .ok (.aload_n 0, 1) := by decide +kernel
theorem dX2_refuse_8 : decode cX2_refuse 8 = .ok (.aload_n 0, 1) := by decide +kernel
theorem dX2_refuse_9 : decode cX2_refuse 9 = .ok (.getfield 53, 3) := by decide +kernel
theorem dX2_refuse_12 : decode cX2_refuse 12 = .ok (.bipush 26, 2) := by decide +kernel
theorem dX2_refuse_14 : decode cX2_refuse 14 = .ok (.if_icmp .ne 7, 3) := by decide +kernel
theorem dX2_refuse_17 : decode cX2_refuse 17 = .ok (.iconst 1, 1) := by decide +kernel
theorem dX2_refuse_18 : decode cX2_refuse 18 = .ok (.goto 4, 3) := by decide +kernel
theorem dX2_refuse_21 : decode cX2_refuse 21 = .ok (.iload_n 1, 1) := by decide +kernel
theorem dX2_refuse_22 : decode cX2_refuse 22 = .ok (.putfield 25, 3) := by decide +kernel
theorem dX2_refuse_25 : decode cX2_refuse 25 = .ok (.aload_n 0, 1) := by decide +kernel
theorem dX2_refuse_26 : decode cX2_refuse 26 = .ok (.aload_n 0, 1) := by decide +kernel
theorem dX2_refuse_27 : decode cX2_refuse 27 = .ok (.getfield 44, 3) := by decide +kernel
theorem dX2_refuse_30 : decode cX2_refuse 30 = .ok (.ifCond .lt 27, 3) := by decide +kernel
theorem dX2_refuse_33 : decode cX2_refuse 33 = .ok (.aload_n 0, 1) := by decide +kernel
theorem dX2_refuse_34 : decode cX2_refuse 34 = .ok (.getfield 44, 3) := by decide +kernel
theorem dX2_refuse_37 : decode cX2_refuse 37 = .ok (.aload_n 0, 1) := by decide +kernel
theorem dX2_refuse_38 : decode cX2_refuse 38 = .ok (.getfield 19, 3) := by decide +kernel
theorem dX2_refuse_41 : decode cX2_refuse 41 = .ok (.arraylength, 1) := by decide +kernel
theorem dX2_refuse_42 : decode cX2_refuse 42 = .ok (.if_icmp .ge 15, 3) := by decide +kernel
theorem dX2_refuse_45 : decode cX2_refuse 45 = .ok (.aload_n 0, 1) := by decide +kernel
theorem dX2_refuse_46 : decode cX2_refuse 46 = .ok (.getfield 19, 3) := by decide +kernel
theorem dX2_refuse_49 : decode cX2_refuse 49 = .ok (.aload_n 0, 1) := by decide +kernel
theorem dX2_refuse_50 : decode cX2_refuse 50 = .ok (.getfield 44, 3) := by decide +kernel
theorem dX2_refuse_53 : decode cX2_refuse 53 = .ok (.iaload, 1) := by decide +kernel
theorem dX2_refuse_54 : decode cX2_refuse 54 = .ok (.goto 4, 3) := by decide +kernel
theorem dX2_refuse_57 : decode cX2_refuse 57 = .ok (.iconst (-1), 1) := by decide +kernel
theorem dX2_refuse_58 : decode cX2_refuse 58 = .ok (.putfield 29, 3) := by decide +kernel
theorem dX2_refuse_61 : decode cX2_refuse 61 = .ok (.aload_n 0, 1) := by decide +kernel
theorem dX2_refuse_62 : decode cX2_refuse 62 = .ok (.bipush 26, 2) := by decide +kernel
theorem dX2_refuse_64 : decode cX2_refuse 64 = .ok (.putfield 53, 3) := by decide +kernel
theorem dX2_refuse_67 : decode cX2_refuse 67 = .ok (.return_, 1) := by decide +kernel
theorem dX2_readLeaf_0 : decode cX2_readLeaf 0 = .ok (.aload_n 0, 1) := by decide +kernel
theorem dX2_readLeaf_1 : decode cX2_readLeaf 1 = .ok (.getfield 53, 3) := by decide +kernel
theorem dX2_readLeaf_4 : decode cX2_readLeaf 4 = .ok (.bipush 13, 2) := by decide +kernel
theorem dX2_readLeaf_6 : decode cX2_readLeaf 6 = .ok (.if_icmp .lt 11, 3) := by decide +kernel
theorem dX2_readLeaf_9 : decode cX2_readLeaf 9 = .ok (.aload_n 0, 1) := by decide +kernel
theorem dX2_readLeaf_10 : decode cX2_readLeaf 10 = .ok (.getfield 53, 3) := by decide +kernel
theorem dX2_readLeaf_13 : decode cX2_readLeaf 13 = .ok (.iload_n 2, 1) := by decide +kernel
theorem dX2_readLeaf_14 : decode cX2_readLeaf 14 = .ok (.if_icmp .le 9, 3) := by decide +kernel
theorem dX2_readLeaf_17 : decode cX2_readLeaf 17 = .ok (.aload_n 0, 1) := by decide +kernel
theorem dX2_readLeaf_18 : decode cX2_readLeaf 18 = .ok (.iconst 2, 1) := by decide +kernel
theorem dX2_readLeaf_19 : decode cX2_readLeaf 19 = .ok (.invokevirtual 119, 3) := by decide +kernel
theorem dX2_readLeaf_22 : decode cX2_readLeaf 22 = .ok (.return_, 1) := by decide +kernel
theorem dX2_readLeaf_23 : decode cX2_readLeaf 23 = .ok (.aload_n 0, 1) := by decide +kernel
theorem dX2_readLeaf_24 : decode cX2_readLeaf 24 = .ok (.iload_n 1, 1) := by decide +kernel
theorem dX2_readLeaf_25 : decode cX2_readLeaf 25 = .ok (.aload_n 0, 1) := by decide +kernel
theorem dX2_readLeaf_26 : decode cX2_readLeaf 26 = .ok (.getfield 53, 3) := by decide +kernel
theorem dX2_readLeaf_29 : decode cX2_readLeaf 29 = .ok (.iadd, 1) := by decide +kernel
theorem dX2_readLeaf_30 : decode cX2_readLeaf 30 = .ok (.bipush 13, 2) := by decide +kernel
theorem dX2_readLeaf_32 : decode cX2_readLeaf 32 = .ok (.isub, 1) := by decide +kernel
theorem dX2_readLeaf_33 : decode cX2_readLeaf 33 = .ok (.invokevirtual 202, 3) := by decide +kernel
theorem dX2_readLeaf_36 : decode cX2_readLeaf 36 = .ok (.aload_n 0, 1) := by decide +kernel
theorem dX2_readLeaf_37 : decode cX2_readLeaf 37 = .ok (.invokevirtual 50, 3) := by decide +kernel
theorem dX2_readLeaf_40 : decode cX2_readLeaf 40 = .ok (.return_, 1) := by decide +kernel
theorem dX2_scanNumber_0 : decode cX2_scanNumber 0 = .ok (.aload_n 0, 1) := by decide +kernel
theorem dX2_scanNumber_1 : decode cX2_scanNumber 1 = .ok (.getfield 66, 3) := by decide +kernel
theorem dX2_scanNumber_4 : decode cX2_scanNumber 4 = .ok (.istore_n 1, 1) := by decide +kernel
theorem dX2_scanNumber_5 : decode cX2_scanNumber 5 = .ok (.iconst 0, 1) := by decide +kernel
theorem dX2_scanNumber_6 : decode cX2_scanNumber 6 = .ok (.istore_n 2, 1) := by decide +kernel
theorem dX2_scanNumber_7 : decode cX2_scanNumber 7 = .ok (.aload_n 0, 1) := by decide +kernel
theorem dX2_scanNumber_8 : decode cX2_scanNumber 8 = .ok (.getfield 66, 3) := by decide +kernel
theorem dX2_scanNumber_11 : decode cX2_scanNumber 11 = .ok (.aload_n 0, 1) := by decide +kernel
theorem dX2_scanNumber_12 : decode cX2_scanNumber 12 = .ok (.getfield 32, 3) := by decide +kernel
theorem dX2_scanNumber_15 : decode cX2_scanNumber 15 = .ok (.if_icmp .ge 47, 3) := by decide +kernel
theorem dX2_scanNumber_18 : decode cX2_scanNumber 18 = .ok (.aload_n 0, 1) := by decide +kernel
theorem dX2_scanNumber_19 : decode cX2_scanNumber 19 = .ok (.aload_n 0, 1) := by decide +kernel
theorem dX2_scanNumber_20 : decode cX2_scanNumber 20 = .ok (.getfield 66, 3) := by decide +kernel
theorem dX2_scanNumber_23 : decode cX2_scanNumber 23 = .ok (.invokevirtual 72, 3) := by decide +kernel
theorem dX2_scanNumber_26 : decode cX2_scanNumber 26 = .ok (.invokestatic 90, 3) := by decide +kernel
theorem dX2_scanNumber_29 : decode cX2_scanNumber 29 = .ok (.ifCond .eq 33, 3) := by decide +kernel
theorem dX2_scanNumber_32 : decode cX2_scanNumber 32 = .ok (.iload_n 2, 1) := by decide +kernel
theorem dX2_scanNumber_33 : decode cX2_scanNumber 33 = .ok (.bipush 10, 2) := by decide +kernel
theorem dX2_scanNumber_35 : decode cX2_scanNumber 35 = .ok (.imul, 1) := by decide +kernel
theorem dX2_scanNumber_36 : decode cX2_scanNumber 36 = .ok (.aload_n 0, 1) := by decide +kernel
theorem dX2_scanNumber_37 : decode cX2_scanNumber 37 = .ok (.aload_n 0, 1) := by decide +kernel
theorem dX2_scanNumber_38 : decode cX2_scanNumber 38 = .ok (.getfield 66, 3) := by decide +kernel
theorem dX2_scanNumber_41 : decode cX2_scanNumber 41 = .ok (.invokevirtual 72, 3) := by decide +kernel
theorem dX2_scanNumber_44 : decode cX2_scanNumber 44 = .ok (.iadd, 1) := by decide +kernel
theorem dX2_scanNumber_45 : decode cX2_scanNumber 45 = .ok (.bipush 48, 2) := by decide +kernel
theorem dX2_scanNumber_47 : decode cX2_scanNumber 47 = .ok (.isub, 1) := by decide +kernel
theorem dX2_scanNumber_48 : decode cX2_scanNumber 48 = .ok (.istore_n 2, 1) := by decide +kernel
theorem dX2_scanNumber_49 : decode cX2_scanNumber 49 = .ok (.aload_n 0, 1) := by decide +kernel
theorem dX2_scanNumber_50 : decode cX2_scanNumber 50 = .ok (.dup, 1) := by decide +kernel
theorem dX2_scanNumber_51 : decode cX2_scanNumber 51 = .ok (.getfield 66, 3) := by decide +kernel
theorem dX2_scanNumber_54 : decode cX2_scanNumber 54 = .ok (.iconst 1, 1) := by decide +kernel
theorem dX2_scanNumber_55 : decode cX2_scanNumber 55 = .ok (.iadd, 1) := by decide +kernel
theorem dX2_scanNumber_56 : decode cX2_scanNumber 56 = .ok (.putfield 66, 3) := by decide +kernel
theorem dX2_scanNumber_59 : decode cX2_scanNumber 59 = .ok (.goto (-52), 3) := by decide +kernel
theorem dX2_scanNumber_62 : decode cX2_scanNumber 62 = .ok (.aload_n 0, 1) := by decide +kernel
theorem dX2_scanNumber_63 : decode cX2_scanNumber 63 = .ok (.getfield 66, 3) := by decide +kernel
theorem dX2_scanNumber_66 : decode cX2_scanNumber 66 = .ok (.iload_n 1, 1) := by decide +kernel
theorem dX2_scanNumber_67 : decode cX2_scanNumber 67 = .ok (.isub, 1) := by decide +kernel
theorem dX2_scanNumber_68 : decode cX2_scanNumber 68 = .ok (.iconst 4, 1) := by decide +kernel
theorem dX2_scanNumber_69 : decode cX2_scanNumber 69 = .ok (.if_icmp .gt 21, 3) := by decide +kernel
theorem dX2_scanNumber_72 : decode cX2_scanNumber 72 = .ok (.aload_n 0, 1) := by decide +kernel
theorem dX2_scanNumber_73 : decode cX2_scanNumber 73 = .ok (.aload_n 0, 1) := by decide +kernel
theorem dX2_scanNumber_74 : decode cX2_scanNumber 74 = .ok (.getfield 66, 3) := by decide +kernel
theorem dX2_scanNumber_77 : decode cX2_scanNumber 77 = .ok (.invokevirtual 72, 3) := by decide +kernel
theorem dX2_scanNumber_80 : decode cX2_scanNumber 80 = .ok (.invokestatic 84, 3) := by decide +kernel
theorem dX2_scanNumber_83 : decode cX2_scanNumber 83 = .ok (.ifCond .ne 7, 3) := by decide +kernel
theorem dX2_scanNumber_86 : decode cX2_scanNumber 86 = .ok (.iconst 1, 1) := by decide +kernel
theorem dX2_scanNumber_87 : decode cX2_scanNumber 87 = .ok (.goto 4, 3) := by decide +kernel
theorem dX2_scanNumber_90 : decode cX2_scanNumber 90 = .ok (.iconst 0, 1) := by decide +kernel
theorem dX2_scanNumber_91 : decode cX2_scanNumber 91 = .ok (.istore_n 3, 1) := by decide +kernel
theorem dX2_scanNumber_92 : decode cX2_scanNumber 92 = .ok (.iload_n 3, 1) := by decide +kernel
theorem dX2_scanNumber_93 : decode cX2_scanNumber 93 = .ok (.ifCond .eq 11, 3) := by decide +kernel
theorem dX2_scanNumber_96 : decode cX2_scanNumber 96 = .ok (.sipush 1000, 3) := by decide +kernel
theorem dX2_scanNumber_99 : decode cX2_scanNumber 99 = .ok (.iload_n 2, 1) := by decide +kernel
theorem dX2_scanNumber_100 : decode cX2_scanNumber 100 = .ok (.iadd, 1) := by decide +kernel
theorem dX2_scanNumber_101 : decode cX2_scanNumber 101 = .ok (.goto 5, 3) := by decide +kernel
theorem dX2_scanNumber_104 : decode cX2_scanNumber 104 = .ok (.bipush 26, 2) := by decide +kernel
theorem dX2_scanNumber_106 : decode cX2_scanNumber 106 = .ok (.ireturn, 1) := by decide +kernel
theorem dX2_scanWord_0 : decode cX2_scanWord 0 = .ok (.aload_n 0, 1) := by decide +kernel
theorem dX2_scanWord_1 : decode cX2_scanWord 1 = .ok (.getfield 66, 3) := by decide +kernel
theorem dX2_scanWord_4 : decode cX2_scanWord 4 = .ok (.istore_n 1, 1) := by decide +kernel
theorem dX2_scanWord_5 : decode cX2_scanWord 5 = .ok (.aload_n 0, 1) := by decide +kernel
theorem dX2_scanWord_6 : decode cX2_scanWord 6 = .ok (.getfield 66, 3) := by decide +kernel
theorem dX2_scanWord_9 : decode cX2_scanWord 9 = .ok (.aload_n 0, 1) := by decide +kernel
theorem dX2_scanWord_10 : decode cX2_scanWord 10 = .ok (.getfield 32, 3) := by decide +kernel
theorem dX2_scanWord_13 : decode cX2_scanWord 13 = .ok (.if_icmp .ge 30, 3) := by decide +kernel
theorem dX2_scanWord_16 : decode cX2_scanWord 16 = .ok (.aload_n 0, 1) := by decide +kernel
theorem dX2_scanWord_17 : decode cX2_scanWord 17 = .ok (.aload_n 0, 1) := by decide +kernel
theorem dX2_scanWord_18 : decode cX2_scanWord 18 = .ok (.getfield 66, 3) := by decide +kernel
theorem dX2_scanWord_21 : decode cX2_scanWord 21 = .ok (.invokevirtual 72, 3) := by decide +kernel
theorem dX2_scanWord_24 : decode cX2_scanWord 24 = .ok (.invokestatic 84, 3) := by decide +kernel
theorem dX2_scanWord_27 : decode cX2_scanWord 27 = .ok (.ifCond .eq 16, 3) := by decide +kernel
theorem dX2_scanWord_30 : decode cX2_scanWord 30 = .ok (.aload_n 0, 1) := by decide +kernel
theorem dX2_scanWord_31 : decode cX2_scanWord 31 = .ok (.dup, 1) := by decide +kernel
theorem dX2_scanWord_32 : decode cX2_scanWord 32 = .ok (.getfield 66, 3) := by decide +kernel
theorem dX2_scanWord_35 : decode cX2_scanWord 35 = .ok (.iconst 1, 1) := by decide +kernel
theorem dX2_scanWord_36 : decode cX2_scanWord 36 = .ok (.iadd, 1) := by decide +kernel
theorem dX2_scanWord_37 : decode cX2_scanWord 37 = .ok (.putfield 66, 3) := by decide +kernel
theorem dX2_scanWord_40 : decode cX2_scanWord 40 = .ok (.goto (-35), 3) := by decide +kernel
theorem dX2_scanWord_43 : decode cX2_scanWord 43 = .ok (.aload_n 0, 1) := by decide +kernel
theorem dX2_scanWord_44 : decode cX2_scanWord 44 = .ok (.getfield 66, 3) := by decide +kernel
theorem dX2_scanWord_47 : decode cX2_scanWord 47 = .ok (.iload_n 1, 1) := by decide +kernel
theorem dX2_scanWord_48 : decode cX2_scanWord 48 = .ok (.isub, 1) := by decide +kernel
theorem dX2_scanWord_49 : decode cX2_scanWord 49 = .ok (.bipush 8, 2) := by decide +kernel
theorem dX2_scanWord_51 : decode cX2_scanWord 51 = .ok (.if_icmp .le 6, 3) := by decide +kernel
theorem dX2_scanWord_54 : decode cX2_scanWord 54 = .ok (.bipush 26, 2) := by decide +kernel
theorem dX2_scanWord_56 : decode cX2_scanWord 56 = .ok (.ireturn, 1) := by decide +kernel
theorem dX2_scanWord_57 : decode cX2_scanWord 57 = .ok (.iconst 0, 1) := by decide +kernel
theorem dX2_scanWord_58 : decode cX2_scanWord 58 = .ok (.istore_n 2, 1) := by decide +kernel
theorem dX2_scanWord_59 : decode cX2_scanWord 59 = .ok (.iload_n 2, 1) := by decide +kernel
theorem dX2_scanWord_60 : decode cX2_scanWord 60 = .ok (.bipush 24, 2) := by decide +kernel
theorem dX2_scanWord_62 : decode cX2_scanWord 62 = .ok (.if_icmp .ge 20, 3) := by decide +kernel
theorem dX2_scanWord_65 : decode cX2_scanWord 65 = .ok (.aload_n 0, 1) := by decide +kernel
theorem dX2_scanWord_66 : decode cX2_scanWord 66 = .ok (.iload_n 2, 1) := by decide +kernel
theorem dX2_scanWord_67 : decode cX2_scanWord 67 = .ok (.iload_n 1, 1) := by decide +kernel
theorem dX2_scanWord_68 : decode cX2_scanWord 68 = .ok (.invokevirtual 103, 3) := by decide +kernel
theorem dX2_scanWord_71 : decode cX2_scanWord 71 = .ok (.ifCond .eq 5, 3) := by decide +kernel
theorem dX2_scanWord_74 : decode cX2_scanWord 74 = .ok (.iload_n 2, 1) := by decide +kernel
theorem dX2_scanWord_75 : decode cX2_scanWord 75 = .ok (.ireturn, 1) := by decide +kernel
theorem dX2_scanWord_76 : decode cX2_scanWord 76 = .ok (.iinc 2 1, 3) := by decide +kernel
theorem dX2_scanWord_79 : decode cX2_scanWord 79 = .ok (.goto (-20), 3) := by decide +kernel
theorem dX2_scanWord_82 : decode cX2_scanWord 82 = .ok (.bipush 24, 2) := by decide +kernel
theorem dX2_scanWord_84 : decode cX2_scanWord 84 = .ok (.ireturn, 1) := by decide +kernel
theorem dX2_scanToken_0 : decode cX2_scanToken 0 = .ok (.aload_n 0, 1) := by decide +kernel
theorem dX2_scanToken_1 : decode cX2_scanToken 1 = .ok (.aload_n 0, 1) := by decide +kernel
theorem dX2_scanToken_2 : decode cX2_scanToken 2 = .ok (.getfield 66, 3) := by decide +kernel
theorem dX2_scanToken_5 : decode cX2_scanToken 5 = .ok (.invokevirtual 72, 3) := by decide +kernel
theorem dX2_scanToken_8 : decode cX2_scanToken 8 = .ok (.istore_n 1, 1) := by decide +kernel
theorem dX2_scanToken_9 : decode cX2_scanToken 9 = .ok (.iload_n 1, 1) := by decide +kernel
theorem dX2_scanToken_10 : decode cX2_scanToken 10 = .ok (.iconst (-1), 1) := by decide +kernel
theorem dX2_scanToken_11 : decode cX2_scanToken 11 = .ok (.if_icmp .ne 6, 3) := by decide +kernel
theorem dX2_scanToken_14 : decode cX2_scanToken 14 = .ok (.bipush 25, 2) := by decide +kernel
theorem dX2_scanToken_16 : decode cX2_scanToken 16 = .ok (.ireturn, 1) := by decide +kernel
theorem dX2_scanToken_17 : decode cX2_scanToken 17 = .ok (.iload_n 1, 1) := by decide +kernel
theorem dX2_scanToken_18 : decode cX2_scanToken 18 = .ok (.invokestatic 84, 3) := by decide +kernel
theorem dX2_scanToken_21 : decode cX2_scanToken 21 = .ok (.ifCond .eq 8, 3) := by decide +kernel
theorem dX2_scanToken_24 : decode cX2_scanToken 24 = .ok (.aload_n 0, 1) := by decide +kernel
theorem dX2_scanToken_25 : decode cX2_scanToken 25 = .ok (.invokevirtual 87, 3) := by decide +kernel
theorem dX2_scanToken_28 : decode cX2_scanToken 28 = .ok (.ireturn, 1) := by decide +kernel
theorem dX2_scanToken_29 : decode cX2_scanToken 29 = .ok (.iload_n 1, 1) := by decide +kernel
theorem dX2_scanToken_30 : decode cX2_scanToken 30 = .ok (.invokestatic 90, 3) := by decide +kernel
theorem dX2_scanToken_33 : decode cX2_scanToken 33 = .ok (.ifCond .eq 8, 3) := by decide +kernel
theorem dX2_scanToken_36 : decode cX2_scanToken 36 = .ok (.aload_n 0, 1) := by decide +kernel
theorem dX2_scanToken_37 : decode cX2_scanToken 37 = .ok (.invokevirtual 93, 3) := by decide +kernel
theorem dX2_scanToken_40 : decode cX2_scanToken 40 = .ok (.ireturn, 1) := by decide +kernel
theorem dX2_scanToken_41 : decode cX2_scanToken 41 = .ok (.aload_n 0, 1) := by decide +kernel
theorem dX2_scanToken_42 : decode cX2_scanToken 42 = .ok (.dup, 1) := by decide +kernel
theorem dX2_scanToken_43 : decode cX2_scanToken 43 = .ok (.getfield 66, 3) := by decide +kernel
theorem dX2_scanToken_46 : decode cX2_scanToken 46 = .ok (.iconst 1, 1) := by decide +kernel
theorem dX2_scanToken_47 : decode cX2_scanToken 47 = .ok (.iadd, 1) := by decide +kernel
theorem dX2_scanToken_48 : decode cX2_scanToken 48 = .ok (.putfield 66, 3) := by decide +kernel
theorem dX2_scanToken_51 : decode cX2_scanToken 51 = .ok (.ldc 96, 2) := by decide +kernel
theorem dX2_scanToken_53 : decode cX2_scanToken 53 = .ok (.iload_n 1, 1) := by decide +kernel
theorem dX2_scanToken_54 : decode cX2_scanToken 54 = .ok (.i2c, 1) := by decide +kernel
theorem dX2_scanToken_55 : decode cX2_scanToken 55 = .ok (.invokevirtual 98, 3) := by decide +kernel
theorem dX2_scanToken_58 : decode cX2_scanToken 58 = .ok (.ifCond .lt 7, 3) := by decide +kernel
theorem dX2_scanToken_61 : decode cX2_scanToken 61 = .ok (.iload_n 1, 1) := by decide +kernel
theorem dX2_scanToken_62 : decode cX2_scanToken 62 = .ok (.goto 5, 3) := by decide +kernel
theorem dX2_scanToken_65 : decode cX2_scanToken 65 = .ok (.bipush 26, 2) := by decide +kernel
theorem dX2_scanToken_67 : decode cX2_scanToken 67 = .ok (.ireturn, 1) := by decide +kernel
theorem dX2_splitTape_0 : decode cX2_splitTape 0 = .ok (.aload_n 0, 1) := by decide +kernel
theorem dX2_splitTape_1 : decode cX2_splitTape 1 = .ok (.iconst 0, 1) := by decide +kernel
theorem dX2_splitTape_2 : decode cX2_splitTape 2 = .ok (.putfield 66, 3) := by decide +kernel
theorem dX2_splitTape_5 : decode cX2_splitTape 5 = .ok (.aload_n 0, 1) := by decide +kernel
theorem dX2_splitTape_6 : decode cX2_splitTape 6 = .ok (.iconst 0, 1) := by decide +kernel
theorem dX2_splitTape_7 : decode cX2_splitTape 7 = .ok (.putfield 69, 3) := by decide +kernel
theorem dX2_splitTape_10 : decode cX2_splitTape 10 = .ok (.sipush 1000, 3) := by decide +kernel
theorem dX2_splitTape_13 : decode cX2_splitTape 13 = .ok (.istore_n 1, 1) := by decide +kernel
theorem dX2_splitTape_14 : decode cX2_splitTape 14 = .ok (.iconst 0, 1) := by decide +kernel
theorem dX2_splitTape_15 : decode cX2_splitTape 15 = .ok (.istore_n 2, 1) := by decide +kernel
theorem dX2_splitTape_16 : decode cX2_splitTape 16 = .ok (.iload_n 2, 1) := by decide +kernel
theorem dX2_splitTape_17 : decode cX2_splitTape 17 = .ok (.sipush 900, 3) := by decide +kernel
theorem dX2_splitTape_20 : decode cX2_splitTape 20 = .ok (.if_icmp .gt 130, 3) := by decide +kernel
theorem dX2_splitTape_23 : decode cX2_splitTape 23 = .ok (.iload_n 1, 1) := by decide +kernel
theorem dX2_splitTape_24 : decode cX2_splitTape 24 = .ok (.bipush 26, 2) := by decide +kernel
theorem dX2_splitTape_26 : decode cX2_splitTape 26 = .ok (.if_icmp .eq 124, 3) := by decide +kernel
theorem dX2_splitTape_29 : decode cX2_splitTape 29 = .ok (.iload_n 1, 1) := by decide +kernel
theorem dX2_splitTape_30 : decode cX2_splitTape 30 = .ok (.bipush 25, 2) := by decide +kernel
theorem dX2_splitTape_32 : decode cX2_splitTape 32 = .ok (.if_icmp .eq 118, 3) := by decide +kernel
theorem dX2_splitTape_35 : decode cX2_splitTape 35 = .ok (.aload_n 0, 1) := by decide +kernel
theorem dX2_splitTape_36 : decode cX2_splitTape 36 = .ok (.getfield 66, 3) := by decide +kernel
theorem dX2_splitTape_39 : decode cX2_splitTape 39 = .ok (.aload_n 0, 1) := by decide +kernel
theorem dX2_splitTape_40 : decode cX2_splitTape 40 = .ok (.getfield 32, 3) := by decide +kernel
theorem dX2_splitTape_43 : decode cX2_splitTape 43 = .ok (.if_icmp .ge 30, 3) := by decide +kernel
theorem dX2_splitTape_46 : decode cX2_splitTape 46 = .ok (.aload_n 0, 1) := by decide +kernel
theorem dX2_splitTape_47 : decode cX2_splitTape 47 = .ok (.aload_n 0, 1) := by decide +kernel
theorem dX2_splitTape_48 : decode cX2_splitTape 48 = .ok (.getfield 66, 3) := by decide +kernel
theorem dX2_splitTape_51 : decode cX2_splitTape 51 = .ok (.invokevirtual 72, 3) := by decide +kernel
theorem dX2_splitTape_54 : decode cX2_splitTape 54 = .ok (.invokestatic 76, 3) := by decide +kernel
theorem dX2_splitTape_57 : decode cX2_splitTape 57 = .ok (.ifCond .eq 16, 3) := by decide +kernel
theorem dX2_splitTape_60 : decode cX2_splitTape 60 = .ok (.aload_n 0, 1) := by decide +kernel
theorem dX2_splitTape_61 : decode cX2_splitTape 61 = .ok (.dup, 1) := by decide +kernel
theorem dX2_splitTape_62 : decode cX2_splitTape 62 = .ok (.getfield 66, 3) := by decide +kernel
theorem dX2_splitTape_65 : decode cX2_splitTape 65 = .ok (.iconst 1, 1) := by decide +kernel
theorem dX2_splitTape_66 : decode cX2_splitTape 66 = .ok (.iadd, 1) := by decide +kernel
theorem dX2_splitTape_67 : decode cX2_splitTape 67 = .ok (.putfield 66, 3) := by decide +kernel
theorem dX2_splitTape_70 : decode cX2_splitTape 70 = .ok (.goto (-35), 3) := by decide +kernel
theorem dX2_splitTape_73 : decode cX2_splitTape 73 = .ok (.aload_n 0, 1) := by decide +kernel
theorem dX2_splitTape_74 : decode cX2_splitTape 74 = .ok (.getfield 66, 3) := by decide +kernel
theorem dX2_splitTape_77 : decode cX2_splitTape 77 = .ok (.istore_n 3, 1) := by decide +kernel
theorem dX2_splitTape_78 : decode cX2_splitTape 78 = .ok (.aload_n 0, 1) := by decide +kernel
theorem dX2_splitTape_79 : decode cX2_splitTape 79 = .ok (.invokevirtual 80, 3) := by decide +kernel
theorem dX2_splitTape_82 : decode cX2_splitTape 82 = .ok (.istore_n 1, 1) := by decide +kernel
theorem dX2_splitTape_83 : decode cX2_splitTape 83 = .ok (.aload_n 0, 1) := by decide +kernel
theorem dX2_splitTape_84 : decode cX2_splitTape 84 = .ok (.getfield 69, 3) := by decide +kernel
theorem dX2_splitTape_87 : decode cX2_splitTape 87 = .ok (.ifCond .lt 57, 3) := by decide +kernel
theorem dX2_splitTape_90 : decode cX2_splitTape 90 = .ok (.aload_n 0, 1) := by decide +kernel
theorem dX2_splitTape_91 : decode cX2_splitTape 91 = .ok (.getfield 69, 3) := by decide +kernel
theorem dX2_splitTape_94 : decode cX2_splitTape 94 = .ok (.aload_n 0, 1) := by decide +kernel
theorem dX2_splitTape_95 : decode cX2_splitTape 95 = .ok (.getfield 15, 3) := by decide +kernel
theorem dX2_splitTape_98 : decode cX2_splitTape 98 = .ok (.arraylength, 1) := by decide +kernel
theorem dX2_splitTape_99 : decode cX2_splitTape 99 = .ok (.if_icmp .ge 45, 3) := by decide +kernel
theorem dX2_splitTape_102 : decode cX2_splitTape 102 = .ok (.aload_n 0, 1) := by decide +kernel
theorem dX2_splitTape_103 : decode cX2_splitTape 103 = .ok (.getfield 69, 3) := by decide +kernel
theorem dX2_splitTape_106 : decode cX2_splitTape 106 = .ok (.aload_n 0, 1) := by decide +kernel
theorem dX2_splitTape_107 : decode cX2_splitTape 107 = .ok (.getfield 19, 3) := by decide +kernel
theorem dX2_splitTape_110 : decode cX2_splitTape 110 = .ok (.arraylength, 1) := by decide +kernel
theorem dX2_splitTape_111 : decode cX2_splitTape 111 = .ok (.if_icmp .ge 33, 3) := by decide +kernel
theorem dX2_splitTape_114 : decode cX2_splitTape 114 = .ok (.aload_n 0, 1) := by decide +kernel
theorem dX2_splitTape_115 : decode cX2_splitTape 115 = .ok (.getfield 15, 3) := by decide +kernel
theorem dX2_splitTape_118 : decode cX2_splitTape 118 = .ok (.aload_n 0, 1) := by decide +kernel
theorem dX2_splitTape_119 : decode cX2_splitTape 119 = .ok (.getfield 69, 3) := by decide +kernel
theorem dX2_splitTape_122 : decode cX2_splitTape 122 = .ok (.iload_n 1, 1) := by decide +kernel
theorem dX2_splitTape_123 : decode cX2_splitTape 123 = .ok (.iastore, 1) := by decide +kernel
theorem dX2_splitTape_124 : decode cX2_splitTape 124 = .ok (.aload_n 0, 1) := by decide +kernel
theorem dX2_splitTape_125 : decode cX2_splitTape 125 = .ok (.getfield 19, 3) := by decide +kernel
theorem dX2_splitTape_128 : decode cX2_splitTape 128 = .ok (.aload_n 0, 1) := by decide +kernel
theorem dX2_splitTape_129 : decode cX2_splitTape 129 = .ok (.getfield 69, 3) := by decide +kernel
theorem dX2_splitTape_132 : decode cX2_splitTape 132 = .ok (.iload_n 3, 1) := by decide +kernel
theorem dX2_splitTape_133 : decode cX2_splitTape 133 = .ok (.iastore, 1) := by decide +kernel
theorem dX2_splitTape_134 : decode cX2_splitTape 134 = .ok (.aload_n 0, 1) := by decide +kernel
theorem dX2_splitTape_135 : decode cX2_splitTape 135 = .ok (.dup, 1) := by decide +kernel
theorem dX2_splitTape_136 : decode cX2_splitTape 136 = .ok (.getfield 69, 3) := by decide +kernel
theorem dX2_splitTape_139 : decode cX2_splitTape 139 = .ok (.iconst 1, 1) := by decide +kernel
theorem dX2_splitTape_140 : decode cX2_splitTape 140 = .ok (.iadd, 1) := by decide +kernel
theorem dX2_splitTape_141 : decode cX2_splitTape 141 = .ok (.putfield 69, 3) := by decide +kernel
theorem dX2_splitTape_144 : decode cX2_splitTape 144 = .ok (.iinc 2 1, 3) := by decide +kernel
theorem dX2_splitTape_147 : decode cX2_splitTape 147 = .ok (.goto (-131), 3) := by decide +kernel
theorem dX2_splitTape_150 : decode cX2_splitTape 150 = .ok (.return_, 1) := by decide +kernel
theorem dX2_take_0 : decode cX2_take 0 = .ok (.aload_n 0, 1) := by decide +kernel
theorem dX2_take_1 : decode cX2_take 1 = .ok (.getfield 53, 3) := by decide +kernel
theorem dX2_take_4 : decode cX2_take 4 = .ok (.iload_n 1, 1) := by decide +kernel
theorem dX2_take_5 : decode cX2_take 5 = .ok (.if_icmp .ne 10, 3) := by decide +kernel
theorem dX2_take_8 : decode cX2_take 8 = .ok (.aload_n 0, 1) := by decide +kernel
theorem dX2_take_9 : decode cX2_take 9 = .ok (.invokevirtual 50, 3) := by decide +kernel
theorem dX2_take_12 : decode cX2_take 12 = .ok (.goto 8, 3) := by decide +kernel
theorem dX2_take_15 : decode cX2_take 15 = .ok (.aload_n 0, 1) := by decide +kernel
theorem dX2_take_16 : decode cX2_take 16 = .ok (.iconst 2, 1) := by decide +kernel
theorem dX2_take_17 : decode cX2_take 17 = .ok (.invokevirtual 119, 3) := by decide +kernel
theorem dX2_take_20 : decode cX2_take 20 = .ok (.return_, 1) := by decide +kernel
theorem dX2_takeKind_0 : decode cX2_takeKind 0 = .ok (.aload_n 0, 1) := by decide +kernel
theorem dX2_takeKind_1 : decode cX2_takeKind 1 = .ok (.getfield 53, 3) := by decide +kernel
theorem dX2_takeKind_4 : decode cX2_takeKind 4 = .ok (.bipush 13, 2) := by decide +kernel
theorem dX2_takeKind_6 : decode cX2_takeKind 6 = .ok (.isub, 1) := by decide +kernel
theorem dX2_takeKind_7 : decode cX2_takeKind 7 = .ok (.istore_n 1, 1) := by decide +kernel
theorem dX2_takeKind_8 : decode cX2_takeKind 8 = .ok (.aload_n 0, 1) := by decide +kernel
theorem dX2_takeKind_9 : decode cX2_takeKind 9 = .ok (.getfield 53, 3) := by decide +kernel
theorem dX2_takeKind_12 : decode cX2_takeKind 12 = .ok (.bipush 13, 2) := by decide +kernel
theorem dX2_takeKind_14 : decode cX2_takeKind 14 = .ok (.if_icmp .lt 12, 3) := by decide +kernel
theorem dX2_takeKind_17 : decode cX2_takeKind 17 = .ok (.aload_n 0, 1) := by decide +kernel
theorem dX2_takeKind_18 : decode cX2_takeKind 18 = .ok (.getfield 53, 3) := by decide +kernel
theorem dX2_takeKind_21 : decode cX2_takeKind 21 = .ok (.bipush 17, 2) := by decide +kernel
theorem dX2_takeKind_23 : decode cX2_takeKind 23 = .ok (.if_icmp .le 10, 3) := by decide +kernel
theorem dX2_takeKind_26 : decode cX2_takeKind 26 = .ok (.aload_n 0, 1) := by decide +kernel
theorem dX2_takeKind_27 : decode cX2_takeKind 27 = .ok (.iconst 2, 1) := by decide +kernel
theorem dX2_takeKind_28 : decode cX2_takeKind 28 = .ok (.invokevirtual 119, 3) := by decide +kernel
theorem dX2_takeKind_31 : decode cX2_takeKind 31 = .ok (.iconst 0, 1) := by decide +kernel
theorem dX2_takeKind_32 : decode cX2_takeKind 32 = .ok (.ireturn, 1) := by decide +kernel
theorem dX2_takeKind_33 : decode cX2_takeKind 33 = .ok (.aload_n 0, 1) := by decide +kernel
theorem dX2_takeKind_34 : decode cX2_takeKind 34 = .ok (.invokevirtual 50, 3) := by decide +kernel
theorem dX2_takeKind_37 : decode cX2_takeKind 37 = .ok (.iload_n 1, 1) := by decide +kernel
theorem dX2_takeKind_38 : decode cX2_takeKind 38 = .ok (.ireturn, 1) := by decide +kernel
theorem dX2_takeNumber_0 : decode cX2_takeNumber 0 = .ok (.aload_n 0, 1) := by decide +kernel
theorem dX2_takeNumber_1 : decode cX2_takeNumber 1 = .ok (.getfield 53, 3) := by decide +kernel
theorem dX2_takeNumber_4 : decode cX2_takeNumber 4 = .ok (.sipush 1000, 3) := by decide +kernel
theorem dX2_takeNumber_7 : decode cX2_takeNumber 7 = .ok (.isub, 1) := by decide +kernel
theorem dX2_takeNumber_8 : decode cX2_takeNumber 8 = .ok (.istore_n 3, 1) := by decide +kernel
theorem dX2_takeNumber_9 : decode cX2_takeNumber 9 = .ok (.iload_n 3, 1) := by decide +kernel
theorem dX2_takeNumber_10 : decode cX2_takeNumber 10 = .ok (.ifCond .ge 10, 3) := by decide +kernel
theorem dX2_takeNumber_13 : decode cX2_takeNumber 13 = .ok (.aload_n 0, 1) := by decide +kernel
theorem dX2_takeNumber_14 : decode cX2_takeNumber 14 = .ok (.iconst 2, 1) := by decide +kernel
theorem dX2_takeNumber_15 : decode cX2_takeNumber 15 = .ok (.invokevirtual 119, 3) := by decide +kernel
theorem dX2_takeNumber_18 : decode cX2_takeNumber 18 = .ok (.iload_n 1, 1) := by decide +kernel
theorem dX2_takeNumber_19 : decode cX2_takeNumber 19 = .ok (.ireturn, 1) := by decide +kernel
theorem dX2_takeNumber_20 : decode cX2_takeNumber 20 = .ok (.iload_n 3, 1) := by decide +kernel
theorem dX2_takeNumber_21 : decode cX2_takeNumber 21 = .ok (.iload_n 1, 1) := by decide +kernel
theorem dX2_takeNumber_22 : decode cX2_takeNumber 22 = .ok (.iload_n 2, 1) := by decide +kernel
theorem dX2_takeNumber_23 : decode cX2_takeNumber 23 = .ok (.invokestatic 166, 3) := by decide +kernel
theorem dX2_takeNumber_26 : decode cX2_takeNumber 26 = .ok (.ifCond .ne 10, 3) := by decide +kernel
theorem dX2_takeNumber_29 : decode cX2_takeNumber 29 = .ok (.aload_n 0, 1) := by decide +kernel
theorem dX2_takeNumber_30 : decode cX2_takeNumber 30 = .ok (.iconst 4, 1) := by decide +kernel
theorem dX2_takeNumber_31 : decode cX2_takeNumber 31 = .ok (.invokevirtual 119, 3) := by decide +kernel
theorem dX2_takeNumber_34 : decode cX2_takeNumber 34 = .ok (.iload_n 1, 1) := by decide +kernel
theorem dX2_takeNumber_35 : decode cX2_takeNumber 35 = .ok (.ireturn, 1) := by decide +kernel
theorem dX2_takeNumber_36 : decode cX2_takeNumber 36 = .ok (.aload_n 0, 1) := by decide +kernel
theorem dX2_takeNumber_37 : decode cX2_takeNumber 37 = .ok (.invokevirtual 50, 3) := by decide +kernel
theorem dX2_takeNumber_40 : decode cX2_takeNumber 40 = .ok (.iload_n 3, 1) := by decide +kernel
theorem dX2_takeNumber_41 : decode cX2_takeNumber 41 = .ok (.ireturn, 1) := by decide +kernel
theorem dX6_addBank_0 : decode cX6_addBank 0 = .ok (.iload_n 1, 1) := by decide +kernel
theorem dX6_addBank_1 : decode cX6_addBank 1 = .ok (.ifCond .lt 21, 3) := by decide +kernel
theorem dX6_addBank_4 : decode cX6_addBank 4 = .ok (.iload_n 1, 1) := by decide +kernel
theorem dX6_addBank_5 : decode cX6_addBank 5 = .ok (.iload_n 2, 1) := by decide +kernel
theorem dX6_addBank_6 : decode cX6_addBank 6 = .ok (.if_icmp .ge 16, 3) := by decide +kernel
theorem dX6_addBank_9 : decode cX6_addBank 9 = .ok (.iload_n 2, 1) := by decide +kernel
theorem dX6_addBank_10 : decode cX6_addBank 10 = .ok (.aload_n 0, 1) := by decide +kernel
theorem dX6_addBank_11 : decode cX6_addBank 11 = .ok (.getfield 21, 3) := by decide +kernel
theorem dX6_addBank_14 : decode cX6_addBank 14 = .ok (.arraylength, 1) := by decide +kernel
theorem dX6_addBank_15 : decode cX6_addBank 15 = .ok (.if_icmp .ge 7, 3) := by decide +kernel
theorem dX6_addBank_18 : decode cX6_addBank 18 = .ok (.iconst 1, 1) := by decide +kernel
theorem dX6_addBank_19 : decode cX6_addBank 19 = .ok (.goto 4, 3) := by decide +kernel
theorem dX6_addBank_22 : decode cX6_addBank 22 = .ok (.iconst 0, 1) := by decide +kernel
theorem dX6_addBank_23 : decode cX6_addBank 23 = .ok (.istore 4, 2) := by decide +kernel
theorem dX6_addBank_25 : decode cX6_addBank 25 = .ok (.iload 4, 2) := by decide +kernel
theorem dX6_addBank_27 : decode cX6_addBank 27 = .ok (.ifCond .eq 73, 3) := by decide +kernel
theorem dX6_addBank_30 : decode cX6_addBank 30 = .ok (.aload_n 0, 1) := by decide +kernel
theorem dX6_addBank_31 : decode cX6_addBank 31 = .ok (.getfield 47, 3) := by decide +kernel
theorem dX6_addBank_34 : decode cX6_addBank 34 = .ok (.ifCond .lt 66, 3) := by decide +kernel
theorem dX6_addBank_37 : decode cX6_addBank 37 = .ok (.aload_n 0, 1) := by decide +kernel
theorem dX6_addBank_38 : decode cX6_addBank 38 = .ok (.getfield 47, 3) := by decide +kernel
theorem dX6_addBank_41 : decode cX6_addBank 41 = .ok (.bipush 10, 2) := by decide +kernel
theorem dX6_addBank_43 : decode cX6_addBank 43 = .ok (.if_icmp .ge 57, 3) := by decide +kernel
theorem dX6_addBank_46 : decode cX6_addBank 46 = .ok (.aload_n 0, 1) := by decide +kernel
theorem dX6_addBank_47 : decode cX6_addBank 47 = .ok (.getfield 21, 3) := by decide +kernel
theorem dX6_addBank_50 : decode cX6_addBank 50 = .ok (.iload_n 1, 1) := by decide +kernel
theorem dX6_addBank_51 : decode cX6_addBank 51 = .ok (.iconst 0, 1) := by decide +kernel
theorem dX6_addBank_52 : decode cX6_addBank 52 = .ok (.iastore, 1) := by decide +kernel
theorem dX6_addBank_53 : decode cX6_addBank 53 = .ok (.aload_n 0, 1) := by decide +kernel
theorem dX6_addBank_54 : decode cX6_addBank 54 = .ok (.getfield 21, 3) := by decide +kernel
theorem dX6_addBank_57 : decode cX6_addBank 57 = .ok (.iload_n 2, 1) := by decide +kernel
theorem dX6_addBank_58 : decode cX6_addBank 58 = .ok (.iconst 0, 1) := by decide +kernel
theorem dX6_addBank_59 : decode cX6_addBank 59 = .ok (.iastore, 1) := by decide +kernel
theorem dX6_addBank_60 : decode cX6_addBank 60 = .ok (.aload_n 0, 1) := by decide +kernel
theorem dX6_addBank_61 : decode cX6_addBank 61 = .ok (.getfield 9, 3) := by decide +kernel
theorem dX6_addBank_64 : decode cX6_addBank 64 = .ok (.aload_n 0, 1) := by decide +kernel
theorem dX6_addBank_65 : decode cX6_addBank 65 = .ok (.getfield 47, 3) := by decide +kernel
theorem dX6_addBank_68 : decode cX6_addBank 68 = .ok (.iload_n 1, 1) := by decide +kernel
theorem dX6_addBank_69 : decode cX6_addBank 69 = .ok (.iastore, 1) := by decide +kernel
theorem dX6_addBank_70 : decode cX6_addBank 70 = .ok (.aload_n 0, 1) := by decide +kernel
theorem dX6_addBank_71 : decode cX6_addBank 71 = .ok (.getfield 15, 3) := by decide +kernel
theorem dX6_addBank_74 : decode cX6_addBank 74 = .ok (.aload_n 0, 1) := by decide +kernel
theorem dX6_addBank_75 : decode cX6_addBank 75 = .ok (.getfield 47, 3) := by decide +kernel
theorem dX6_addBank_78 : decode cX6_addBank 78 = .ok (.iload_n 2, 1) := by decide +kernel
theorem dX6_addBank_79 : decode cX6_addBank 79 = .ok (.iastore, 1) := by decide +kernel
theorem dX6_addBank_80 : decode cX6_addBank 80 = .ok (.aload_n 0, 1) := by decide +kernel
theorem dX6_addBank_81 : decode cX6_addBank 81 = .ok (.getfield 18, 3) := by decide +kernel
theorem dX6_addBank_84 : decode cX6_addBank 84 = .ok (.aload_n 0, 1) := by decide +kernel
theorem dX6_addBank_85 : decode cX6_addBank 85 = .ok (.getfield 47, 3) := by decide +kernel
theorem dX6_addBank_88 : decode cX6_addBank 88 = .ok (.iload_n 3, 1) := by decide +kernel
theorem dX6_addBank_89 : decode cX6_addBank 89 = .ok (.iastore, 1) := by decide +kernel
theorem dX6_addBank_90 : decode cX6_addBank 90 = .ok (.aload_n 0, 1) := by decide +kernel
theorem dX6_addBank_91 : decode cX6_addBank 91 = .ok (.dup, 1) := by decide +kernel
theorem dX6_addBank_92 : decode cX6_addBank 92 = .ok (.getfield 47, 3) := by decide +kernel
theorem dX6_addBank_95 : decode cX6_addBank 95 = .ok (.iconst 1, 1) := by decide +kernel
theorem dX6_addBank_96 : decode cX6_addBank 96 = .ok (.iadd, 1) := by decide +kernel
theorem dX6_addBank_97 : decode cX6_addBank 97 = .ok (.putfield 47, 3) := by decide +kernel
theorem dX6_addBank_100 : decode cX6_addBank 100 = .ok (.return_, 1) := by decide +kernel
theorem dX6_reachFrom_0 : decode cX6_reachFrom 0 = .ok (.iconst 0, 1) := by decide +kernel
theorem dX6_reachFrom_1 : decode cX6_reachFrom 1 = .ok (.istore_n 2, 1) := by decide +kernel
theorem dX6_reachFrom_2 : decode cX6_reachFrom 2 = .ok (.iconst 0, 1) := by decide +kernel
theorem dX6_reachFrom_3 : decode cX6_reachFrom 3 = .ok (.istore_n 3, 1) := by decide +kernel
theorem dX6_reachFrom_4 : decode cX6_reachFrom 4 = .ok (.iload_n 3, 1) := by decide +kernel
theorem dX6_reachFrom_5 : decode cX6_reachFrom 5 = .ok (.aload_n 0, 1) := by decide +kernel
theorem dX6_reachFrom_6 : decode cX6_reachFrom 6 = .ok (.getfield 103, 3) := by decide +kernel
theorem dX6_reachFrom_9 : decode cX6_reachFrom 9 = .ok (.if_icmp .ge 40, 3) := by decide +kernel
theorem dX6_reachFrom_12 : decode cX6_reachFrom 12 = .ok (.iload_n 3, 1) := by decide +kernel
theorem dX6_reachFrom_13 : decode cX6_reachFrom 13 = .ok (.bipush 20, 2) := by decide +kernel
theorem dX6_reachFrom_15 : decode cX6_reachFrom 15 = .ok (.if_icmp .ge 34, 3) := by decide +kernel
theorem dX6_reachFrom_18 : decode cX6_reachFrom 18 = .ok (.iload_n 3, 1) := by decide +kernel
theorem dX6_reachFrom_19 : decode cX6_reachFrom 19 = .ok (.iload_n 1, 1) := by decide +kernel
theorem dX6_reachFrom_20 : decode cX6_reachFrom 20 = .ok (.if_icmp .le 16, 3) := by decide +kernel
theorem dX6_reachFrom_23 : decode cX6_reachFrom 23 = .ok (.iload_n 2, 1) := by decide +kernel
theorem dX6_reachFrom_24 : decode cX6_reachFrom 24 = .ok (.aload_n 0, 1) := by decide +kernel
theorem dX6_reachFrom_25 : decode cX6_reachFrom 25 = .ok (.getfield 27, 3) := by decide +kernel
theorem dX6_reachFrom_28 : decode cX6_reachFrom 28 = .ok (.iload_n 3, 1) := by decide +kernel
theorem dX6_reachFrom_29 : decode cX6_reachFrom 29 = .ok (.iconst 1, 1) := by decide +kernel
theorem dX6_reachFrom_30 : decode cX6_reachFrom 30 = .ok (.isub, 1) := by decide +kernel
theorem dX6_reachFrom_31 : decode cX6_reachFrom 31 = .ok (.invokestatic 51, 3) := by decide +kernel
theorem dX6_reachFrom_34 : decode cX6_reachFrom 34 = .ok (.iadd, 1) := by decide +kernel
theorem dX6_reachFrom_35 : decode cX6_reachFrom 35 = .ok (.istore_n 2, 1) := by decide +kernel
theorem dX6_reachFrom_36 : decode cX6_reachFrom 36 = .ok (.aload_n 0, 1) := by decide +kernel
theorem dX6_reachFrom_37 : decode cX6_reachFrom 37 = .ok (.getfield 30, 3) := by decide +kernel
theorem dX6_reachFrom_40 : decode cX6_reachFrom 40 = .ok (.iload_n 3, 1) := by decide +kernel
theorem dX6_reachFrom_41 : decode cX6_reachFrom 41 = .ok (.iload_n 2, 1) := by decide +kernel
theorem dX6_reachFrom_42 : decode cX6_reachFrom 42 = .ok (.iastore, 1) := by decide +kernel
theorem dX6_reachFrom_43 : decode cX6_reachFrom 43 = .ok (.iinc 3 1, 3) := by decide +kernel
theorem dX6_reachFrom_46 : decode cX6_reachFrom 46 = .ok (.goto (-42), 3) := by decide +kernel
theorem dX6_reachFrom_49 : decode cX6_reachFrom 49 = .ok (.return_, 1) := by decide +kernel
theorem dX6_lowerByGaps_0 : decode cX6_lowerByGaps 0 = .ok (.iconst 0, 1) := by decide +kernel
theorem dX6_lowerByGaps_1 : decode cX6_lowerByGaps 1 = .ok (.istore_n 1, 1) := by decide +kernel
theorem dX6_lowerByGaps_2 : decode cX6_lowerByGaps 2 = .ok (.iconst 1, 1) := by decide +kernel
theorem dX6_lowerByGaps_3 : decode cX6_lowerByGaps 3 = .ok (.istore_n 2, 1) := by decide +kernel
theorem dX6_lowerByGaps_4 : decode cX6_lowerByGaps 4 = .ok (.iload_n 2, 1) := by decide +kernel
theorem dX6_lowerByGaps_5 : decode cX6_lowerByGaps 5 = .ok (.aload_n 0, 1) := by decide +kernel
theorem dX6_lowerByGaps_6 : decode cX6_lowerByGaps 6 = .ok (.getfield 103, 3) := by decide +kernel
theorem dX6_lowerByGaps_9 : decode cX6_lowerByGaps 9 = .ok (.if_icmp .ge 52, 3) := by decide +kernel
theorem dX6_lowerByGaps_12 : decode cX6_lowerByGaps 12 = .ok (.iload_n 2, 1) := by decide +kernel
theorem dX6_lowerByGaps_13 : decode cX6_lowerByGaps 13 = .ok (.bipush 20, 2) := by decide +kernel
theorem dX6_lowerByGaps_15 : decode cX6_lowerByGaps 15 = .ok (.if_icmp .ge 46, 3) := by decide +kernel
theorem dX6_lowerByGaps_18 : decode cX6_lowerByGaps 18 = .ok (.aload_n 0, 1) := by decide +kernel
theorem dX6_lowerByGaps_19 : decode cX6_lowerByGaps 19 = .ok (.getfield 30, 3) := by decide +kernel
theorem dX6_lowerByGaps_22 : decode cX6_lowerByGaps 22 = .ok (.iload_n 2, 1) := by decide +kernel
theorem dX6_lowerByGaps_23 : decode cX6_lowerByGaps 23 = .ok (.iconst 1, 1) := by decide +kernel
theorem dX6_lowerByGaps_24 : decode cX6_lowerByGaps 24 = .ok (.isub, 1) := by decide +kernel
theorem dX6_lowerByGaps_25 : decode cX6_lowerByGaps 25 = .ok (.iaload, 1) := by decide +kernel
theorem dX6_lowerByGaps_26 : decode cX6_lowerByGaps 26 = .ok (.aload_n 0, 1) := by decide +kernel
theorem dX6_lowerByGaps_27 : decode cX6_lowerByGaps 27 = .ok (.getfield 27, 3) := by decide +kernel
theorem dX6_lowerByGaps_30 : decode cX6_lowerByGaps 30 = .ok (.iload_n 2, 1) := by decide +kernel
theorem dX6_lowerByGaps_31 : decode cX6_lowerByGaps 31 = .ok (.iconst 1, 1) := by decide +kernel
theorem dX6_lowerByGaps_32 : decode cX6_lowerByGaps 32 = .ok (.isub, 1) := by decide +kernel
theorem dX6_lowerByGaps_33 : decode cX6_lowerByGaps 33 = .ok (.iaload, 1) := by decide +kernel
theorem dX6_lowerByGaps_34 : decode cX6_lowerByGaps 34 = .ok (.iadd, 1) := by decide +kernel
theorem dX6_lowerByGaps_35 : decode cX6_lowerByGaps 35 = .ok (.istore_n 3, 1) := by decide +kernel
theorem dX6_lowerByGaps_36 : decode cX6_lowerByGaps 36 = .ok (.aload_n 0, 1) := by decide +kernel
theorem dX6_lowerByGaps_37 : decode cX6_lowerByGaps 37 = .ok (.getfield 30, 3) := by decide +kernel
theorem dX6_lowerByGaps_40 : decode cX6_lowerByGaps 40 = .ok (.iload_n 2, 1) := by decide +kernel
theorem dX6_lowerByGaps_41 : decode cX6_lowerByGaps 41 = .ok (.iaload, 1) := by decide +kernel
theorem dX6_lowerByGaps_42 : decode cX6_lowerByGaps 42 = .ok (.iload_n 3, 1) := by decide +kernel
theorem dX6_lowerByGaps_43 : decode cX6_lowerByGaps 43 = .ok (.if_icmp .le 12, 3) := by decide +kernel
theorem dX6_lowerByGaps_46 : decode cX6_lowerByGaps 46 = .ok (.aload_n 0, 1) := by decide +kernel
theorem dX6_lowerByGaps_47 : decode cX6_lowerByGaps 47 = .ok (.getfield 30, 3) := by decide +kernel
theorem dX6_lowerByGaps_50 : decode cX6_lowerByGaps 50 = .ok (.iload_n 2, 1) := by decide +kernel
theorem dX6_lowerByGaps_51 : decode cX6_lowerByGaps 51 = .ok (.iload_n 3, 1) := by decide +kernel
theorem dX6_lowerByGaps_52 : decode cX6_lowerByGaps 52 = .ok (.iastore, 1) := by decide +kernel
theorem dX6_lowerByGaps_53 : decode cX6_lowerByGaps 53 = .ok (.iconst 1, 1) := by decide +kernel
theorem dX6_lowerByGaps_54 : decode cX6_lowerByGaps 54 = .ok (.istore_n 1, 1) := by decide +kernel
theorem dX6_lowerByGaps_55 : decode cX6_lowerByGaps 55 = .ok (.iinc 2 1, 3) := by decide +kernel
theorem dX6_lowerByGaps_58 : decode cX6_lowerByGaps 58 = .ok (.goto (-54), 3) := by decide +kernel
theorem dX6_lowerByGaps_61 : decode cX6_lowerByGaps 61 = .ok (.aload_n 0, 1) := by decide +kernel
theorem dX6_lowerByGaps_62 : decode cX6_lowerByGaps 62 = .ok (.getfield 103, 3) := by decide +kernel
theorem dX6_lowerByGaps_65 : decode cX6_lowerByGaps 65 = .ok (.iconst 1, 1) := by decide +kernel
theorem dX6_lowerByGaps_66 : decode cX6_lowerByGaps 66 = .ok (.isub, 1) := by decide +kernel
theorem dX6_lowerByGaps_67 : decode cX6_lowerByGaps 67 = .ok (.istore_n 2, 1) := by decide +kernel
theorem dX6_lowerByGaps_68 : decode cX6_lowerByGaps 68 = .ok (.iload_n 2, 1) := by decide +kernel
theorem dX6_lowerByGaps_69 : decode cX6_lowerByGaps 69 = .ok (.ifCond .le 48, 3) := by decide +kernel
theorem dX6_lowerByGaps_72 : decode cX6_lowerByGaps 72 = .ok (.iload_n 2, 1) := by decide +kernel
theorem dX6_lowerByGaps_73 : decode cX6_lowerByGaps 73 = .ok (.bipush 20, 2) := by decide +kernel
theorem dX6_lowerByGaps_75 : decode cX6_lowerByGaps 75 = .ok (.if_icmp .ge 36, 3) := by decide +kernel
theorem dX6_lowerByGaps_78 : decode cX6_lowerByGaps 78 = .ok (.aload_n 0, 1) := by decide +kernel
theorem dX6_lowerByGaps_79 : decode cX6_lowerByGaps 79 = .ok (.getfield 30, 3) := by decide +kernel
theorem dX6_lowerByGaps_82 : decode cX6_lowerByGaps 82 = .ok (.iload_n 2, 1) := by decide +kernel
theorem dX6_lowerByGaps_83 : decode cX6_lowerByGaps 83 = .ok (.iconst 1, 1) := by decide +kernel
theorem dX6_lowerByGaps_84 : decode cX6_lowerByGaps 84 = .ok (.isub, 1) := by decide +kernel
theorem dX6_lowerByGaps_85 : decode cX6_lowerByGaps 85 = .ok (.iaload, 1) := by decide +kernel
theorem dX6_lowerByGaps_86 : decode cX6_lowerByGaps 86 = .ok (.aload_n 0, 1) := by decide +kernel
theorem dX6_lowerByGaps_87 : decode cX6_lowerByGaps 87 = .ok (.getfield 30, 3) := by decide +kernel
theorem dX6_lowerByGaps_90 : decode cX6_lowerByGaps 90 = .ok (.iload_n 2, 1) := by decide +kernel
theorem dX6_lowerByGaps_91 : decode cX6_lowerByGaps 91 = .ok (.iaload, 1) := by decide +kernel
theorem dX6_lowerByGaps_92 : decode cX6_lowerByGaps 92 = .ok (.if_icmp .le 19, 3) := by decide +kernel
theorem dX6_lowerByGaps_95 : decode cX6_lowerByGaps 95 = .ok (.aload_n 0, 1) := by decide +kernel
theorem dX6_lowerByGaps_96 : decode cX6_lowerByGaps 96 = .ok (.getfield 30, 3) := by decide +kernel
theorem dX6_lowerByGaps_99 : decode cX6_lowerByGaps 99 = .ok (.iload_n 2, 1) := by decide +kernel
theorem dX6_lowerByGaps_100 : decode cX6_lowerByGaps 100 = .ok (.iconst 1, 1) := by decide +kernel
theorem dX6_lowerByGaps_101 : decode cX6_lowerByGaps 101 = .ok (.isub, 1) := by decide +kernel
theorem dX6_lowerByGaps_102 : decode cX6_lowerByGaps 102 = .ok (.aload_n 0, 1) := by decide +kernel
theorem dX6_lowerByGaps_103 : decode cX6_lowerByGaps 103 = .ok (.getfield 30, 3) := by decide +kernel
theorem dX6_lowerByGaps_106 : decode cX6_lowerByGaps 106 = .ok (.iload_n 2, 1) := by decide +kernel
theorem dX6_lowerByGaps_107 : decode cX6_lowerByGaps 107 = .ok (.iaload, 1) := by decide +kernel
theorem dX6_lowerByGaps_108 : decode cX6_lowerByGaps 108 = .ok (.iastore, 1) := by decide +kernel
theorem dX6_lowerByGaps_109 : decode cX6_lowerByGaps 109 = .ok (.iconst 1, 1) := by decide +kernel
theorem dX6_lowerByGaps_110 : decode cX6_lowerByGaps 110 = .ok (.istore_n 1, 1) := by decide +kernel
theorem dX6_lowerByGaps_111 : decode cX6_lowerByGaps 111 = .ok (.iinc 2 (-1), 3) := by decide +kernel
theorem dX6_lowerByGaps_114 : decode cX6_lowerByGaps 114 = .ok (.goto (-46), 3) := by decide +kernel
theorem dX6_lowerByGaps_117 : decode cX6_lowerByGaps 117 = .ok (.iload_n 1, 1) := by decide +kernel
theorem dX6_lowerByGaps_118 : decode cX6_lowerByGaps 118 = .ok (.ireturn, 1) := by decide +kernel
theorem dJ0_checkIndex_df160_0 : decode cJ0_checkIndex_df160 0 = .ok (.iload_n 0, 1) := by decide +kernel
theorem dJ0_checkIndex_df160_1 : decode cJ0_checkIndex_df160 1 = .ok (.iload_n 1, 1) := by decide +kernel
theorem dJ0_checkIndex_df160_2 : decode cJ0_checkIndex_df160 2 = .ok (.getstatic 1053, 3) := by decide +kernel
theorem dJ0_checkIndex_df160_5 : decode cJ0_checkIndex_df160 5 = .ok (.invokestatic 1059, 3) := by decide +kernel
theorem dJ0_checkIndex_df160_8 : decode cJ0_checkIndex_df160 8 = .ok (.pop, 1) := by decide +kernel
theorem dJ0_checkIndex_df160_9 : decode cJ0_checkIndex_df160 9 = .ok (.return_, 1) := by decide +kernel
def f_J3_checkIndex_8e157 (v0 : Int32) (v1 : Int32) (q2 : Option Nat) (h : Hp) : Option (Int32 × Hp) :=
  if v0 < (0 : Int32) then
    none
  else
    if v0 < v1 then
      some (v0, h)
    else
      none
set_option maxHeartbeats 4000000 in
theorem t_J3_checkIndex_8e157 (E : En) (d : Nat) {mc ms : Nat} {v0 : Int32} {v1 : Int32} {q2 : Option Nat} {h h' : Hp} {r : Int32} {K : Option Vv → Hp → Prop} (hf : f_J3_checkIndex_8e157 v0 v1 q2 h = some (r, h')) (hk : K (some (vi r)) h') : MC E m_J3_checkIndex_8e157 (d + 0) mc ms [vi v0, vi v1, vq q2] h K := by
  unfold f_J3_checkIndex_8e157 at hf
  show MW E m_J3_checkIndex_8e157 (d + 0) mc ms 0 [some (vi v0), some (vi v1), some (vq q2)] [] h K
  refine mw_iload_n (x := v0) dJ3_checkIndex_8e157_0 rfl ?_
  refine mw_if_lt (tgt := 9) dJ3_checkIndex_8e157_1 rfl (fun c1 => ?_) (fun c1 => ?_)
  · rw [if_pos c1] at hf
    refine mw_aload_n (x := q2) dJ3_checkIndex_8e157_9 rfl ?_
    refine mw_iload_n (x := v0) dJ3_checkIndex_8e157_10 rfl ?_
    refine mw_iload_n (x := v1) dJ3_checkIndex_8e157_11 rfl ?_
    cases hf
  · rw [if_neg c1] at hf
    refine mw_iload_n (x := v0) dJ3_checkIndex_8e157_4 rfl ?_
    refine mw_iload_n (x := v1) dJ3_checkIndex_8e157_5 rfl ?_
    refine mw_icmp_lt (tgt := 16) dJ3_checkIndex_8e157_6 rfl (fun c2 => ?_) (fun c2 => ?_)
    · rw [if_pos c2] at hf
      refine mw_iload_n (x := v0) dJ3_checkIndex_8e157_16 rfl ?_
      obtain ⟨rfl, rfl⟩ := y1 hf
      exact mw_ireturn dJ3_checkIndex_8e157_17 rfl rfl hk
    · rw [if_neg c2] at hf
      refine mw_aload_n (x := q2) dJ3_checkIndex_8e157_9 rfl ?_
      refine mw_iload_n (x := v0) dJ3_checkIndex_8e157_10 rfl ?_
      refine mw_iload_n (x := v1) dJ3_checkIndex_8e157_11 rfl ?_
      cases hf
def f_J0_isLatin1_aae02 (a0 : Nat) (h : Hp) : Option (Int32 × Hp) :=
  b1 ((if (1 : Int32) = (0 : Int32) then
      some (0, h)
    else
      (sCd (some a0)).bind fun x5 =>
      if x5 = (0 : Int32) then
        some (1, h)
      else
        some (0, h) : Option (Int32 × Hp))) fun w8 h9 =>
  (zok w8).bind fun z11 =>
  some (w8, h9)
set_option maxHeartbeats 4000000 in
theorem t_J0_isLatin1_aae02 (E : En) (d : Nat) {mc ms : Nat} {a0 : Nat} {h h' : Hp} {r : Int32} {K : Option Vv → Hp → Prop} (hf : f_J0_isLatin1_aae02 a0 h = some (r, h')) (hk : K (some (vi r)) h') : MC E m_J0_isLatin1_aae02 (d + 0) mc ms [vq (some a0)] h K := by
  unfold f_J0_isLatin1_aae02 at hf
  show MW E m_J0_isLatin1_aae02 (d + 0) mc ms 0 [some (vq (some a0))] [] h K
  refine mw_getsC dJ0_isLatin1_aae02_0 xf_RJ0_38 ?_
  obtain ⟨w8, h9, r10, hf⟩ := ob1 hf
  have J13 : MW E m_J0_isLatin1_aae02 (d + 0) mc ms 18 [none] [vi w8] h9 K := by
    obtain ⟨z11, e12, hf⟩ := ob hf
    obtain ⟨rfl, rfl⟩ := y1 hf
    exact mw_ireturn dJ0_isLatin1_aae02_18 rfl (zok_of e12) hk
  refine mw_if_eq (tgt := 17) dJ0_isLatin1_aae02_3 rfl (fun c1 => ?_) (fun c1 => ?_)
  · rw [if_pos c1] at r10
    refine mw_iconst (v := 0) dJ0_isLatin1_aae02_17 (by decide) ?_
    obtain ⟨rfl, rfl⟩ := y1 r10
    exact MW.sub (subL_n subL_nil) J13
  · rw [if_neg c1] at r10
    refine mw_aload_n (x := (some a0)) dJ0_isLatin1_aae02_6 rfl ?_
    obtain ⟨x5, e6, r10⟩ := ob r10
    refine ml_sCd dJ0_isLatin1_aae02_7 xf_RJ0_15 e6 ?_
    refine mw_if_ne (tgt := 17) dJ0_isLatin1_aae02_10 rfl (fun c7 => ?_) (fun c7 => ?_)
    · rw [if_neg c7] at r10
      refine mw_iconst (v := 0) dJ0_isLatin1_aae02_17 (by decide) ?_
      obtain ⟨rfl, rfl⟩ := y1 r10
      exact MW.sub (subL_n subL_nil) J13
    · rw [if_pos c7] at r10
      refine mw_iconst (v := 1) dJ0_isLatin1_aae02_13 (by decide) ?_
      refine mw_goto (tgt := 18) dJ0_isLatin1_aae02_14 rfl ?_
      obtain ⟨rfl, rfl⟩ := y1 r10
      exact MW.sub (subL_n subL_nil) J13
/-- String.checkIndex: what it asks of the formatter is nothing where the index is in -/
def f_J0_checkIndex_df160 (v0 : Int32) (v1 : Int32) (h : Hp) : Option Hp := (f_J3_checkIndex_8e157 v0 v1 none h).bind fun p => some p.2
theorem f_J3_any (v0 v1 : Int32) (q : Option Nat) (h : Hp) : f_J3_checkIndex_8e157 v0 v1 q h = f_J3_checkIndex_8e157 v0 v1 none h := rfl
theorem t_J0_checkIndex_df160 (E : En) (d : Nat) {mc ms : Nat} {v0 v1 : Int32} {h h' : Hp} {K : Option Vv → Hp → Prop} (hf : f_J0_checkIndex_df160 v0 v1 h = some h') (hk : K none h') : MC E m_J0_checkIndex_df160 (d + 1) mc ms [vi v0, vi v1] h K := by
  unfold f_J0_checkIndex_df160 at hf
  show MW E m_J0_checkIndex_df160 (d + 1) mc ms 0 [some (vi v0), some (vi v1)] [] h K
  refine mw_iload_n (x := v0) dJ0_checkIndex_df160_0 rfl ?_
  refine mw_iload_n (x := v1) dJ0_checkIndex_df160_1 rfl ?_
  refine mw_getsF dJ0_checkIndex_df160_2 xf_RJ0_1053 ?_
  obtain ⟨⟨r1, h1⟩, e1, hf⟩ := ob hf
  obtain rfl := y0 hf
  refine ml_callS (mc' := 0) (ms' := 0) [vi v0, vi v1, vq (ez E)] dJ0_checkIndex_df160_5 mk_J3_checkIndex_8e157 lk_RJ0_1059 st_J3_checkIndex_8e157 rfl (Nat.le_of_ble_eq_true rfl) (Nat.le_of_ble_eq_true rfl) (t_J3_checkIndex_8e157 E _ ((f_J3_any v0 v1 (ez E) h).trans e1) isR_rfl) ?_
  refine mw_popi dJ0_checkIndex_df160_8 ?_
  exact mw_return dJ0_checkIndex_df160_9 rfl hk
def f_J1_charAt_3b067 (q0 : Option Nat) (v1 : Int32) (h : Hp) : Option (Int32 × Hp) :=
  (sAl q0).bind fun x1 =>
  (f_J0_checkIndex_df160 v1 x1 h).bind fun h3 =>
  (sRd q0 v1).bind fun x5 =>
  (nwk .char (((x5 &&& (255 : Int32)).toUInt32 % 65536).toInt32)).bind fun z7 =>
  some ((((x5 &&& (255 : Int32)).toUInt32 % 65536).toInt32), h3)
set_option maxHeartbeats 4000000 in
theorem t_J1_charAt_3b067 (E : En) (d : Nat) {mc ms : Nat} {q0 : Option Nat} {v1 : Int32} {h h' : Hp} {r : Int32} {K : Option Vv → Hp → Prop} (hf : f_J1_charAt_3b067 q0 v1 h = some (r, h')) (hk : K (some (vi r)) h') : MC E m_J1_charAt_3b067 (d + 2) mc ms [vq q0, vi v1] h K := by
  unfold f_J1_charAt_3b067 at hf
  show MW E m_J1_charAt_3b067 (d + 2) mc ms 0 [some (vq q0), some (vi v1)] [] h K
  refine mw_iload_n (x := v1) dJ1_charAt_3b067_0 rfl ?_
  refine mw_aload_n (x := q0) dJ1_charAt_3b067_1 rfl ?_
  obtain ⟨x1, e2, hf⟩ := ob hf
  refine ml_sAl dJ1_charAt_3b067_2 e2 ?_
  obtain ⟨h3, e4, hf⟩ := ob hf
  refine ml_callS (mc' := 0) (ms' := 0) [vi v1, vi x1] dJ1_charAt_3b067_3 mk_J0_checkIndex_df160 lk_RJ1_9 st_J0_checkIndex_df160 rfl (Nat.le_of_ble_eq_true rfl) (Nat.le_of_ble_eq_true rfl) (t_J0_checkIndex_df160 E _ e4 isR_rfl) ?_
  refine mw_aload_n (x := q0) dJ1_charAt_3b067_6 rfl ?_
  refine mw_iload_n (x := v1) dJ1_charAt_3b067_7 rfl ?_
  obtain ⟨x5, e6, hf⟩ := ob hf
  refine ml_sRd dJ1_charAt_3b067_8 e6 ?_
  refine mw_sipush (v := 255) dJ1_charAt_3b067_9 (by decide) ?_
  refine mw_iand dJ1_charAt_3b067_12 ?_
  refine mw_i2c dJ1_charAt_3b067_13 ?_
  obtain ⟨z7, e8, hf⟩ := ob hf
  obtain ⟨rfl, rfl⟩ := y1 hf
  exact mw_ireturn dJ1_charAt_3b067_14 rfl (nwk_of e8) hk
def f_J0_charAt_5068e (a0 : Nat) (v1 : Int32) (h : Hp) : Option (Int32 × Hp) :=
  (rcS (some a0)).bind fun g3 =>
  b1 (f_J0_isLatin1_aae02 g3 h) fun x5 h1 =>
  if x5 = (0 : Int32) then
    (sVl (some a0)).bind fun x7 =>
    none
  else
    (sVl (some a0)).bind fun x9 =>
    b1 (f_J1_charAt_3b067 x9 v1 h1) fun x13 h11 =>
    (nwk .char x13).bind fun z14 =>
    some (x13, h11)
set_option maxHeartbeats 4000000 in
theorem t_J0_charAt_5068e (E : En) (d : Nat) {mc ms : Nat} {a0 : Nat} {v1 : Int32} {h h' : Hp} {r : Int32} {K : Option Vv → Hp → Prop} (hf : f_J0_charAt_5068e a0 v1 h = some (r, h')) (hk : K (some (vi r)) h') : MC E m_J0_charAt_5068e (d + 3) mc ms [vq (some a0), vi v1] h K := by
  unfold f_J0_charAt_5068e at hf
  show MW E m_J0_charAt_5068e (d + 3) mc ms 0 [some (vq (some a0)), some (vi v1)] [] h K
  refine mw_aload_n (x := (some a0)) dJ0_charAt_5068e_0 rfl ?_
  obtain ⟨g3, e4, hf⟩ := ob hf
  obtain ⟨x5, h1, e2, hf⟩ := ob1 hf
  refine ml_callVS (mc' := 0) (ms' := 0) [] dJ0_charAt_5068e_1 mk_J0_isLatin1_aae02 lk_RJ0_492 im_J0_isLatin1_aae02 se_J0_isLatin1_aae02 e4 rfl (Nat.le_of_ble_eq_true rfl) (Nat.le_of_ble_eq_true rfl) (t_J0_isLatin1_aae02 E _ e2 isR_rfl) ?_
  refine mw_if_eq (tgt := 16) dJ0_charAt_5068e_4 rfl (fun c6 => ?_) (fun c6 => ?_)
  · rw [if_pos c6] at hf
    refine mw_aload_n (x := (some a0)) dJ0_charAt_5068e_16 rfl ?_
    obtain ⟨x7, e8, hf⟩ := ob hf
    refine ml_sVl dJ0_charAt_5068e_17 xf_RJ0_9 e8 ?_
    refine mw_iload_n (x := v1) dJ0_charAt_5068e_20 rfl ?_
    cases hf
  · rw [if_neg c6] at hf
    refine mw_aload_n (x := (some a0)) dJ0_charAt_5068e_7 rfl ?_
    obtain ⟨x9, e10, hf⟩ := ob hf
    refine ml_sVl dJ0_charAt_5068e_8 xf_RJ0_9 e10 ?_
    refine mw_iload_n (x := v1) dJ0_charAt_5068e_11 rfl ?_
    obtain ⟨x13, h11, e12, hf⟩ := ob1 hf
    refine ml_callS (mc' := 0) (ms' := 0) [vq x9, vi v1] dJ0_charAt_5068e_12 mk_J1_charAt_3b067 lk_RJ0_495 st_J1_charAt_3b067 rfl (Nat.le_of_ble_eq_true rfl) (Nat.le_of_ble_eq_true rfl) (t_J1_charAt_3b067 E _ e12 isR_rfl) ?_
    obtain ⟨z14, e15, hf⟩ := ob hf
    obtain ⟨rfl, rfl⟩ := y1 hf
    exact mw_ireturn dJ0_charAt_5068e_15 rfl (nwk_of e15) hk
def f_J0_coder_7d493 (a0 : Nat) (h : Hp) : Option (Int32 × Hp) :=
  b1 ((if (1 : Int32) = (0 : Int32) then
      some (1, h)
    else
      (sCd (some a0)).bind fun x4 =>
      some (x4, h) : Option (Int32 × Hp))) fun w6 h7 =>
  (nwk .byte w6).bind fun z9 =>
  some (w6, h7)
set_option maxHeartbeats 4000000 in
theorem t_J0_coder_7d493 (E : En) (d : Nat) {mc ms : Nat} {a0 : Nat} {h h' : Hp} {r : Int32} {K : Option Vv → Hp → Prop} (hf : f_J0_coder_7d493 a0 h = some (r, h')) (hk : K (some (vi r)) h') : MC E m_J0_coder_7d493 (d + 0) mc ms [vq (some a0)] h K := by
  unfold f_J0_coder_7d493 at hf
  show MW E m_J0_coder_7d493 (d + 0) mc ms 0 [some (vq (some a0))] [] h K
  refine mw_getsC dJ0_coder_7d493_0 xf_RJ0_38 ?_
  obtain ⟨w6, h7, r8, hf⟩ := ob1 hf
  have J11 : MW E m_J0_coder_7d493 (d + 0) mc ms 14 [none] [vi w6] h7 K := by
    obtain ⟨z9, e10, hf⟩ := ob hf
    obtain ⟨rfl, rfl⟩ := y1 hf
    exact mw_ireturn dJ0_coder_7d493_14 rfl (nwk_of e10) hk
  refine mw_if_eq (tgt := 13) dJ0_coder_7d493_3 rfl (fun c1 => ?_) (fun c1 => ?_)
  · rw [if_pos c1] at r8
    refine mw_iconst (v := 1) dJ0_coder_7d493_13 (by decide) ?_
    obtain ⟨rfl, rfl⟩ := y1 r8
    exact MW.sub (subL_n subL_nil) J11
  · rw [if_neg c1] at r8
    refine mw_aload_n (x := (some a0)) dJ0_coder_7d493_6 rfl ?_
    obtain ⟨x4, e5, r8⟩ := ob r8
    refine ml_sCd dJ0_coder_7d493_7 xf_RJ0_15 e5 ?_
    refine mw_goto (tgt := 14) dJ0_coder_7d493_10 rfl ?_
    obtain ⟨rfl, rfl⟩ := y1 r8
    exact MW.sub (subL_n subL_nil) J11
def f_J0_length_8abf5 (a0 : Nat) (h : Hp) : Option (Int32 × Hp) :=
  (sVl (some a0)).bind fun x1 =>
  (sAl x1).bind fun x3 =>
  (rcS (some a0)).bind fun g7 =>
  b1 (f_J0_coder_7d493 g7 h) fun x9 h5 =>
  some ((x3 >>> (x9 &&& 31)), h5)
set_option maxHeartbeats 4000000 in
theorem t_J0_length_8abf5 (E : En) (d : Nat) {mc ms : Nat} {a0 : Nat} {h h' : Hp} {r : Int32} {K : Option Vv → Hp → Prop} (hf : f_J0_length_8abf5 a0 h = some (r, h')) (hk : K (some (vi r)) h') : MC E m_J0_length_8abf5 (d + 1) mc ms [vq (some a0)] h K := by
  unfold f_J0_length_8abf5 at hf
  show MW E m_J0_length_8abf5 (d + 1) mc ms 0 [some (vq (some a0))] [] h K
  refine mw_aload_n (x := (some a0)) dJ0_length_8abf5_0 rfl ?_
  obtain ⟨x1, e2, hf⟩ := ob hf
  refine ml_sVl dJ0_length_8abf5_1 xf_RJ0_9 e2 ?_
  obtain ⟨x3, e4, hf⟩ := ob hf
  refine ml_sAl dJ0_length_8abf5_4 e4 ?_
  refine mw_aload_n (x := (some a0)) dJ0_length_8abf5_5 rfl ?_
  obtain ⟨g7, e8, hf⟩ := ob hf
  obtain ⟨x9, h5, e6, hf⟩ := ob1 hf
  refine ml_callVS (mc' := 0) (ms' := 0) [] dJ0_length_8abf5_6 mk_J0_coder_7d493 lk_RJ0_335 im_J0_coder_7d493 se_J0_coder_7d493 e8 rfl (Nat.le_of_ble_eq_true rfl) (Nat.le_of_ble_eq_true rfl) (t_J0_coder_7d493 E _ e6 isR_rfl) ?_
  refine mw_ishr dJ0_length_8abf5_9 ?_
  obtain ⟨rfl, rfl⟩ := y1 hf
  exact mw_ireturn dJ0_length_8abf5_10 rfl rfl hk
def f_J1_canEncode_9a6ad (v0 : Int32) (h : Hp) : Option (Int32 × Hp) :=
  b1 ((if v0 < (0 : Int32) then
      some (0, h)
    else
      if (255 : Int32) < v0 then
        some (0, h)
      else
        some (1, h) : Option (Int32 × Hp))) fun w4 h5 =>
  (zok w4).bind fun z7 =>
  some (w4, h5)
set_option maxHeartbeats 4000000 in
theorem t_J1_canEncode_9a6ad (E : En) (d : Nat) {mc ms : Nat} {v0 : Int32} {h h' : Hp} {r : Int32} {K : Option Vv → Hp → Prop} (hf : f_J1_canEncode_9a6ad v0 h = some (r, h')) (hk : K (some (vi r)) h') : MC E m_J1_canEncode_9a6ad (d + 0) mc ms [vi v0] h K := by
  unfold f_J1_canEncode_9a6ad at hf
  show MW E m_J1_canEncode_9a6ad (d + 0) mc ms 0 [some (vi v0)] [] h K
  refine mw_iload_n (x := v0) dJ1_canEncode_9a6ad_0 rfl ?_
  obtain ⟨w4, h5, r6, hf⟩ := ob1 hf
  have J9 : MW E m_J1_canEncode_9a6ad (d + 0) mc ms 16 [none] [vi w4] h5 K := by
    obtain ⟨z7, e8, hf⟩ := ob hf
    obtain ⟨rfl, rfl⟩ := y1 hf
    exact mw_ireturn dJ1_canEncode_9a6ad_16 rfl (zok_of e8) hk
  refine mw_if_lt (tgt := 15) dJ1_canEncode_9a6ad_1 rfl (fun c1 => ?_) (fun c1 => ?_)
  · rw [if_pos c1] at r6
    refine mw_iconst (v := 0) dJ1_canEncode_9a6ad_15 (by decide) ?_
    obtain ⟨rfl, rfl⟩ := y1 r6
    exact MW.sub (subL_n subL_nil) J9
  · rw [if_neg c1] at r6
    refine mw_iload_n (x := v0) dJ1_canEncode_9a6ad_4 rfl ?_
    refine mw_sipush (v := 255) dJ1_canEncode_9a6ad_5 (by decide) ?_
    refine mw_icmp_gt (tgt := 15) dJ1_canEncode_9a6ad_8 rfl (fun c3 => ?_) (fun c3 => ?_)
    · rw [if_pos c3] at r6
      refine mw_iconst (v := 0) dJ1_canEncode_9a6ad_15 (by decide) ?_
      obtain ⟨rfl, rfl⟩ := y1 r6
      exact MW.sub (subL_n subL_nil) J9
    · rw [if_neg c3] at r6
      refine mw_iconst (v := 1) dJ1_canEncode_9a6ad_11 (by decide) ?_
      refine mw_goto (tgt := 16) dJ1_canEncode_9a6ad_12 rfl ?_
      obtain ⟨rfl, rfl⟩ := y1 r6
      exact MW.sub (subL_n subL_nil) J9
def f_J1_indexOfChar_4cfef_L7 : Nat → Option Nat → Int32 → Int32 → Int32 → Hp → Option ((Int32 × Hp) ⊕ (Hp))
  | 0, _, _, _, _, _ => none
  | n + 1, q0, v3, v4, v5, h =>
    if v3 ≤ v5 then
      some (Sum.inr h)
    else
      (sRd q0 v5).bind fun x2 =>
      if x2 = v4 then
        some (Sum.inl (v5, h))
      else
        f_J1_indexOfChar_4cfef_L7 n q0 v3 v4 (v5 + 1) h
def f_J1_indexOfChar_4cfef (q0 : Option Nat) (v1 : Int32) (v2 : Int32) (v3 : Int32) (h : Hp) : Option (Int32 × Hp) :=
  (f_J1_indexOfChar_4cfef_L7 fu q0 v3 (v1.toInt8.toInt32) v2 h).bind (Sum.elim (c1 fun w5 h6 => some (w5, h6)) (fun h7 => some ((-1), h7)))
set_option maxHeartbeats 4000000 in
theorem tl_J1_indexOfChar_4cfef_7 (E : En) (d : Nat) {mc ms : Nat} {K : Option Vv → Hp → Prop} : ∀ (n : Nat) (q0 : Option Nat) (v3 : Int32) (v4 : Int32) (v5 : Int32) (h : Hp) (o : (Int32 × Hp) ⊕ (Hp)), f_J1_indexOfChar_4cfef_L7 n q0 v3 v4 v5 h = some o → (∀ (u5 : Int32) (hz : Hp), o = Sum.inl (u5, hz) → MW E m_J1_indexOfChar_4cfef (d + 0) mc ms 22 [none, none, none, none, none, some (vi u5)] [] hz K) → (∀ (hz : Hp), o = Sum.inr hz → MW E m_J1_indexOfChar_4cfef (d + 0) mc ms 31 [none, none, none, none, none, none] [] hz K) → MW E m_J1_indexOfChar_4cfef (d + 0) mc ms 7 [some (vq q0), none, none, some (vi v3), some (vi v4), some (vi v5)] [] h K := by
  intro n
  induction n with
  | zero => intro q0 v3 v4 v5 h o hf; exact nomatch (show none = some _ from hf)
  | succ n ih =>
    intro q0 v3 v4 v5 h o hf hX22 hX31
    rw [f_J1_indexOfChar_4cfef_L7] at hf
    refine mw_iload (x := v5) dJ1_indexOfChar_4cfef_7 rfl ?_
    refine mw_iload_n (x := v3) dJ1_indexOfChar_4cfef_9 rfl ?_
    refine mw_icmp_ge (tgt := 31) dJ1_indexOfChar_4cfef_10 rfl (fun c1 => ?_) (fun c1 => ?_)
    · rw [if_pos c1] at hf
      obtain rfl := y0 hf
      exact MW.sub (subL_n (subL_n (subL_n (subL_n (subL_n (subL_n subL_nil)))))) (hX31 _ rfl)
    · rw [if_neg c1] at hf
      refine mw_aload_n (x := q0) dJ1_indexOfChar_4cfef_13 rfl ?_
      refine mw_iload (x := v5) dJ1_indexOfChar_4cfef_14 rfl ?_
      obtain ⟨x2, e3, hf⟩ := ob hf
      refine ml_sRd dJ1_indexOfChar_4cfef_16 e3 ?_
      refine mw_iload (x := v4) dJ1_indexOfChar_4cfef_17 rfl ?_
      refine mw_icmp_ne (tgt := 25) dJ1_indexOfChar_4cfef_19 rfl (fun c4 => ?_) (fun c4 => ?_)
      · rw [if_neg c4] at hf
        refine mw_iinc (x := v5) (v := v5 + 1) dJ1_indexOfChar_4cfef_25 rfl rfl (by decide) rfl ?_
        refine mw_goto (tgt := 7) dJ1_indexOfChar_4cfef_28 rfl ?_
        exact MW.sub (subL_s (subL_n (subL_n (subL_s (subL_s (subL_s subL_nil)))))) (ih _ _ _ _ _ _ hf hX22 hX31)
      · rw [if_pos c4] at hf
        obtain rfl := y0 hf
        exact MW.sub (subL_n (subL_n (subL_n (subL_n (subL_n (subL_s subL_nil)))))) (hX22 _ _ rfl)
set_option maxHeartbeats 4000000 in
theorem t_J1_indexOfChar_4cfef (E : En) (d : Nat) {mc ms : Nat} {q0 : Option Nat} {v1 : Int32} {v2 : Int32} {v3 : Int32} {h h' : Hp} {r : Int32} {K : Option Vv → Hp → Prop} (hf : f_J1_indexOfChar_4cfef q0 v1 v2 v3 h = some (r, h')) (hk : K (some (vi r)) h') : MC E m_J1_indexOfChar_4cfef (d + 0) mc ms [vq q0, vi v1, vi v2, vi v3] h K := by
  unfold f_J1_indexOfChar_4cfef at hf
  show MW E m_J1_indexOfChar_4cfef (d + 0) mc ms 0 [some (vq q0), some (vi v1), some (vi v2), some (vi v3), none, none] [] h K
  refine mw_iload_n (x := v1) dJ1_indexOfChar_4cfef_0 rfl ?_
  refine mw_i2b dJ1_indexOfChar_4cfef_1 ?_
  refine mw_istore dJ1_indexOfChar_4cfef_2 (by decide) rfl ?_
  refine mw_iload_n (x := v2) dJ1_indexOfChar_4cfef_4 rfl ?_
  refine mw_istore dJ1_indexOfChar_4cfef_5 (by decide) rfl ?_
  obtain ⟨o9, e8, hf⟩ := ob hf
  rcases o9 with ⟨w5, h6⟩ | h7
  · have HX : MW E m_J1_indexOfChar_4cfef (d + 0) mc ms 22 [none, none, none, none, none, some (vi w5)] [] h6 K := by
      refine mw_iload (x := w5) dJ1_indexOfChar_4cfef_22 rfl ?_
      obtain ⟨rfl, rfl⟩ := y1 hf
      exact mw_ireturn dJ1_indexOfChar_4cfef_24 rfl rfl hk
    exact MW.sub (subL_s (subL_n (subL_n (subL_s (subL_s (subL_s subL_nil)))))) (tl_J1_indexOfChar_4cfef_7 E d _ _ _ _ _ _ _ e8 (fun _ _ q => by cases q; exact HX) (fun _ q => by cases q))
  · have HX : MW E m_J1_indexOfChar_4cfef (d + 0) mc ms 31 [none, none, none, none, none, none] [] h7 K := by
      refine mw_iconst (v := (-1)) dJ1_indexOfChar_4cfef_31 (by decide) ?_
      obtain ⟨rfl, rfl⟩ := y1 hf
      exact mw_ireturn dJ1_indexOfChar_4cfef_32 rfl rfl hk
    exact MW.sub (subL_s (subL_n (subL_n (subL_s (subL_s (subL_s subL_nil)))))) (tl_J1_indexOfChar_4cfef_7 E d _ _ _ _ _ _ _ e8 (fun _ _ q => by cases q) (fun _ q => by cases q; exact HX))
def f_J1_indexOf_4cfef (q0 : Option Nat) (v1 : Int32) (v2 : Int32) (v3 : Int32) (h : Hp) : Option (Int32 × Hp) :=
  b1 (f_J1_canEncode_9a6ad v1 h) fun x3 h1 =>
  if x3 = (0 : Int32) then
    some ((-1), h1)
  else
    (sAl q0).bind fun x5 =>
    if (mxI v2 (0 : Int32)) < (mnI v3 x5) then
      b1 (f_J1_indexOfChar_4cfef q0 v1 (mxI v2 (0 : Int32)) (mnI v3 x5) h1) fun x10 h8 =>
      some (x10, h8)
    else
      some ((-1), h1)
set_option maxHeartbeats 4000000 in
theorem t_J1_indexOf_4cfef (E : En) (d : Nat) {mc ms : Nat} {q0 : Option Nat} {v1 : Int32} {v2 : Int32} {v3 : Int32} {h h' : Hp} {r : Int32} {K : Option Vv → Hp → Prop} (hf : f_J1_indexOf_4cfef q0 v1 v2 v3 h = some (r, h')) (hk : K (some (vi r)) h') : MC E m_J1_indexOf_4cfef (d + 1) mc ms [vq q0, vi v1, vi v2, vi v3] h K := by
  unfold f_J1_indexOf_4cfef at hf
  show MW E m_J1_indexOf_4cfef (d + 1) mc ms 0 [some (vq q0), some (vi v1), some (vi v2), some (vi v3)] [] h K
  refine mw_iload_n (x := v1) dJ1_indexOf_4cfef_0 rfl ?_
  obtain ⟨x3, h1, e2, hf⟩ := ob1 hf
  refine ml_callS (mc' := 0) (ms' := 0) [vi v1] dJ1_indexOf_4cfef_1 mk_J1_canEncode_9a6ad lk_RJ1_88 st_J1_canEncode_9a6ad rfl (Nat.le_of_ble_eq_true rfl) (Nat.le_of_ble_eq_true rfl) (t_J1_canEncode_9a6ad E _ e2 isR_rfl) ?_
  refine mw_if_ne (tgt := 9) dJ1_indexOf_4cfef_4 rfl (fun c4 => ?_) (fun c4 => ?_)
  · rw [if_neg c4] at hf
    refine mw_iload_n (x := v2) dJ1_indexOf_4cfef_9 rfl ?_
    refine mw_iconst (v := 0) dJ1_indexOf_4cfef_10 (by decide) ?_
    refine ml_max dJ1_indexOf_4cfef_11 lk_RJ1_92 (Nat.le_of_ble_eq_true rfl) ?_
    refine mw_istore_n dJ1_indexOf_4cfef_14 (by decide) rfl ?_
    refine mw_iload_n (x := v3) dJ1_indexOf_4cfef_15 rfl ?_
    refine mw_aload_n (x := q0) dJ1_indexOf_4cfef_16 rfl ?_
    obtain ⟨x5, e6, hf⟩ := ob hf
    refine ml_sAl dJ1_indexOf_4cfef_17 e6 ?_
    refine ml_min dJ1_indexOf_4cfef_18 lk_RJ1_38 (Nat.le_of_ble_eq_true rfl) ?_
    refine mw_istore_n dJ1_indexOf_4cfef_21 (by decide) rfl ?_
    refine mw_iload_n (x := (mxI v2 (0 : Int32))) dJ1_indexOf_4cfef_22 rfl ?_
    refine mw_iload_n (x := (mnI v3 x5)) dJ1_indexOf_4cfef_23 rfl ?_
    refine mw_icmp_lt (tgt := 29) dJ1_indexOf_4cfef_24 rfl (fun c7 => ?_) (fun c7 => ?_)
    · rw [if_pos c7] at hf
      refine mw_aload_n (x := q0) dJ1_indexOf_4cfef_29 rfl ?_
      refine mw_iload_n (x := v1) dJ1_indexOf_4cfef_30 rfl ?_
      refine mw_iload_n (x := (mxI v2 (0 : Int32))) dJ1_indexOf_4cfef_31 rfl ?_
      refine mw_iload_n (x := (mnI v3 x5)) dJ1_indexOf_4cfef_32 rfl ?_
      obtain ⟨x10, h8, e9, hf⟩ := ob1 hf
      refine ml_callS (mc' := 0) (ms' := 0) [vq q0, vi v1, vi (mxI v2 (0 : Int32)), vi (mnI v3 x5)] dJ1_indexOf_4cfef_33 mk_J1_indexOfChar_4cfef lk_RJ1_95 st_J1_indexOfChar_4cfef rfl (Nat.le_of_ble_eq_true rfl) (Nat.le_of_ble_eq_true rfl) (t_J1_indexOfChar_4cfef E _ e9 isR_rfl) ?_
      obtain ⟨rfl, rfl⟩ := y1 hf
      exact mw_ireturn dJ1_indexOf_4cfef_36 rfl rfl hk
    · rw [if_neg c7] at hf
      refine mw_iconst (v := (-1)) dJ1_indexOf_4cfef_27 (by decide) ?_
      obtain ⟨rfl, rfl⟩ := y1 hf
      exact mw_ireturn dJ1_indexOf_4cfef_28 rfl rfl hk
  · rw [if_pos c4] at hf
    refine mw_iconst (v := (-1)) dJ1_indexOf_4cfef_7 (by decide) ?_
    obtain ⟨rfl, rfl⟩ := y1 hf
    exact mw_ireturn dJ1_indexOf_4cfef_8 rfl rfl hk
def f_J0_indexOf_7cf53 (a0 : Nat) (v1 : Int32) (v2 : Int32) (h : Hp) : Option (Int32 × Hp) :=
  (rcS (some a0)).bind fun g3 =>
  b1 (f_J0_isLatin1_aae02 g3 h) fun x5 h1 =>
  b1 ((if x5 = (0 : Int32) then
      (sVl (some a0)).bind fun x24 =>
      (rcS (some a0)).bind fun g28 =>
      b1 (f_J0_length_8abf5 g28 h1) fun x30 h26 =>
      none
    else
      (sVl (some a0)).bind fun x31 =>
      (rcS (some a0)).bind fun g35 =>
      b1 (f_J0_length_8abf5 g35 h1) fun x37 h33 =>
      b1 (f_J1_indexOf_4cfef x31 v1 v2 x37 h33) fun x40 h38 =>
      some (x40, h38) : Option (Int32 × Hp))) fun w41 h42 =>
  some (w41, h42)
set_option maxHeartbeats 4000000 in
theorem t_J0_indexOf_7cf53 (E : En) (d : Nat) {mc ms : Nat} {a0 : Nat} {v1 : Int32} {v2 : Int32} {h h' : Hp} {r : Int32} {K : Option Vv → Hp → Prop} (hf : f_J0_indexOf_7cf53 a0 v1 v2 h = some (r, h')) (hk : K (some (vi r)) h') : MC E m_J0_indexOf_7cf53 (d + 2) mc ms [vq (some a0), vi v1, vi v2] h K := by
  unfold f_J0_indexOf_7cf53 at hf
  show MW E m_J0_indexOf_7cf53 (d + 2) mc ms 0 [some (vq (some a0)), some (vi v1), some (vi v2)] [] h K
  refine mw_aload_n (x := (some a0)) dJ0_indexOf_7cf53_0 rfl ?_
  obtain ⟨g3, e4, hf⟩ := ob hf
  obtain ⟨x5, h1, e2, hf⟩ := ob1 hf
  refine ml_callVS (mc' := 0) (ms' := 0) [] dJ0_indexOf_7cf53_1 mk_J0_isLatin1_aae02 lk_RJ0_492 im_J0_isLatin1_aae02 se_J0_isLatin1_aae02 e4 rfl (Nat.le_of_ble_eq_true rfl) (Nat.le_of_ble_eq_true rfl) (t_J0_isLatin1_aae02 E _ e2 isR_rfl) ?_
  obtain ⟨w41, h42, r43, hf⟩ := ob1 hf
  have J44 : MW E m_J0_indexOf_7cf53 (d + 2) mc ms 36 [none, none, none] [vi w41] h42 K := by
    obtain ⟨rfl, rfl⟩ := y1 hf
    exact mw_ireturn dJ0_indexOf_7cf53_36 rfl rfl hk
  refine mw_if_eq (tgt := 23) dJ0_indexOf_7cf53_4 rfl (fun c6 => ?_) (fun c6 => ?_)
  · rw [if_pos c6] at r43
    refine mw_aload_n (x := (some a0)) dJ0_indexOf_7cf53_23 rfl ?_
    obtain ⟨x24, e25, r43⟩ := ob r43
    refine ml_sVl dJ0_indexOf_7cf53_24 xf_RJ0_9 e25 ?_
    refine mw_iload_n (x := v1) dJ0_indexOf_7cf53_27 rfl ?_
    refine mw_iload_n (x := v2) dJ0_indexOf_7cf53_28 rfl ?_
    refine mw_aload_n (x := (some a0)) dJ0_indexOf_7cf53_29 rfl ?_
    obtain ⟨g28, e29, r43⟩ := ob r43
    obtain ⟨x30, h26, e27, r43⟩ := ob1 r43
    refine ml_callVS (mc' := 0) (ms' := 0) [] dJ0_indexOf_7cf53_30 mk_J0_length_8abf5 lk_RJ0_505 im_J0_length_8abf5 se_J0_length_8abf5 e29 rfl (Nat.le_of_ble_eq_true rfl) (Nat.le_of_ble_eq_true rfl) (t_J0_length_8abf5 E _ e27 isR_rfl) ?_
    cases r43
  · rw [if_neg c6] at r43
    refine mw_aload_n (x := (some a0)) dJ0_indexOf_7cf53_7 rfl ?_
    obtain ⟨x31, e32, r43⟩ := ob r43
    refine ml_sVl dJ0_indexOf_7cf53_8 xf_RJ0_9 e32 ?_
    refine mw_iload_n (x := v1) dJ0_indexOf_7cf53_11 rfl ?_
    refine mw_iload_n (x := v2) dJ0_indexOf_7cf53_12 rfl ?_
    refine mw_aload_n (x := (some a0)) dJ0_indexOf_7cf53_13 rfl ?_
    obtain ⟨g35, e36, r43⟩ := ob r43
    obtain ⟨x37, h33, e34, r43⟩ := ob1 r43
    refine ml_callVS (mc' := 0) (ms' := 0) [] dJ0_indexOf_7cf53_14 mk_J0_length_8abf5 lk_RJ0_505 im_J0_length_8abf5 se_J0_length_8abf5 e36 rfl (Nat.le_of_ble_eq_true rfl) (Nat.le_of_ble_eq_true rfl) (t_J0_length_8abf5 E _ e34 isR_rfl) ?_
    obtain ⟨x40, h38, e39, r43⟩ := ob1 r43
    refine ml_callS (mc' := 0) (ms' := 0) [vq x31, vi v1, vi v2, vi x37] dJ0_indexOf_7cf53_17 mk_J1_indexOf_4cfef lk_RJ0_637 st_J1_indexOf_4cfef rfl (Nat.le_of_ble_eq_true rfl) (Nat.le_of_ble_eq_true rfl) (t_J1_indexOf_4cfef E _ e39 isR_rfl) ?_
    refine mw_goto (tgt := 36) dJ0_indexOf_7cf53_20 rfl ?_
    obtain ⟨rfl, rfl⟩ := y1 r43
    exact MW.sub (subL_n (subL_n (subL_n subL_nil))) J44
def f_J0_indexOf_0f7a4 (a0 : Nat) (v1 : Int32) (h : Hp) : Option (Int32 × Hp) :=
  (rcS (some a0)).bind fun g3 =>
  b1 (f_J0_indexOf_7cf53 g3 v1 (0 : Int32) h) fun x5 h1 =>
  some (x5, h1)
set_option maxHeartbeats 4000000 in
theorem t_J0_indexOf_0f7a4 (E : En) (d : Nat) {mc ms : Nat} {a0 : Nat} {v1 : Int32} {h h' : Hp} {r : Int32} {K : Option Vv → Hp → Prop} (hf : f_J0_indexOf_0f7a4 a0 v1 h = some (r, h')) (hk : K (some (vi r)) h') : MC E m_J0_indexOf_0f7a4 (d + 3) mc ms [vq (some a0), vi v1] h K := by
  unfold f_J0_indexOf_0f7a4 at hf
  show MW E m_J0_indexOf_0f7a4 (d + 3) mc ms 0 [some (vq (some a0)), some (vi v1)] [] h K
  refine mw_aload_n (x := (some a0)) dJ0_indexOf_0f7a4_0 rfl ?_
  refine mw_iload_n (x := v1) dJ0_indexOf_0f7a4_1 rfl ?_
  refine mw_iconst (v := 0) dJ0_indexOf_0f7a4_2 (by decide) ?_
  obtain ⟨g3, e4, hf⟩ := ob hf
  obtain ⟨x5, h1, e2, hf⟩ := ob1 hf
  refine ml_callVS (mc' := 0) (ms' := 0) [vi v1, vi (0 : Int32)] dJ0_indexOf_0f7a4_3 mk_J0_indexOf_7cf53 lk_RJ0_633 im_J0_indexOf_7cf53 se_J0_indexOf_7cf53 e4 rfl (Nat.le_of_ble_eq_true rfl) (Nat.le_of_ble_eq_true rfl) (t_J0_indexOf_7cf53 E _ e2 isR_rfl) ?_
  obtain ⟨rfl, rfl⟩ := y1 hf
  exact mw_ireturn dJ0_indexOf_0f7a4_6 rfl rfl hk
def f_J6_bitCount_0f7a4 (v0 : Int32) (h : Hp) : Option (Int32 × Hp) :=
  some (((((((((v0 - (((v0.toUInt32 >>> ((1 : Int32).toUInt32 &&& Int32.toUInt32 31)).toInt32) &&& (1431655765 : Int32))) &&& (858993459 : Int32)) + ((((v0 - (((v0.toUInt32 >>> ((1 : Int32).toUInt32 &&& Int32.toUInt32 31)).toInt32) &&& (1431655765 : Int32))).toUInt32 >>> ((2 : Int32).toUInt32 &&& Int32.toUInt32 31)).toInt32) &&& (858993459 : Int32))) + (((((v0 - (((v0.toUInt32 >>> ((1 : Int32).toUInt32 &&& Int32.toUInt32 31)).toInt32) &&& (1431655765 : Int32))) &&& (858993459 : Int32)) + ((((v0 - (((v0.toUInt32 >>> ((1 : Int32).toUInt32 &&& Int32.toUInt32 31)).toInt32) &&& (1431655765 : Int32))).toUInt32 >>> ((2 : Int32).toUInt32 &&& Int32.toUInt32 31)).toInt32) &&& (858993459 : Int32))).toUInt32 >>> ((4 : Int32).toUInt32 &&& Int32.toUInt32 31)).toInt32)) &&& (252645135 : Int32)) + (((((((v0 - (((v0.toUInt32 >>> ((1 : Int32).toUInt32 &&& Int32.toUInt32 31)).toInt32) &&& (1431655765 : Int32))) &&& (858993459 : Int32)) + ((((v0 - (((v0.toUInt32 >>> ((1 : Int32).toUInt32 &&& Int32.toUInt32 31)).toInt32) &&& (1431655765 : Int32))).toUInt32 >>> ((2 : Int32).toUInt32 &&& Int32.toUInt32 31)).toInt32) &&& (858993459 : Int32))) + (((((v0 - (((v0.toUInt32 >>> ((1 : Int32).toUInt32 &&& Int32.toUInt32 31)).toInt32) &&& (1431655765 : Int32))) &&& (858993459 : Int32)) + ((((v0 - (((v0.toUInt32 >>> ((1 : Int32).toUInt32 &&& Int32.toUInt32 31)).toInt32) &&& (1431655765 : Int32))).toUInt32 >>> ((2 : Int32).toUInt32 &&& Int32.toUInt32 31)).toInt32) &&& (858993459 : Int32))).toUInt32 >>> ((4 : Int32).toUInt32 &&& Int32.toUInt32 31)).toInt32)) &&& (252645135 : Int32)).toUInt32 >>> ((8 : Int32).toUInt32 &&& Int32.toUInt32 31)).toInt32)) + ((((((((v0 - (((v0.toUInt32 >>> ((1 : Int32).toUInt32 &&& Int32.toUInt32 31)).toInt32) &&& (1431655765 : Int32))) &&& (858993459 : Int32)) + ((((v0 - (((v0.toUInt32 >>> ((1 : Int32).toUInt32 &&& Int32.toUInt32 31)).toInt32) &&& (1431655765 : Int32))).toUInt32 >>> ((2 : Int32).toUInt32 &&& Int32.toUInt32 31)).toInt32) &&& (858993459 : Int32))) + (((((v0 - (((v0.toUInt32 >>> ((1 : Int32).toUInt32 &&& Int32.toUInt32 31)).toInt32) &&& (1431655765 : Int32))) &&& (858993459 : Int32)) + ((((v0 - (((v0.toUInt32 >>> ((1 : Int32).toUInt32 &&& Int32.toUInt32 31)).toInt32) &&& (1431655765 : Int32))).toUInt32 >>> ((2 : Int32).toUInt32 &&& Int32.toUInt32 31)).toInt32) &&& (858993459 : Int32))).toUInt32 >>> ((4 : Int32).toUInt32 &&& Int32.toUInt32 31)).toInt32)) &&& (252645135 : Int32)) + (((((((v0 - (((v0.toUInt32 >>> ((1 : Int32).toUInt32 &&& Int32.toUInt32 31)).toInt32) &&& (1431655765 : Int32))) &&& (858993459 : Int32)) + ((((v0 - (((v0.toUInt32 >>> ((1 : Int32).toUInt32 &&& Int32.toUInt32 31)).toInt32) &&& (1431655765 : Int32))).toUInt32 >>> ((2 : Int32).toUInt32 &&& Int32.toUInt32 31)).toInt32) &&& (858993459 : Int32))) + (((((v0 - (((v0.toUInt32 >>> ((1 : Int32).toUInt32 &&& Int32.toUInt32 31)).toInt32) &&& (1431655765 : Int32))) &&& (858993459 : Int32)) + ((((v0 - (((v0.toUInt32 >>> ((1 : Int32).toUInt32 &&& Int32.toUInt32 31)).toInt32) &&& (1431655765 : Int32))).toUInt32 >>> ((2 : Int32).toUInt32 &&& Int32.toUInt32 31)).toInt32) &&& (858993459 : Int32))).toUInt32 >>> ((4 : Int32).toUInt32 &&& Int32.toUInt32 31)).toInt32)) &&& (252645135 : Int32)).toUInt32 >>> ((8 : Int32).toUInt32 &&& Int32.toUInt32 31)).toInt32)).toUInt32 >>> ((16 : Int32).toUInt32 &&& Int32.toUInt32 31)).toInt32)) &&& (63 : Int32)), h)
set_option maxHeartbeats 4000000 in
theorem t_J6_bitCount_0f7a4 (E : En) (d : Nat) {mc ms : Nat} {v0 : Int32} {h h' : Hp} {r : Int32} {K : Option Vv → Hp → Prop} (hf : f_J6_bitCount_0f7a4 v0 h = some (r, h')) (hk : K (some (vi r)) h') : MC E m_J6_bitCount_0f7a4 (d + 0) mc ms [vi v0] h K := by
  unfold f_J6_bitCount_0f7a4 at hf
  show MW E m_J6_bitCount_0f7a4 (d + 0) mc ms 0 [some (vi v0)] [] h K
  refine mw_iload_n (x := v0) dJ6_bitCount_0f7a4_0 rfl ?_
  refine mw_iload_n (x := v0) dJ6_bitCount_0f7a4_1 rfl ?_
  refine mw_iconst (v := 1) dJ6_bitCount_0f7a4_2 (by decide) ?_
  refine mw_iushr dJ6_bitCount_0f7a4_3 ?_
  refine mw_ldcw dJ6_bitCount_0f7a4_4 kc_RJ6_265 ?_
  refine mw_iand dJ6_bitCount_0f7a4_7 ?_
  refine mw_isub dJ6_bitCount_0f7a4_8 ?_
  refine mw_istore_n dJ6_bitCount_0f7a4_9 (by decide) rfl ?_
  refine mw_iload_n (x := (v0 - (((v0.toUInt32 >>> ((1 : Int32).toUInt32 &&& Int32.toUInt32 31)).toInt32) &&& (1431655765 : Int32)))) dJ6_bitCount_0f7a4_10 rfl ?_
  refine mw_ldcw dJ6_bitCount_0f7a4_11 kc_RJ6_266 ?_
  refine mw_iand dJ6_bitCount_0f7a4_14 ?_
  refine mw_iload_n (x := (v0 - (((v0.toUInt32 >>> ((1 : Int32).toUInt32 &&& Int32.toUInt32 31)).toInt32) &&& (1431655765 : Int32)))) dJ6_bitCount_0f7a4_15 rfl ?_
  refine mw_iconst (v := 2) dJ6_bitCount_0f7a4_16 (by decide) ?_
  refine mw_iushr dJ6_bitCount_0f7a4_17 ?_
  refine mw_ldcw dJ6_bitCount_0f7a4_18 kc_RJ6_266 ?_
  refine mw_iand dJ6_bitCount_0f7a4_21 ?_
  refine mw_iadd dJ6_bitCount_0f7a4_22 ?_
  refine mw_istore_n dJ6_bitCount_0f7a4_23 (by decide) rfl ?_
  refine mw_iload_n (x := (((v0 - (((v0.toUInt32 >>> ((1 : Int32).toUInt32 &&& Int32.toUInt32 31)).toInt32) &&& (1431655765 : Int32))) &&& (858993459 : Int32)) + ((((v0 - (((v0.toUInt32 >>> ((1 : Int32).toUInt32 &&& Int32.toUInt32 31)).toInt32) &&& (1431655765 : Int32))).toUInt32 >>> ((2 : Int32).toUInt32 &&& Int32.toUInt32 31)).toInt32) &&& (858993459 : Int32)))) dJ6_bitCount_0f7a4_24 rfl ?_
  refine mw_iload_n (x := (((v0 - (((v0.toUInt32 >>> ((1 : Int32).toUInt32 &&& Int32.toUInt32 31)).toInt32) &&& (1431655765 : Int32))) &&& (858993459 : Int32)) + ((((v0 - (((v0.toUInt32 >>> ((1 : Int32).toUInt32 &&& Int32.toUInt32 31)).toInt32) &&& (1431655765 : Int32))).toUInt32 >>> ((2 : Int32).toUInt32 &&& Int32.toUInt32 31)).toInt32) &&& (858993459 : Int32)))) dJ6_bitCount_0f7a4_25 rfl ?_
  refine mw_iconst (v := 4) dJ6_bitCount_0f7a4_26 (by decide) ?_
  refine mw_iushr dJ6_bitCount_0f7a4_27 ?_
  refine mw_iadd dJ6_bitCount_0f7a4_28 ?_
  refine mw_ldcw dJ6_bitCount_0f7a4_29 kc_RJ6_267 ?_
  refine mw_iand dJ6_bitCount_0f7a4_32 ?_
  refine mw_istore_n dJ6_bitCount_0f7a4_33 (by decide) rfl ?_
  refine mw_iload_n (x := (((((v0 - (((v0.toUInt32 >>> ((1 : Int32).toUInt32 &&& Int32.toUInt32 31)).toInt32) &&& (1431655765 : Int32))) &&& (858993459 : Int32)) + ((((v0 - (((v0.toUInt32 >>> ((1 : Int32).toUInt32 &&& Int32.toUInt32 31)).toInt32) &&& (1431655765 : Int32))).toUInt32 >>> ((2 : Int32).toUInt32 &&& Int32.toUInt32 31)).toInt32) &&& (858993459 : Int32))) + (((((v0 - (((v0.toUInt32 >>> ((1 : Int32).toUInt32 &&& Int32.toUInt32 31)).toInt32) &&& (1431655765 : Int32))) &&& (858993459 : Int32)) + ((((v0 - (((v0.toUInt32 >>> ((1 : Int32).toUInt32 &&& Int32.toUInt32 31)).toInt32) &&& (1431655765 : Int32))).toUInt32 >>> ((2 : Int32).toUInt32 &&& Int32.toUInt32 31)).toInt32) &&& (858993459 : Int32))).toUInt32 >>> ((4 : Int32).toUInt32 &&& Int32.toUInt32 31)).toInt32)) &&& (252645135 : Int32))) dJ6_bitCount_0f7a4_34 rfl ?_
  refine mw_iload_n (x := (((((v0 - (((v0.toUInt32 >>> ((1 : Int32).toUInt32 &&& Int32.toUInt32 31)).toInt32) &&& (1431655765 : Int32))) &&& (858993459 : Int32)) + ((((v0 - (((v0.toUInt32 >>> ((1 : Int32).toUInt32 &&& Int32.toUInt32 31)).toInt32) &&& (1431655765 : Int32))).toUInt32 >>> ((2 : Int32).toUInt32 &&& Int32.toUInt32 31)).toInt32) &&& (858993459 : Int32))) + (((((v0 - (((v0.toUInt32 >>> ((1 : Int32).toUInt32 &&& Int32.toUInt32 31)).toInt32) &&& (1431655765 : Int32))) &&& (858993459 : Int32)) + ((((v0 - (((v0.toUInt32 >>> ((1 : Int32).toUInt32 &&& Int32.toUInt32 31)).toInt32) &&& (1431655765 : Int32))).toUInt32 >>> ((2 : Int32).toUInt32 &&& Int32.toUInt32 31)).toInt32) &&& (858993459 : Int32))).toUInt32 >>> ((4 : Int32).toUInt32 &&& Int32.toUInt32 31)).toInt32)) &&& (252645135 : Int32))) dJ6_bitCount_0f7a4_35 rfl ?_
  refine mw_bipush (v := 8) dJ6_bitCount_0f7a4_36 (by decide) ?_
  refine mw_iushr dJ6_bitCount_0f7a4_38 ?_
  refine mw_iadd dJ6_bitCount_0f7a4_39 ?_
  refine mw_istore_n dJ6_bitCount_0f7a4_40 (by decide) rfl ?_
  refine mw_iload_n (x := ((((((v0 - (((v0.toUInt32 >>> ((1 : Int32).toUInt32 &&& Int32.toUInt32 31)).toInt32) &&& (1431655765 : Int32))) &&& (858993459 : Int32)) + ((((v0 - (((v0.toUInt32 >>> ((1 : Int32).toUInt32 &&& Int32.toUInt32 31)).toInt32) &&& (1431655765 : Int32))).toUInt32 >>> ((2 : Int32).toUInt32 &&& Int32.toUInt32 31)).toInt32) &&& (858993459 : Int32))) + (((((v0 - (((v0.toUInt32 >>> ((1 : Int32).toUInt32 &&& Int32.toUInt32 31)).toInt32) &&& (1431655765 : Int32))) &&& (858993459 : Int32)) + ((((v0 - (((v0.toUInt32 >>> ((1 : Int32).toUInt32 &&& Int32.toUInt32 31)).toInt32) &&& (1431655765 : Int32))).toUInt32 >>> ((2 : Int32).toUInt32 &&& Int32.toUInt32 31)).toInt32) &&& (858993459 : Int32))).toUInt32 >>> ((4 : Int32).toUInt32 &&& Int32.toUInt32 31)).toInt32)) &&& (252645135 : Int32)) + (((((((v0 - (((v0.toUInt32 >>> ((1 : Int32).toUInt32 &&& Int32.toUInt32 31)).toInt32) &&& (1431655765 : Int32))) &&& (858993459 : Int32)) + ((((v0 - (((v0.toUInt32 >>> ((1 : Int32).toUInt32 &&& Int32.toUInt32 31)).toInt32) &&& (1431655765 : Int32))).toUInt32 >>> ((2 : Int32).toUInt32 &&& Int32.toUInt32 31)).toInt32) &&& (858993459 : Int32))) + (((((v0 - (((v0.toUInt32 >>> ((1 : Int32).toUInt32 &&& Int32.toUInt32 31)).toInt32) &&& (1431655765 : Int32))) &&& (858993459 : Int32)) + ((((v0 - (((v0.toUInt32 >>> ((1 : Int32).toUInt32 &&& Int32.toUInt32 31)).toInt32) &&& (1431655765 : Int32))).toUInt32 >>> ((2 : Int32).toUInt32 &&& Int32.toUInt32 31)).toInt32) &&& (858993459 : Int32))).toUInt32 >>> ((4 : Int32).toUInt32 &&& Int32.toUInt32 31)).toInt32)) &&& (252645135 : Int32)).toUInt32 >>> ((8 : Int32).toUInt32 &&& Int32.toUInt32 31)).toInt32))) dJ6_bitCount_0f7a4_41 rfl ?_
  refine mw_iload_n (x := ((((((v0 - (((v0.toUInt32 >>> ((1 : Int32).toUInt32 &&& Int32.toUInt32 31)).toInt32) &&& (1431655765 : Int32))) &&& (858993459 : Int32)) + ((((v0 - (((v0.toUInt32 >>> ((1 : Int32).toUInt32 &&& Int32.toUInt32 31)).toInt32) &&& (1431655765 : Int32))).toUInt32 >>> ((2 : Int32).toUInt32 &&& Int32.toUInt32 31)).toInt32) &&& (858993459 : Int32))) + (((((v0 - (((v0.toUInt32 >>> ((1 : Int32).toUInt32 &&& Int32.toUInt32 31)).toInt32) &&& (1431655765 : Int32))) &&& (858993459 : Int32)) + ((((v0 - (((v0.toUInt32 >>> ((1 : Int32).toUInt32 &&& Int32.toUInt32 31)).toInt32) &&& (1431655765 : Int32))).toUInt32 >>> ((2 : Int32).toUInt32 &&& Int32.toUInt32 31)).toInt32) &&& (858993459 : Int32))).toUInt32 >>> ((4 : Int32).toUInt32 &&& Int32.toUInt32 31)).toInt32)) &&& (252645135 : Int32)) + (((((((v0 - (((v0.toUInt32 >>> ((1 : Int32).toUInt32 &&& Int32.toUInt32 31)).toInt32) &&& (1431655765 : Int32))) &&& (858993459 : Int32)) + ((((v0 - (((v0.toUInt32 >>> ((1 : Int32).toUInt32 &&& Int32.toUInt32 31)).toInt32) &&& (1431655765 : Int32))).toUInt32 >>> ((2 : Int32).toUInt32 &&& Int32.toUInt32 31)).toInt32) &&& (858993459 : Int32))) + (((((v0 - (((v0.toUInt32 >>> ((1 : Int32).toUInt32 &&& Int32.toUInt32 31)).toInt32) &&& (1431655765 : Int32))) &&& (858993459 : Int32)) + ((((v0 - (((v0.toUInt32 >>> ((1 : Int32).toUInt32 &&& Int32.toUInt32 31)).toInt32) &&& (1431655765 : Int32))).toUInt32 >>> ((2 : Int32).toUInt32 &&& Int32.toUInt32 31)).toInt32) &&& (858993459 : Int32))).toUInt32 >>> ((4 : Int32).toUInt32 &&& Int32.toUInt32 31)).toInt32)) &&& (252645135 : Int32)).toUInt32 >>> ((8 : Int32).toUInt32 &&& Int32.toUInt32 31)).toInt32))) dJ6_bitCount_0f7a4_42 rfl ?_
  refine mw_bipush (v := 16) dJ6_bitCount_0f7a4_43 (by decide) ?_
  refine mw_iushr dJ6_bitCount_0f7a4_45 ?_
  refine mw_iadd dJ6_bitCount_0f7a4_46 ?_
  refine mw_istore_n dJ6_bitCount_0f7a4_47 (by decide) rfl ?_
  refine mw_iload_n (x := (((((((v0 - (((v0.toUInt32 >>> ((1 : Int32).toUInt32 &&& Int32.toUInt32 31)).toInt32) &&& (1431655765 : Int32))) &&& (858993459 : Int32)) + ((((v0 - (((v0.toUInt32 >>> ((1 : Int32).toUInt32 &&& Int32.toUInt32 31)).toInt32) &&& (1431655765 : Int32))).toUInt32 >>> ((2 : Int32).toUInt32 &&& Int32.toUInt32 31)).toInt32) &&& (858993459 : Int32))) + (((((v0 - (((v0.toUInt32 >>> ((1 : Int32).toUInt32 &&& Int32.toUInt32 31)).toInt32) &&& (1431655765 : Int32))) &&& (858993459 : Int32)) + ((((v0 - (((v0.toUInt32 >>> ((1 : Int32).toUInt32 &&& Int32.toUInt32 31)).toInt32) &&& (1431655765 : Int32))).toUInt32 >>> ((2 : Int32).toUInt32 &&& Int32.toUInt32 31)).toInt32) &&& (858993459 : Int32))).toUInt32 >>> ((4 : Int32).toUInt32 &&& Int32.toUInt32 31)).toInt32)) &&& (252645135 : Int32)) + (((((((v0 - (((v0.toUInt32 >>> ((1 : Int32).toUInt32 &&& Int32.toUInt32 31)).toInt32) &&& (1431655765 : Int32))) &&& (858993459 : Int32)) + ((((v0 - (((v0.toUInt32 >>> ((1 : Int32).toUInt32 &&& Int32.toUInt32 31)).toInt32) &&& (1431655765 : Int32))).toUInt32 >>> ((2 : Int32).toUInt32 &&& Int32.toUInt32 31)).toInt32) &&& (858993459 : Int32))) + (((((v0 - (((v0.toUInt32 >>> ((1 : Int32).toUInt32 &&& Int32.toUInt32 31)).toInt32) &&& (1431655765 : Int32))) &&& (858993459 : Int32)) + ((((v0 - (((v0.toUInt32 >>> ((1 : Int32).toUInt32 &&& Int32.toUInt32 31)).toInt32) &&& (1431655765 : Int32))).toUInt32 >>> ((2 : Int32).toUInt32 &&& Int32.toUInt32 31)).toInt32) &&& (858993459 : Int32))).toUInt32 >>> ((4 : Int32).toUInt32 &&& Int32.toUInt32 31)).toInt32)) &&& (252645135 : Int32)).toUInt32 >>> ((8 : Int32).toUInt32 &&& Int32.toUInt32 31)).toInt32)) + ((((((((v0 - (((v0.toUInt32 >>> ((1 : Int32).toUInt32 &&& Int32.toUInt32 31)).toInt32) &&& (1431655765 : Int32))) &&& (858993459 : Int32)) + ((((v0 - (((v0.toUInt32 >>> ((1 : Int32).toUInt32 &&& Int32.toUInt32 31)).toInt32) &&& (1431655765 : Int32))).toUInt32 >>> ((2 : Int32).toUInt32 &&& Int32.toUInt32 31)).toInt32) &&& (858993459 : Int32))) + (((((v0 - (((v0.toUInt32 >>> ((1 : Int32).toUInt32 &&& Int32.toUInt32 31)).toInt32) &&& (1431655765 : Int32))) &&& (858993459 : Int32)) + ((((v0 - (((v0.toUInt32 >>> ((1 : Int32).toUInt32 &&& Int32.toUInt32 31)).toInt32) &&& (1431655765 : Int32))).toUInt32 >>> ((2 : Int32).toUInt32 &&& Int32.toUInt32 31)).toInt32) &&& (858993459 : Int32))).toUInt32 >>> ((4 : Int32).toUInt32 &&& Int32.toUInt32 31)).toInt32)) &&& (252645135 : Int32)) + (((((((v0 - (((v0.toUInt32 >>> ((1 : Int32).toUInt32 &&& Int32.toUInt32 31)).toInt32) &&& (1431655765 : Int32))) &&& (858993459 : Int32)) + ((((v0 - (((v0.toUInt32 >>> ((1 : Int32).toUInt32 &&& Int32.toUInt32 31)).toInt32) &&& (1431655765 : Int32))).toUInt32 >>> ((2 : Int32).toUInt32 &&& Int32.toUInt32 31)).toInt32) &&& (858993459 : Int32))) + (((((v0 - (((v0.toUInt32 >>> ((1 : Int32).toUInt32 &&& Int32.toUInt32 31)).toInt32) &&& (1431655765 : Int32))) &&& (858993459 : Int32)) + ((((v0 - (((v0.toUInt32 >>> ((1 : Int32).toUInt32 &&& Int32.toUInt32 31)).toInt32) &&& (1431655765 : Int32))).toUInt32 >>> ((2 : Int32).toUInt32 &&& Int32.toUInt32 31)).toInt32) &&& (858993459 : Int32))).toUInt32 >>> ((4 : Int32).toUInt32 &&& Int32.toUInt32 31)).toInt32)) &&& (252645135 : Int32)).toUInt32 >>> ((8 : Int32).toUInt32 &&& Int32.toUInt32 31)).toInt32)).toUInt32 >>> ((16 : Int32).toUInt32 &&& Int32.toUInt32 31)).toInt32))) dJ6_bitCount_0f7a4_48 rfl ?_
  refine mw_bipush (v := 63) dJ6_bitCount_0f7a4_49 (by decide) ?_
  refine mw_iand dJ6_bitCount_0f7a4_51 ?_
  obtain ⟨rfl, rfl⟩ := y1 hf
  exact mw_ireturn dJ6_bitCount_0f7a4_52 rfl rfl hk
def f_J7_copyOf_59c91 (q0 : Option Nat) (v1 : Int32) (h : Hp) : Option (Option Nat × Hp) :=
  (aln h q0 10).bind fun x1 =>
  if v1 = x1 then
    none
  else
    (nln v1 900).bind fun n4 =>
    (aln (nw h 10 n4) q0 10).bind fun x6 =>
    (cpI (nw h 10 n4) q0 0 (some h.1.length) 0 (mnI x6 v1)).bind fun h8 =>
    some ((some h.1.length), h8)
set_option maxHeartbeats 4000000 in
theorem t_J7_copyOf_59c91 (E : En) (d : Nat) {q0 : Option Nat} {v1 : Int32} {h h' : Hp} {r : Option Nat} {K : Option Vv → Hp → Prop} (hf : f_J7_copyOf_59c91 q0 v1 h = some (r, h')) (hk : K (some (vq r)) h') : MC E m_J7_copyOf_59c91 (d + 1) 1 900 [vq q0, vi v1] h K := by
  unfold f_J7_copyOf_59c91 at hf
  show MW E m_J7_copyOf_59c91 (d + 1) 1 900 0 [some (vq q0), some (vi v1), none] [] h K
  refine mw_iload_n (x := v1) dJ7_copyOf_59c91_0 rfl ?_
  refine mw_aload_n (x := q0) dJ7_copyOf_59c91_1 rfl ?_
  obtain ⟨x1, e2, hf⟩ := ob hf
  refine ml_alen dJ7_copyOf_59c91_2 e2 (by decide) (by decide) ?_
  refine mw_icmp_ne (tgt := 14) dJ7_copyOf_59c91_3 rfl (fun c3 => ?_) (fun c3 => ?_)
  · rw [if_neg c3] at hf
    refine mw_iload_n (x := v1) dJ7_copyOf_59c91_14 rfl ?_
    obtain ⟨n4, e5, hf⟩ := ob hf
    refine ml_newa (kd := 10) (most := 900) (mc := 0) (ms := 0) dJ7_copyOf_59c91_15 rfl (by decide) ac_int (by decide) e5 ?_
    refine mw_astore_n dJ7_copyOf_59c91_17 (by decide) rfl ?_
    refine mw_aload_n (x := q0) dJ7_copyOf_59c91_18 rfl ?_
    refine mw_iconst (v := 0) dJ7_copyOf_59c91_19 (by decide) ?_
    refine mw_aload_n (x := (some h.1.length)) dJ7_copyOf_59c91_20 rfl ?_
    refine mw_iconst (v := 0) dJ7_copyOf_59c91_21 (by decide) ?_
    refine mw_aload_n (x := q0) dJ7_copyOf_59c91_22 rfl ?_
    obtain ⟨x6, e7, hf⟩ := ob hf
    refine ml_alen dJ7_copyOf_59c91_23 e7 (by decide) (by decide) ?_
    refine mw_iload_n (x := v1) dJ7_copyOf_59c91_24 rfl ?_
    refine ml_min dJ7_copyOf_59c91_25 lk_RJ7_304 (Nat.le_of_ble_eq_true rfl) ?_
    obtain ⟨h8, e9, hf⟩ := ob hf
    refine ml_copy dJ7_copyOf_59c91_28 lk_RJ7_150 cp_nt cp_st cp_in (Nat.le_of_ble_eq_true rfl) e9 ?_
    refine mw_aload_n (x := (some h.1.length)) dJ7_copyOf_59c91_31 rfl ?_
    obtain ⟨rfl, rfl⟩ := y1 hf
    exact mw_areturn dJ7_copyOf_59c91_32 rfl (Or.inr ⟨_, rfl⟩) hk
  · rw [if_pos c3] at hf
    refine mw_aload_n (x := q0) dJ7_copyOf_59c91_6 rfl ?_
    cases hf
def f_J7_fill_53178_L5 : Nat → Option Nat → Int32 → Int32 → Int32 → Hp → Option ((Hp))
  | 0, _, _, _, _, _ => none
  | n + 1, q0, v1, v2, v3, h =>
    if v3 ≤ v2 then
      some h
    else
      (wrI h q0 v2 v1).bind fun h4 =>
      f_J7_fill_53178_L5 n q0 v1 (v2 + 1) v3 h4
def f_J7_fill_53178 (q0 : Option Nat) (v1 : Int32) (h : Hp) : Option (Hp) :=
  (aln h q0 10).bind fun x1 =>
  (f_J7_fill_53178_L5 fu q0 v1 0 x1 h).bind fun h6 =>
  some h6
set_option maxHeartbeats 4000000 in
theorem tl_J7_fill_53178_5 (E : En) (d : Nat) {mc ms : Nat} {K : Option Vv → Hp → Prop} : ∀ (n : Nat) (q0 : Option Nat) (v1 : Int32) (v2 : Int32) (v3 : Int32) (h : Hp) (hz : Hp), f_J7_fill_53178_L5 n q0 v1 v2 v3 h = some hz → MW E m_J7_fill_53178 (d + 0) mc ms 20 [none, none, none, none] [] hz K → MW E m_J7_fill_53178 (d + 0) mc ms 5 [some (vq q0), some (vi v1), some (vi v2), some (vi v3)] [] h K := by
  intro n
  induction n with
  | zero => intro q0 v1 v2 v3 h hz hf; exact nomatch (show none = some _ from hf)
  | succ n ih =>
    intro q0 v1 v2 v3 h hz hf hX20
    rw [f_J7_fill_53178_L5] at hf
    refine mw_iload_n (x := v2) dJ7_fill_53178_5 rfl ?_
    refine mw_iload_n (x := v3) dJ7_fill_53178_6 rfl ?_
    refine mw_icmp_ge (tgt := 20) dJ7_fill_53178_7 rfl (fun c3 => ?_) (fun c3 => ?_)
    · rw [if_pos c3] at hf
      obtain rfl := y0 hf
      exact MW.sub (subL_n (subL_n (subL_n (subL_n subL_nil)))) hX20
    · rw [if_neg c3] at hf
      refine mw_aload_n (x := q0) dJ7_fill_53178_10 rfl ?_
      refine mw_iload_n (x := v2) dJ7_fill_53178_11 rfl ?_
      refine mw_iload_n (x := v1) dJ7_fill_53178_12 rfl ?_
      obtain ⟨h4, e5, hf⟩ := ob hf
      refine ml_iast dJ7_fill_53178_13 e5 ?_
      refine mw_iinc (x := v2) (v := v2 + 1) dJ7_fill_53178_14 rfl rfl (by decide) rfl ?_
      refine mw_goto (tgt := 5) dJ7_fill_53178_17 rfl ?_
      exact MW.sub (subL_s (subL_s (subL_s (subL_s subL_nil)))) (ih _ _ _ _ _ _ hf hX20)
set_option maxHeartbeats 4000000 in
theorem t_J7_fill_53178 (E : En) (d : Nat) {mc ms : Nat} {q0 : Option Nat} {v1 : Int32} {h h' : Hp} {K : Option Vv → Hp → Prop} (hf : f_J7_fill_53178 q0 v1 h = some h') (hk : K none h') : MC E m_J7_fill_53178 (d + 0) mc ms [vq q0, vi v1] h K := by
  unfold f_J7_fill_53178 at hf
  show MW E m_J7_fill_53178 (d + 0) mc ms 0 [some (vq q0), some (vi v1), none, none] [] h K
  refine mw_iconst (v := 0) dJ7_fill_53178_0 (by decide) ?_
  refine mw_istore_n dJ7_fill_53178_1 (by decide) rfl ?_
  refine mw_aload_n (x := q0) dJ7_fill_53178_2 rfl ?_
  obtain ⟨x1, e2, hf⟩ := ob hf
  refine ml_alen dJ7_fill_53178_3 e2 (by decide) (by decide) ?_
  refine mw_istore_n dJ7_fill_53178_4 (by decide) rfl ?_
  obtain ⟨h6, e7, hf⟩ := ob hf
  refine MW.sub (subL_s (subL_s (subL_s (subL_s subL_nil)))) (tl_J7_fill_53178_5 E d _ _ _ _ _ _ _ e7 ?_)
  obtain rfl := y0 hf
  exact mw_return dJ7_fill_53178_20 rfl hk
def f_X8_within (v0 : Int32) (v1 : Int32) (v2 : Int32) (h : Hp) : Option (Int32 × Hp) :=
  b1 ((if v0 < v1 then
      some (0, h)
    else
      if v2 < v0 then
        some (0, h)
      else
        some (1, h) : Option (Int32 × Hp))) fun w4 h5 =>
  (zok w4).bind fun z7 =>
  some (w4, h5)
set_option maxHeartbeats 4000000 in
theorem t_X8_within (E : En) (d : Nat) {mc ms : Nat} {v0 : Int32} {v1 : Int32} {v2 : Int32} {h h' : Hp} {r : Int32} {K : Option Vv → Hp → Prop} (hf : f_X8_within v0 v1 v2 h = some (r, h')) (hk : K (some (vi r)) h') : MC E m_X8_within (d + 0) mc ms [vi v0, vi v1, vi v2] h K := by
  unfold f_X8_within at hf
  show MW E m_X8_within (d + 0) mc ms 0 [some (vi v0), some (vi v1), some (vi v2)] [] h K
  refine mw_iload_n (x := v0) dX8_within_0 rfl ?_
  refine mw_iload_n (x := v1) dX8_within_1 rfl ?_
  obtain ⟨w4, h5, r6, hf⟩ := ob1 hf
  have J9 : MW E m_X8_within (d + 0) mc ms 15 [none, none, none] [vi w4] h5 K := by
    obtain ⟨z7, e8, hf⟩ := ob hf
    obtain ⟨rfl, rfl⟩ := y1 hf
    exact mw_ireturn dX8_within_15 rfl (zok_of e8) hk
  refine mw_icmp_lt (tgt := 14) dX8_within_2 rfl (fun c1 => ?_) (fun c1 => ?_)
  · rw [if_pos c1] at r6
    refine mw_iconst (v := 0) dX8_within_14 (by decide) ?_
    obtain ⟨rfl, rfl⟩ := y1 r6
    exact MW.sub (subL_n (subL_n (subL_n subL_nil))) J9
  · rw [if_neg c1] at r6
    refine mw_iload_n (x := v0) dX8_within_5 rfl ?_
    refine mw_iload_n (x := v2) dX8_within_6 rfl ?_
    refine mw_icmp_gt (tgt := 14) dX8_within_7 rfl (fun c3 => ?_) (fun c3 => ?_)
    · rw [if_pos c3] at r6
      refine mw_iconst (v := 0) dX8_within_14 (by decide) ?_
      obtain ⟨rfl, rfl⟩ := y1 r6
      exact MW.sub (subL_n (subL_n (subL_n subL_nil))) J9
    · rw [if_neg c3] at r6
      refine mw_iconst (v := 1) dX8_within_10 (by decide) ?_
      refine mw_goto (tgt := 15) dX8_within_11 rfl ?_
      obtain ⟨rfl, rfl⟩ := y1 r6
      exact MW.sub (subL_n (subL_n (subL_n subL_nil))) J9
def f_X8_at (q0 : Option Nat) (v1 : Int32) (h : Hp) : Option (Int32 × Hp) :=
  b1 ((if v1 < (0 : Int32) then
      some (0, h)
    else
      (aln h q0 10).bind fun x7 =>
      if x7 ≤ v1 then
        some (0, h)
      else
        (rdI h q0 10 v1).bind fun x10 =>
        some (x10, h) : Option (Int32 × Hp))) fun w12 h13 =>
  some (w12, h13)
set_option maxHeartbeats 4000000 in
theorem t_X8_at (E : En) (d : Nat) {mc ms : Nat} {q0 : Option Nat} {v1 : Int32} {h h' : Hp} {r : Int32} {K : Option Vv → Hp → Prop} (hf : f_X8_at q0 v1 h = some (r, h')) (hk : K (some (vi r)) h') : MC E m_X8_at (d + 0) mc ms [vq q0, vi v1] h K := by
  unfold f_X8_at at hf
  show MW E m_X8_at (d + 0) mc ms 0 [some (vq q0), some (vi v1)] [] h K
  refine mw_iload_n (x := v1) dX8_at_0 rfl ?_
  obtain ⟨w12, h13, r14, hf⟩ := ob1 hf
  have J15 : MW E m_X8_at (d + 0) mc ms 17 [none, none] [vi w12] h13 K := by
    obtain ⟨rfl, rfl⟩ := y1 hf
    exact mw_ireturn dX8_at_17 rfl rfl hk
  refine mw_if_lt (tgt := 16) dX8_at_1 rfl (fun c1 => ?_) (fun c1 => ?_)
  · rw [if_pos c1] at r14
    refine mw_iconst (v := 0) dX8_at_16 (by decide) ?_
    obtain ⟨rfl, rfl⟩ := y1 r14
    exact MW.sub (subL_n (subL_n subL_nil)) J15
  · rw [if_neg c1] at r14
    refine mw_iload_n (x := v1) dX8_at_4 rfl ?_
    refine mw_aload_n (x := q0) dX8_at_5 rfl ?_
    obtain ⟨x7, e8, r14⟩ := ob r14
    refine ml_alen dX8_at_6 e8 (by decide) (by decide) ?_
    refine mw_icmp_ge (tgt := 16) dX8_at_7 rfl (fun c9 => ?_) (fun c9 => ?_)
    · rw [if_pos c9] at r14
      refine mw_iconst (v := 0) dX8_at_16 (by decide) ?_
      obtain ⟨rfl, rfl⟩ := y1 r14
      exact MW.sub (subL_n (subL_n subL_nil)) J15
    · rw [if_neg c9] at r14
      refine mw_aload_n (x := q0) dX8_at_10 rfl ?_
      refine mw_iload_n (x := v1) dX8_at_11 rfl ?_
      obtain ⟨x10, e11, r14⟩ := ob r14
      refine ml_iald dX8_at_12 e11 ?_
      refine mw_goto (tgt := 17) dX8_at_13 rfl ?_
      obtain ⟨rfl, rfl⟩ := y1 r14
      exact MW.sub (subL_n (subL_n subL_nil)) J15
def f_X1_countsAt (a0 : Nat) (v1 : Int32) (h : Hp) : Option (Int32 × Hp) :=
  (getI h (some a0) 1 5).bind fun x1 =>
  b1 ((if v1 < x1 then
      some (0, h)
    else
      (getI h (some a0) 1 7).bind fun x10 =>
      if x10 = ((-1) : Int32) then
        some (1, h)
      else
        (getI h (some a0) 1 7).bind fun x13 =>
        if x13 ≤ v1 then
          some (0, h)
        else
          some (1, h) : Option (Int32 × Hp))) fun w16 h17 =>
  (zok w16).bind fun z19 =>
  some (w16, h17)
set_option maxHeartbeats 4000000 in
theorem t_X1_countsAt (E : En) (d : Nat) {mc ms : Nat} {a0 : Nat} {v1 : Int32} {h h' : Hp} {r : Int32} {K : Option Vv → Hp → Prop} (hf : f_X1_countsAt a0 v1 h = some (r, h')) (hk : K (some (vi r)) h') : MC E m_X1_countsAt (d + 0) mc ms [vq (some a0), vi v1] h K := by
  unfold f_X1_countsAt at hf
  show MW E m_X1_countsAt (d + 0) mc ms 0 [some (vq (some a0)), some (vi v1)] [] h K
  refine mw_aload_n (x := (some a0)) dX1_countsAt_0 rfl ?_
  obtain ⟨x1, e2, hf⟩ := ob hf
  refine ml_getI dX1_countsAt_1 fl_RX1_30 rfl e2 ?_
  refine mw_iload_n (x := v1) dX1_countsAt_4 rfl ?_
  obtain ⟨w16, h17, r18, hf⟩ := ob1 hf
  have J21 : MW E m_X1_countsAt (d + 0) mc ms 29 [none, none] [vi w16] h17 K := by
    obtain ⟨z19, e20, hf⟩ := ob hf
    obtain ⟨rfl, rfl⟩ := y1 hf
    exact mw_ireturn dX1_countsAt_29 rfl (zok_of e20) hk
  refine mw_icmp_gt (tgt := 28) dX1_countsAt_5 rfl (fun c3 => ?_) (fun c3 => ?_)
  · rw [if_pos c3] at r18
    refine mw_iconst (v := 0) dX1_countsAt_28 (by decide) ?_
    obtain ⟨rfl, rfl⟩ := y1 r18
    exact MW.sub (subL_n (subL_n subL_nil)) J21
  · rw [if_neg c3] at r18
    refine mw_aload_n (x := (some a0)) dX1_countsAt_8 rfl ?_
    obtain ⟨x10, e11, r18⟩ := ob r18
    refine ml_getI dX1_countsAt_9 fl_RX1_9 rfl e11 ?_
    refine mw_iconst (v := (-1)) dX1_countsAt_12 (by decide) ?_
    refine mw_icmp_eq (tgt := 24) dX1_countsAt_13 rfl (fun c12 => ?_) (fun c12 => ?_)
    · rw [if_pos c12] at r18
      refine mw_iconst (v := 1) dX1_countsAt_24 (by decide) ?_
      refine mw_goto (tgt := 29) dX1_countsAt_25 rfl ?_
      obtain ⟨rfl, rfl⟩ := y1 r18
      exact MW.sub (subL_n (subL_n subL_nil)) J21
    · rw [if_neg c12] at r18
      refine mw_aload_n (x := (some a0)) dX1_countsAt_16 rfl ?_
      obtain ⟨x13, e14, r18⟩ := ob r18
      refine ml_getI dX1_countsAt_17 fl_RX1_9 rfl e14 ?_
      refine mw_iload_n (x := v1) dX1_countsAt_20 rfl ?_
      refine mw_icmp_le (tgt := 28) dX1_countsAt_21 rfl (fun c15 => ?_) (fun c15 => ?_)
      · rw [if_pos c15] at r18
        refine mw_iconst (v := 0) dX1_countsAt_28 (by decide) ?_
        obtain ⟨rfl, rfl⟩ := y1 r18
        exact MW.sub (subL_n (subL_n subL_nil)) J21
      · rw [if_neg c15] at r18
        refine mw_iconst (v := 1) dX1_countsAt_24 (by decide) ?_
        refine mw_goto (tgt := 29) dX1_countsAt_25 rfl ?_
        obtain ⟨rfl, rfl⟩ := y1 r18
        exact MW.sub (subL_n (subL_n subL_nil)) J21
def f_X1_init (a0 : Nat) (v1 : Int32) (v2 : Int32) (v3 : Int32) (v4 : Int32) (v5 : Int32) (v6 : Int32) (h : Hp) : Option (Hp) :=
  (rc h (some a0) 1).bind fun g1 =>
  (putI h (some a0) 1 7 (-1)).bind fun h3 =>
  (putI h3 (some a0) 1 0 v1).bind fun h5 =>
  (putI h5 (some a0) 1 1 v2).bind fun h7 =>
  (putI h7 (some a0) 1 2 v3).bind fun h9 =>
  (putI h9 (some a0) 1 3 v4).bind fun h11 =>
  (putI h11 (some a0) 1 4 v5).bind fun h13 =>
  (putI h13 (some a0) 1 5 v6).bind fun h15 =>
  some h15
set_option maxHeartbeats 4000000 in
theorem t_X1_init (E : En) (d : Nat) {mc ms : Nat} {a0 : Nat} {v1 : Int32} {v2 : Int32} {v3 : Int32} {v4 : Int32} {v5 : Int32} {v6 : Int32} {h h' : Hp} {K : Option Vv → Hp → Prop} (hf : f_X1_init a0 v1 v2 v3 v4 v5 v6 h = some h') (hk : K none h') : MC E m_X1_init (d + 1) mc ms [vq (some a0), vi v1, vi v2, vi v3, vi v4, vi v5, vi v6] h K := by
  unfold f_X1_init at hf
  show MW E m_X1_init (d + 1) mc ms 0 [some (vq (some a0)), some (vi v1), some (vi v2), some (vi v3), some (vi v4), some (vi v5), some (vi v6)] [] h K
  refine mw_aload_n (x := (some a0)) dX1_init_0 rfl ?_
  obtain ⟨g1, e2, hf⟩ := ob hf
  refine ml_objInit dX1_init_1 lk_RX1_3 oi_im oi_cd e2 (Nat.le_of_ble_eq_true rfl) ?_
  refine mw_aload_n (x := (some a0)) dX1_init_4 rfl ?_
  refine mw_iconst (v := (-1)) dX1_init_5 (by decide) ?_
  obtain ⟨h3, e4, hf⟩ := ob hf
  refine ml_putI dX1_init_6 fl_RX1_9 (Or.inl rfl) rfl rfl e4 ?_
  refine mw_aload_n (x := (some a0)) dX1_init_9 rfl ?_
  refine mw_iload_n (x := v1) dX1_init_10 rfl ?_
  obtain ⟨h5, e6, hf⟩ := ob hf
  refine ml_putI dX1_init_11 fl_RX1_15 (Or.inr ⟨rfl, rfl, rfl⟩) rfl rfl e6 ?_
  refine mw_aload_n (x := (some a0)) dX1_init_14 rfl ?_
  refine mw_iload_n (x := v2) dX1_init_15 rfl ?_
  obtain ⟨h7, e8, hf⟩ := ob hf
  refine ml_putI dX1_init_16 fl_RX1_18 (Or.inr ⟨rfl, rfl, rfl⟩) rfl rfl e8 ?_
  refine mw_aload_n (x := (some a0)) dX1_init_19 rfl ?_
  refine mw_iload_n (x := v3) dX1_init_20 rfl ?_
  obtain ⟨h9, e10, hf⟩ := ob hf
  refine ml_putI dX1_init_21 fl_RX1_21 (Or.inr ⟨rfl, rfl, rfl⟩) rfl rfl e10 ?_
  refine mw_aload_n (x := (some a0)) dX1_init_24 rfl ?_
  refine mw_iload (x := v4) dX1_init_25 rfl ?_
  obtain ⟨h11, e12, hf⟩ := ob hf
  refine ml_putI dX1_init_27 fl_RX1_24 (Or.inr ⟨rfl, rfl, rfl⟩) rfl rfl e12 ?_
  refine mw_aload_n (x := (some a0)) dX1_init_30 rfl ?_
  refine mw_iload (x := v5) dX1_init_31 rfl ?_
  obtain ⟨h13, e14, hf⟩ := ob hf
  refine ml_putI dX1_init_33 fl_RX1_27 (Or.inr ⟨rfl, rfl, rfl⟩) rfl rfl e14 ?_
  refine mw_aload_n (x := (some a0)) dX1_init_36 rfl ?_
  refine mw_iload (x := v6) dX1_init_37 rfl ?_
  obtain ⟨h15, e16, hf⟩ := ob hf
  refine ml_putI dX1_init_39 fl_RX1_30 (Or.inr ⟨rfl, rfl, rfl⟩) rfl rfl e16 ?_
  obtain rfl := y0 hf
  exact mw_return dX1_init_42 rfl hk
def f_X3_init (a0 : Nat) (v1 : Int32) (v2 : Int32) (q3 : Option Nat) (h : Hp) : Option (Hp) :=
  (rc h (some a0) 3).bind fun g1 =>
  (putI h (some a0) 3 0 v1).bind fun h3 =>
  (putI h3 (some a0) 3 1 v2).bind fun h5 =>
  (putQ h5 (some a0) 3 2 q3).bind fun h7 =>
  some h7
set_option maxHeartbeats 4000000 in
theorem t_X3_init (E : En) (d : Nat) {mc ms : Nat} {a0 : Nat} {v1 : Int32} {v2 : Int32} {q3 : Option Nat} {h h' : Hp} {K : Option Vv → Hp → Prop} (hf : f_X3_init a0 v1 v2 q3 h = some h') (hk : K none h') : MC E m_X3_init (d + 1) mc ms [vq (some a0), vi v1, vi v2, vq q3] h K := by
  unfold f_X3_init at hf
  show MW E m_X3_init (d + 1) mc ms 0 [some (vq (some a0)), some (vi v1), some (vi v2), some (vq q3)] [] h K
  refine mw_aload_n (x := (some a0)) dX3_init_0 rfl ?_
  obtain ⟨g1, e2, hf⟩ := ob hf
  refine ml_objInit dX3_init_1 lk_RX3_1 oi_im oi_cd e2 (Nat.le_of_ble_eq_true rfl) ?_
  refine mw_aload_n (x := (some a0)) dX3_init_4 rfl ?_
  refine mw_iload_n (x := v1) dX3_init_5 rfl ?_
  obtain ⟨h3, e4, hf⟩ := ob hf
  refine ml_putI dX3_init_6 fl_RX3_7 (Or.inr ⟨rfl, rfl, rfl⟩) rfl rfl e4 ?_
  refine mw_aload_n (x := (some a0)) dX3_init_9 rfl ?_
  refine mw_iload_n (x := v2) dX3_init_10 rfl ?_
  obtain ⟨h5, e6, hf⟩ := ob hf
  refine ml_putI dX3_init_11 fl_RX3_13 (Or.inr ⟨rfl, rfl, rfl⟩) rfl rfl e6 ?_
  refine mw_aload_n (x := (some a0)) dX3_init_14 rfl ?_
  refine mw_aload_n (x := q3) dX3_init_15 rfl ?_
  obtain ⟨h7, e8, hf⟩ := ob hf
  refine ml_putQ dX3_init_16 fl_RX3_16 (Or.inr ⟨rfl, rfl, rfl⟩) rfl (Or.inr ⟨_, rfl⟩) e8 ?_
  obtain rfl := y0 hf
  exact mw_return dX3_init_19 rfl hk
def f_X0_addRule (a0 : Nat) (q1 : Option Nat) (h : Hp) : Option (Hp) :=
  (getI h (some a0) 0 1).bind fun x1 =>
  Option.bind ((if x1 < (0 : Int32) then
      some h
    else
      (getI h (some a0) 0 1).bind fun x21 =>
      (getQ h (some a0) 0 0).bind fun x23 =>
      (aln h x23 15).bind fun x25 =>
      if x25 ≤ x21 then
        some h
      else
        (getQ h (some a0) 0 0).bind fun x28 =>
        (getI h (some a0) 0 1).bind fun x30 =>
        (wrQ h x28 15 x30 q1).bind fun h32 =>
        (getI h32 (some a0) 0 1).bind fun x34 =>
        (putI h32 (some a0) 0 1 (x34 + (1 : Int32))).bind fun h36 =>
        some h36 : Option (Hp))) fun h38 =>
  some h38
set_option maxHeartbeats 4000000 in
theorem t_X0_addRule (E : En) (d : Nat) {mc ms : Nat} {a0 : Nat} {q1 : Option Nat} {h h' : Hp} {K : Option Vv → Hp → Prop} (hf : f_X0_addRule a0 q1 h = some h') (hk : K none h') : MC E m_X0_addRule (d + 0) mc ms [vq (some a0), vq q1] h K := by
  unfold f_X0_addRule at hf
  show MW E m_X0_addRule (d + 0) mc ms 0 [some (vq (some a0)), some (vq q1)] [] h K
  refine mw_aload_n (x := (some a0)) dX0_addRule_0 rfl ?_
  obtain ⟨x1, e2, hf⟩ := ob hf
  refine ml_getI dX0_addRule_1 fl_RX0_22 rfl e2 ?_
  obtain ⟨h38, r39, hf⟩ := ob hf
  have J40 : MW E m_X0_addRule (d + 0) mc ms 39 [none, none] [] h38 K := by
    obtain rfl := y0 hf
    exact mw_return dX0_addRule_39 rfl hk
  refine mw_if_lt (tgt := 39) dX0_addRule_4 rfl (fun c3 => ?_) (fun c3 => ?_)
  · rw [if_pos c3] at r39
    obtain rfl := y0 r39
    exact MW.sub (subL_n (subL_n subL_nil)) J40
  · rw [if_neg c3] at r39
    refine mw_aload_n (x := (some a0)) dX0_addRule_7 rfl ?_
    obtain ⟨x21, e22, r39⟩ := ob r39
    refine ml_getI dX0_addRule_8 fl_RX0_22 rfl e22 ?_
    refine mw_aload_n (x := (some a0)) dX0_addRule_11 rfl ?_
    obtain ⟨x23, e24, r39⟩ := ob r39
    refine ml_getQ dX0_addRule_12 fl_RX0_11 rfl e24 ?_
    obtain ⟨x25, e26, r39⟩ := ob r39
    refine ml_alen dX0_addRule_15 e26 (by decide) (by decide) ?_
    refine mw_icmp_ge (tgt := 39) dX0_addRule_16 rfl (fun c27 => ?_) (fun c27 => ?_)
    · rw [if_pos c27] at r39
      obtain rfl := y0 r39
      exact MW.sub (subL_n (subL_n subL_nil)) J40
    · rw [if_neg c27] at r39
      refine mw_aload_n (x := (some a0)) dX0_addRule_19 rfl ?_
      obtain ⟨x28, e29, r39⟩ := ob r39
      refine ml_getQ dX0_addRule_20 fl_RX0_11 rfl e29 ?_
      refine mw_aload_n (x := (some a0)) dX0_addRule_23 rfl ?_
      obtain ⟨x30, e31, r39⟩ := ob r39
      refine ml_getI dX0_addRule_24 fl_RX0_22 rfl e31 ?_
      refine mw_aload_n (x := q1) dX0_addRule_27 rfl ?_
      obtain ⟨h32, e33, r39⟩ := ob r39
      refine ml_aast dX0_addRule_28 e33 (by decide) (by decide) ?_
      refine mw_aload_n (x := (some a0)) dX0_addRule_29 rfl ?_
      refine mw_dupq dX0_addRule_30 ?_
      obtain ⟨x34, e35, r39⟩ := ob r39
      refine ml_getI dX0_addRule_31 fl_RX0_22 rfl e35 ?_
      refine mw_iconst (v := 1) dX0_addRule_34 (by decide) ?_
      refine mw_iadd dX0_addRule_35 ?_
      obtain ⟨h36, e37, r39⟩ := ob r39
      refine ml_putI dX0_addRule_36 fl_RX0_22 (Or.inl rfl) rfl rfl e37 ?_
      obtain rfl := y0 r39
      exact MW.sub (subL_n (subL_n subL_nil)) J40
def f_X0_init (a0 : Nat) (h : Hp) : Option (Hp) :=
  (rc h (some a0) 0).bind fun g1 =>
  (nln 10 10).bind fun n3 =>
  (putQ (nw h 15 n3) (some a0) 0 0 (some h.1.length)).bind fun h5 =>
  (nln 0 0).bind fun n7 =>
  (putQ (nw h5 10 n7) (some a0) 0 2 (some h5.1.length)).bind fun h9 =>
  (nln 7 7).bind fun n11 =>
  (wrI (nw h9 10 n11) (some h9.1.length) 0 12).bind fun h13 =>
  (wrI h13 (some h9.1.length) 1 104).bind fun h15 =>
  (wrI h15 (some h9.1.length) 2 5).bind fun h17 =>
  (wrI h17 (some h9.1.length) 3 90).bind fun h19 =>
  (wrI h19 (some h9.1.length) 4 90).bind fun h21 =>
  (wrI h21 (some h9.1.length) 5 9999).bind fun h23 =>
  (wrI h23 (some h9.1.length) 6 0).bind fun h25 =>
  (putQ h25 (some a0) 0 4 (some h9.1.length)).bind fun h27 =>
  some h27
set_option maxHeartbeats 4000000 in
theorem t_X0_init (E : En) (d : Nat) {a0 : Nat} {h h' : Hp} {K : Option Vv → Hp → Prop} (hf : f_X0_init a0 h = some h') (hk : K none h') : MC E m_X0_init (d + 1) 3 17 [vq (some a0)] h K := by
  unfold f_X0_init at hf
  show MW E m_X0_init (d + 1) 3 17 0 [some (vq (some a0))] [] h K
  refine mw_aload_n (x := (some a0)) dX0_init_0 rfl ?_
  obtain ⟨g1, e2, hf⟩ := ob hf
  refine ml_objInit dX0_init_1 lk_RX0_1 oi_im oi_cd e2 (Nat.le_of_ble_eq_true rfl) ?_
  refine mw_aload_n (x := (some a0)) dX0_init_4 rfl ?_
  refine mw_bipush (v := 10) dX0_init_5 (by decide) ?_
  obtain ⟨n3, e4, hf⟩ := ob hf
  refine ml_anew (kd := 15) (most := 10) (mc := 2) (ms := 7) dX0_init_7 (by decide) (by decide) cl_RX0_9 (by decide) e4 ?_
  obtain ⟨h5, e6, hf⟩ := ob hf
  refine ml_putQ dX0_init_10 fl_RX0_11 (Or.inr ⟨rfl, rfl, rfl⟩) rfl (Or.inr ⟨_, rfl⟩) e6 ?_
  refine mw_aload_n (x := (some a0)) dX0_init_13 rfl ?_
  refine mw_iconst (v := 0) dX0_init_14 (by decide) ?_
  obtain ⟨n7, e8, hf⟩ := ob hf
  refine ml_newa (kd := 10) (most := 0) (mc := 1) (ms := 7) dX0_init_15 rfl (by decide) ac_int (by decide) e8 ?_
  obtain ⟨h9, e10, hf⟩ := ob hf
  refine ml_putQ dX0_init_17 fl_RX0_15 (Or.inl rfl) rfl (Or.inr ⟨_, rfl⟩) e10 ?_
  refine mw_aload_n (x := (some a0)) dX0_init_20 rfl ?_
  refine mw_bipush (v := 7) dX0_init_21 (by decide) ?_
  obtain ⟨n11, e12, hf⟩ := ob hf
  refine ml_newa (kd := 10) (most := 7) (mc := 0) (ms := 0) dX0_init_23 rfl (by decide) ac_int (by decide) e12 ?_
  refine mw_dupq dX0_init_25 ?_
  refine mw_iconst (v := 0) dX0_init_26 (by decide) ?_
  refine mw_bipush (v := 12) dX0_init_27 (by decide) ?_
  obtain ⟨h13, e14, hf⟩ := ob hf
  refine ml_iast dX0_init_29 e14 ?_
  refine mw_dupq dX0_init_30 ?_
  refine mw_iconst (v := 1) dX0_init_31 (by decide) ?_
  refine mw_bipush (v := 104) dX0_init_32 (by decide) ?_
  obtain ⟨h15, e16, hf⟩ := ob hf
  refine ml_iast dX0_init_34 e16 ?_
  refine mw_dupq dX0_init_35 ?_
  refine mw_iconst (v := 2) dX0_init_36 (by decide) ?_
  refine mw_iconst (v := 5) dX0_init_37 (by decide) ?_
  obtain ⟨h17, e18, hf⟩ := ob hf
  refine ml_iast dX0_init_38 e18 ?_
  refine mw_dupq dX0_init_39 ?_
  refine mw_iconst (v := 3) dX0_init_40 (by decide) ?_
  refine mw_bipush (v := 90) dX0_init_41 (by decide) ?_
  obtain ⟨h19, e20, hf⟩ := ob hf
  refine ml_iast dX0_init_43 e20 ?_
  refine mw_dupq dX0_init_44 ?_
  refine mw_iconst (v := 4) dX0_init_45 (by decide) ?_
  refine mw_bipush (v := 90) dX0_init_46 (by decide) ?_
  obtain ⟨h21, e22, hf⟩ := ob hf
  refine ml_iast dX0_init_48 e22 ?_
  refine mw_dupq dX0_init_49 ?_
  refine mw_iconst (v := 5) dX0_init_50 (by decide) ?_
  refine mw_sipush (v := 9999) dX0_init_51 (by decide) ?_
  obtain ⟨h23, e24, hf⟩ := ob hf
  refine ml_iast dX0_init_54 e24 ?_
  refine mw_dupq dX0_init_55 ?_
  refine mw_bipush (v := 6) dX0_init_56 (by decide) ?_
  refine mw_iconst (v := 0) dX0_init_58 (by decide) ?_
  obtain ⟨h25, e26, hf⟩ := ob hf
  refine ml_iast dX0_init_59 e26 ?_
  obtain ⟨h27, e28, hf⟩ := ob hf
  refine ml_putQ dX0_init_60 fl_RX0_19 (Or.inr ⟨rfl, rfl, rfl⟩) rfl (Or.inr ⟨_, rfl⟩) e28 ?_
  obtain rfl := y0 hf
  exact mw_return dX0_init_63 rfl hk
def f_X0_number (a0 : Nat) (v1 : Int32) (h : Hp) : Option (Int32 × Hp) :=
  (getQ h (some a0) 0 4).bind fun x1 =>
  b1 (f_X8_at x1 v1 h) fun x5 h3 =>
  some (x5, h3)
set_option maxHeartbeats 4000000 in
theorem t_X0_number (E : En) (d : Nat) {mc ms : Nat} {a0 : Nat} {v1 : Int32} {h h' : Hp} {r : Int32} {K : Option Vv → Hp → Prop} (hf : f_X0_number a0 v1 h = some (r, h')) (hk : K (some (vi r)) h') : MC E m_X0_number (d + 1) mc ms [vq (some a0), vi v1] h K := by
  unfold f_X0_number at hf
  show MW E m_X0_number (d + 1) mc ms 0 [some (vq (some a0)), some (vi v1)] [] h K
  refine mw_aload_n (x := (some a0)) dX0_number_0 rfl ?_
  obtain ⟨x1, e2, hf⟩ := ob hf
  refine ml_getQ dX0_number_1 fl_RX0_19 rfl e2 ?_
  refine mw_iload_n (x := v1) dX0_number_4 rfl ?_
  obtain ⟨x5, h3, e4, hf⟩ := ob1 hf
  refine ml_callSN (mc' := 0) (ms' := 0) [vq x1, vi v1] dX0_number_5 mk_X8_at lk_RX0_26 st_X8_at rfl (Nat.le_of_ble_eq_true rfl) (Nat.le_of_ble_eq_true rfl) (t_X8_at E _ e4 isR_rfl) ?_
  obtain ⟨rfl, rfl⟩ := y1 hf
  exact mw_ireturn dX0_number_8 rfl rfl hk
def f_X2_byteAt (a0 : Nat) (v1 : Int32) (h : Hp) : Option (Int32 × Hp) :=
  b1 ((if v1 < (0 : Int32) then
      some ((-1), h)
    else
      (getI h (some a0) 2 1).bind fun x14 =>
      if x14 ≤ v1 then
        some ((-1), h)
      else
        (getQ h (some a0) 2 0).bind fun x17 =>
        (aln h x17 9).bind fun x19 =>
        if x19 ≤ v1 then
          some ((-1), h)
        else
          (getQ h (some a0) 2 0).bind fun x22 =>
          (rdI h x22 9 v1).bind fun x24 =>
          some ((x24 &&& (255 : Int32)), h) : Option (Int32 × Hp))) fun w26 h27 =>
  some (w26, h27)
set_option maxHeartbeats 4000000 in
theorem t_X2_byteAt (E : En) (d : Nat) {mc ms : Nat} {a0 : Nat} {v1 : Int32} {h h' : Hp} {r : Int32} {K : Option Vv → Hp → Prop} (hf : f_X2_byteAt a0 v1 h = some (r, h')) (hk : K (some (vi r)) h') : MC E m_X2_byteAt (d + 0) mc ms [vq (some a0), vi v1] h K := by
  unfold f_X2_byteAt at hf
  show MW E m_X2_byteAt (d + 0) mc ms 0 [some (vq (some a0)), some (vi v1)] [] h K
  refine mw_iload_n (x := v1) dX2_byteAt_0 rfl ?_
  obtain ⟨w26, h27, r28, hf⟩ := ob1 hf
  have J29 : MW E m_X2_byteAt (d + 0) mc ms 35 [none, none] [vi w26] h27 K := by
    obtain ⟨rfl, rfl⟩ := y1 hf
    exact mw_ireturn dX2_byteAt_35 rfl rfl hk
  refine mw_if_lt (tgt := 34) dX2_byteAt_1 rfl (fun c1 => ?_) (fun c1 => ?_)
  · rw [if_pos c1] at r28
    refine mw_iconst (v := (-1)) dX2_byteAt_34 (by decide) ?_
    obtain ⟨rfl, rfl⟩ := y1 r28
    exact MW.sub (subL_n (subL_n subL_nil)) J29
  · rw [if_neg c1] at r28
    refine mw_iload_n (x := v1) dX2_byteAt_4 rfl ?_
    refine mw_aload_n (x := (some a0)) dX2_byteAt_5 rfl ?_
    obtain ⟨x14, e15, r28⟩ := ob r28
    refine ml_getI dX2_byteAt_6 fl_RX2_32 rfl e15 ?_
    refine mw_icmp_ge (tgt := 34) dX2_byteAt_9 rfl (fun c16 => ?_) (fun c16 => ?_)
    · rw [if_pos c16] at r28
      refine mw_iconst (v := (-1)) dX2_byteAt_34 (by decide) ?_
      obtain ⟨rfl, rfl⟩ := y1 r28
      exact MW.sub (subL_n (subL_n subL_nil)) J29
    · rw [if_neg c16] at r28
      refine mw_iload_n (x := v1) dX2_byteAt_12 rfl ?_
      refine mw_aload_n (x := (some a0)) dX2_byteAt_13 rfl ?_
      obtain ⟨x17, e18, r28⟩ := ob r28
      refine ml_getQ dX2_byteAt_14 fl_RX2_9 rfl e18 ?_
      obtain ⟨x19, e20, r28⟩ := ob r28
      refine ml_alen dX2_byteAt_17 e20 (by decide) (by decide) ?_
      refine mw_icmp_ge (tgt := 34) dX2_byteAt_18 rfl (fun c21 => ?_) (fun c21 => ?_)
      · rw [if_pos c21] at r28
        refine mw_iconst (v := (-1)) dX2_byteAt_34 (by decide) ?_
        obtain ⟨rfl, rfl⟩ := y1 r28
        exact MW.sub (subL_n (subL_n subL_nil)) J29
      · rw [if_neg c21] at r28
        refine mw_aload_n (x := (some a0)) dX2_byteAt_21 rfl ?_
        obtain ⟨x22, e23, r28⟩ := ob r28
        refine ml_getQ dX2_byteAt_22 fl_RX2_9 rfl e23 ?_
        refine mw_iload_n (x := v1) dX2_byteAt_25 rfl ?_
        obtain ⟨x24, e25, r28⟩ := ob r28
        refine ml_bald dX2_byteAt_26 e25 ?_
        refine mw_sipush (v := 255) dX2_byteAt_27 (by decide) ?_
        refine mw_iand dX2_byteAt_30 ?_
        refine mw_goto (tgt := 35) dX2_byteAt_31 rfl ?_
        obtain ⟨rfl, rfl⟩ := y1 r28
        exact MW.sub (subL_n (subL_n subL_nil)) J29
def f_X2_init (a0 : Nat) (h : Hp) : Option (Hp) :=
  (rc h (some a0) 2).bind fun g1 =>
  (nln 900 900).bind fun n3 =>
  (putQ (nw h 9 n3) (some a0) 2 0 (some h.1.length)).bind fun h5 =>
  (nln 901 901).bind fun n7 =>
  (putQ (nw h5 10 n7) (some a0) 2 3 (some h5.1.length)).bind fun h9 =>
  (nln 901 901).bind fun n11 =>
  (putQ (nw h9 10 n11) (some a0) 2 4 (some h9.1.length)).bind fun h13 =>
  (nln 900 900).bind fun n15 =>
  (putQ (nw h13 10 n15) (some a0) 2 8 (some h13.1.length)).bind fun h17 =>
  (putI h17 (some a0) 2 12 0).bind fun h19 =>
  (putI h19 (some a0) 2 13 (-1)).bind fun h21 =>
  some h21
set_option maxHeartbeats 4000000 in
theorem t_X2_init (E : En) (d : Nat) {a0 : Nat} {h h' : Hp} {K : Option Vv → Hp → Prop} (hf : f_X2_init a0 h = some h') (hk : K none h') : MC E m_X2_init (d + 1) 4 3602 [vq (some a0)] h K := by
  unfold f_X2_init at hf
  show MW E m_X2_init (d + 1) 4 3602 0 [some (vq (some a0))] [] h K
  refine mw_aload_n (x := (some a0)) dX2_init_0 rfl ?_
  obtain ⟨g1, e2, hf⟩ := ob hf
  refine ml_objInit dX2_init_1 lk_RX2_3 oi_im oi_cd e2 (Nat.le_of_ble_eq_true rfl) ?_
  refine mw_aload_n (x := (some a0)) dX2_init_4 rfl ?_
  refine mw_sipush (v := 900) dX2_init_5 (by decide) ?_
  obtain ⟨n3, e4, hf⟩ := ob hf
  refine ml_newa (kd := 9) (most := 900) (mc := 3) (ms := 2702) dX2_init_8 rfl (by decide) ac_byte (by decide) e4 ?_
  obtain ⟨h5, e6, hf⟩ := ob hf
  refine ml_putQ dX2_init_10 fl_RX2_9 (Or.inr ⟨rfl, rfl, rfl⟩) rfl (Or.inr ⟨_, rfl⟩) e6 ?_
  refine mw_aload_n (x := (some a0)) dX2_init_13 rfl ?_
  refine mw_sipush (v := 901) dX2_init_14 (by decide) ?_
  obtain ⟨n7, e8, hf⟩ := ob hf
  refine ml_newa (kd := 10) (most := 901) (mc := 2) (ms := 1801) dX2_init_17 rfl (by decide) ac_int (by decide) e8 ?_
  obtain ⟨h9, e10, hf⟩ := ob hf
  refine ml_putQ dX2_init_19 fl_RX2_15 (Or.inr ⟨rfl, rfl, rfl⟩) rfl (Or.inr ⟨_, rfl⟩) e10 ?_
  refine mw_aload_n (x := (some a0)) dX2_init_22 rfl ?_
  refine mw_sipush (v := 901) dX2_init_23 (by decide) ?_
  obtain ⟨n11, e12, hf⟩ := ob hf
  refine ml_newa (kd := 10) (most := 901) (mc := 1) (ms := 900) dX2_init_26 rfl (by decide) ac_int (by decide) e12 ?_
  obtain ⟨h13, e14, hf⟩ := ob hf
  refine ml_putQ dX2_init_28 fl_RX2_19 (Or.inr ⟨rfl, rfl, rfl⟩) rfl (Or.inr ⟨_, rfl⟩) e14 ?_
  refine mw_aload_n (x := (some a0)) dX2_init_31 rfl ?_
  refine mw_sipush (v := 900) dX2_init_32 (by decide) ?_
  obtain ⟨n15, e16, hf⟩ := ob hf
  refine ml_newa (kd := 10) (most := 900) (mc := 0) (ms := 0) dX2_init_35 rfl (by decide) ac_int (by decide) e16 ?_
  obtain ⟨h17, e18, hf⟩ := ob hf
  refine ml_putQ dX2_init_37 fl_RX2_22 (Or.inr ⟨rfl, rfl, rfl⟩) rfl (Or.inr ⟨_, rfl⟩) e18 ?_
  refine mw_aload_n (x := (some a0)) dX2_init_40 rfl ?_
  refine mw_iconst (v := 0) dX2_init_41 (by decide) ?_
  obtain ⟨h19, e20, hf⟩ := ob hf
  refine ml_putI dX2_init_42 fl_RX2_25 (Or.inl rfl) rfl rfl e20 ?_
  refine mw_aload_n (x := (some a0)) dX2_init_45 rfl ?_
  refine mw_iconst (v := (-1)) dX2_init_46 (by decide) ?_
  obtain ⟨h21, e22, hf⟩ := ob hf
  refine ml_putI dX2_init_47 fl_RX2_29 (Or.inl rfl) rfl rfl e22 ?_
  obtain rfl := y0 hf
  exact mw_return dX2_init_50 rfl hk
def f_X2_isBlank (v0 : Int32) (h : Hp) : Option (Int32 × Hp) :=
  b1 ((if v0 = (32 : Int32) then
      some (1, h)
    else
      if v0 = (10 : Int32) then
        some (1, h)
      else
        some (0, h) : Option (Int32 × Hp))) fun w4 h5 =>
  (zok w4).bind fun z7 =>
  some (w4, h5)
set_option maxHeartbeats 4000000 in
theorem t_X2_isBlank (E : En) (d : Nat) {mc ms : Nat} {v0 : Int32} {h h' : Hp} {r : Int32} {K : Option Vv → Hp → Prop} (hf : f_X2_isBlank v0 h = some (r, h')) (hk : K (some (vi r)) h') : MC E m_X2_isBlank (d + 0) mc ms [vi v0] h K := by
  unfold f_X2_isBlank at hf
  show MW E m_X2_isBlank (d + 0) mc ms 0 [some (vi v0)] [] h K
  refine mw_iload_n (x := v0) dX2_isBlank_0 rfl ?_
  refine mw_bipush (v := 32) dX2_isBlank_1 (by decide) ?_
  obtain ⟨w4, h5, r6, hf⟩ := ob1 hf
  have J9 : MW E m_X2_isBlank (d + 0) mc ms 17 [none] [vi w4] h5 K := by
    obtain ⟨z7, e8, hf⟩ := ob hf
    obtain ⟨rfl, rfl⟩ := y1 hf
    exact mw_ireturn dX2_isBlank_17 rfl (zok_of e8) hk
  refine mw_icmp_eq (tgt := 12) dX2_isBlank_3 rfl (fun c1 => ?_) (fun c1 => ?_)
  · rw [if_pos c1] at r6
    refine mw_iconst (v := 1) dX2_isBlank_12 (by decide) ?_
    refine mw_goto (tgt := 17) dX2_isBlank_13 rfl ?_
    obtain ⟨rfl, rfl⟩ := y1 r6
    exact MW.sub (subL_n subL_nil) J9
  · rw [if_neg c1] at r6
    refine mw_iload_n (x := v0) dX2_isBlank_6 rfl ?_
    refine mw_bipush (v := 10) dX2_isBlank_7 (by decide) ?_
    refine mw_icmp_ne (tgt := 16) dX2_isBlank_9 rfl (fun c3 => ?_) (fun c3 => ?_)
    · rw [if_neg c3] at r6
      refine mw_iconst (v := 0) dX2_isBlank_16 (by decide) ?_
      obtain ⟨rfl, rfl⟩ := y1 r6
      exact MW.sub (subL_n subL_nil) J9
    · rw [if_pos c3] at r6
      refine mw_iconst (v := 1) dX2_isBlank_12 (by decide) ?_
      refine mw_goto (tgt := 17) dX2_isBlank_13 rfl ?_
      obtain ⟨rfl, rfl⟩ := y1 r6
      exact MW.sub (subL_n subL_nil) J9
def f_X2_isDigit (v0 : Int32) (h : Hp) : Option (Int32 × Hp) :=
  b1 ((if v0 < (48 : Int32) then
      some (0, h)
    else
      if (57 : Int32) < v0 then
        some (0, h)
      else
        some (1, h) : Option (Int32 × Hp))) fun w4 h5 =>
  (zok w4).bind fun z7 =>
  some (w4, h5)
set_option maxHeartbeats 4000000 in
theorem t_X2_isDigit (E : En) (d : Nat) {mc ms : Nat} {v0 : Int32} {h h' : Hp} {r : Int32} {K : Option Vv → Hp → Prop} (hf : f_X2_isDigit v0 h = some (r, h')) (hk : K (some (vi r)) h') : MC E m_X2_isDigit (d + 0) mc ms [vi v0] h K := by
  unfold f_X2_isDigit at hf
  show MW E m_X2_isDigit (d + 0) mc ms 0 [some (vi v0)] [] h K
  refine mw_iload_n (x := v0) dX2_isDigit_0 rfl ?_
  refine mw_bipush (v := 48) dX2_isDigit_1 (by decide) ?_
  obtain ⟨w4, h5, r6, hf⟩ := ob1 hf
  have J9 : MW E m_X2_isDigit (d + 0) mc ms 17 [none] [vi w4] h5 K := by
    obtain ⟨z7, e8, hf⟩ := ob hf
    obtain ⟨rfl, rfl⟩ := y1 hf
    exact mw_ireturn dX2_isDigit_17 rfl (zok_of e8) hk
  refine mw_icmp_lt (tgt := 16) dX2_isDigit_3 rfl (fun c1 => ?_) (fun c1 => ?_)
  · rw [if_pos c1] at r6
    refine mw_iconst (v := 0) dX2_isDigit_16 (by decide) ?_
    obtain ⟨rfl, rfl⟩ := y1 r6
    exact MW.sub (subL_n subL_nil) J9
  · rw [if_neg c1] at r6
    refine mw_iload_n (x := v0) dX2_isDigit_6 rfl ?_
    refine mw_bipush (v := 57) dX2_isDigit_7 (by decide) ?_
    refine mw_icmp_gt (tgt := 16) dX2_isDigit_9 rfl (fun c3 => ?_) (fun c3 => ?_)
    · rw [if_pos c3] at r6
      refine mw_iconst (v := 0) dX2_isDigit_16 (by decide) ?_
      obtain ⟨rfl, rfl⟩ := y1 r6
      exact MW.sub (subL_n subL_nil) J9
    · rw [if_neg c3] at r6
      refine mw_iconst (v := 1) dX2_isDigit_12 (by decide) ?_
      refine mw_goto (tgt := 17) dX2_isDigit_13 rfl ?_
      obtain ⟨rfl, rfl⟩ := y1 r6
      exact MW.sub (subL_n subL_nil) J9
def f_X2_isLetter (v0 : Int32) (h : Hp) : Option (Int32 × Hp) :=
  b1 ((if v0 < (97 : Int32) then
      some (0, h)
    else
      if (122 : Int32) < v0 then
        some (0, h)
      else
        some (1, h) : Option (Int32 × Hp))) fun w4 h5 =>
  (zok w4).bind fun z7 =>
  some (w4, h5)
set_option maxHeartbeats 4000000 in
theorem t_X2_isLetter (E : En) (d : Nat) {mc ms : Nat} {v0 : Int32} {h h' : Hp} {r : Int32} {K : Option Vv → Hp → Prop} (hf : f_X2_isLetter v0 h = some (r, h')) (hk : K (some (vi r)) h') : MC E m_X2_isLetter (d + 0) mc ms [vi v0] h K := by
  unfold f_X2_isLetter at hf
  show MW E m_X2_isLetter (d + 0) mc ms 0 [some (vi v0)] [] h K
  refine mw_iload_n (x := v0) dX2_isLetter_0 rfl ?_
  refine mw_bipush (v := 97) dX2_isLetter_1 (by decide) ?_
  obtain ⟨w4, h5, r6, hf⟩ := ob1 hf
  have J9 : MW E m_X2_isLetter (d + 0) mc ms 17 [none] [vi w4] h5 K := by
    obtain ⟨z7, e8, hf⟩ := ob hf
    obtain ⟨rfl, rfl⟩ := y1 hf
    exact mw_ireturn dX2_isLetter_17 rfl (zok_of e8) hk
  refine mw_icmp_lt (tgt := 16) dX2_isLetter_3 rfl (fun c1 => ?_) (fun c1 => ?_)
  · rw [if_pos c1] at r6
    refine mw_iconst (v := 0) dX2_isLetter_16 (by decide) ?_
    obtain ⟨rfl, rfl⟩ := y1 r6
    exact MW.sub (subL_n subL_nil) J9
  · rw [if_neg c1] at r6
    refine mw_iload_n (x := v0) dX2_isLetter_6 rfl ?_
    refine mw_bipush (v := 122) dX2_isLetter_7 (by decide) ?_
    refine mw_icmp_gt (tgt := 16) dX2_isLetter_9 rfl (fun c3 => ?_) (fun c3 => ?_)
    · rw [if_pos c3] at r6
      refine mw_iconst (v := 0) dX2_isLetter_16 (by decide) ?_
      obtain ⟨rfl, rfl⟩ := y1 r6
      exact MW.sub (subL_n subL_nil) J9
    · rw [if_neg c3] at r6
      refine mw_iconst (v := 1) dX2_isLetter_12 (by decide) ?_
      refine mw_goto (tgt := 17) dX2_isLetter_13 rfl ?_
      obtain ⟨rfl, rfl⟩ := y1 r6
      exact MW.sub (subL_n subL_nil) J9
def f_X2_isWord_L2 : Nat → Nat → Int32 → Int32 → Int32 → Hp → Option ((Hp) ⊕ (Hp))
  | 0, _, _, _, _, _ => none
  | n + 1, a0, v1, v2, v3, h =>
    if (8 : Int32) ≤ v3 then
      some (Sum.inr h)
    else
      (getI h (some a0) 2 2).bind fun x2 =>
      b1 ((if x2 ≤ (v2 + v3) then
          some (32, h)
        else
          (rc h (some a0) 2).bind fun g12 =>
          b1 (f_X2_byteAt g12 (v2 + v3) h) fun x14 h10 =>
          some (x14, h10) : Option (Int32 × Hp))) fun w15 h16 =>
      if ((v1 * (8 : Int32)) + v3) < (0 : Int32) then
        some (Sum.inl h16)
      else
        (rcS (some 3)).bind fun g21 =>
        b1 (f_J0_length_8abf5 g21 h16) fun x23 h19 =>
        if x23 ≤ ((v1 * (8 : Int32)) + v3) then
          some (Sum.inl h19)
        else
          (rcS (some 3)).bind fun g27 =>
          b1 (f_J0_charAt_5068e g27 ((v1 * (8 : Int32)) + v3) h19) fun x29 h25 =>
          if x29 = w15 then
            f_X2_isWord_L2 n a0 v1 v2 (v3 + 1) h25
          else
            some (Sum.inl h25)
def f_X2_isWord (a0 : Nat) (v1 : Int32) (v2 : Int32) (h : Hp) : Option (Int32 × Hp) :=
  (f_X2_isWord_L2 fu a0 v1 v2 0 h).bind (Sum.elim (fun h31 => some (0, h31)) (fun h32 => some (1, h32)))
set_option maxHeartbeats 4000000 in
theorem tl_X2_isWord_2 (E : En) (d : Nat) {mc ms : Nat} {K : Option Vv → Hp → Prop} : ∀ (n : Nat) (a0 : Nat) (v1 : Int32) (v2 : Int32) (v3 : Int32) (h : Hp) (o : (Hp) ⊕ (Hp)), f_X2_isWord_L2 n a0 v1 v2 v3 h = some o → (∀ (hz : Hp), o = Sum.inl hz → MW E m_X2_isWord (d + 4) mc ms 67 [none, none, none, none, none, none] [] hz K) → (∀ (hz : Hp), o = Sum.inr hz → MW E m_X2_isWord (d + 4) mc ms 75 [none, none, none, none, none, none] [] hz K) → MW E m_X2_isWord (d + 4) mc ms 2 [some (vq (some a0)), some (vi v1), some (vi v2), some (vi v3), none, none] [] h K := by
  intro n
  induction n with
  | zero => intro a0 v1 v2 v3 h o hf; exact nomatch (show none = some _ from hf)
  | succ n ih =>
    intro a0 v1 v2 v3 h o hf hX67 hX75
    rw [f_X2_isWord_L2] at hf
    refine mw_iload_n (x := v3) dX2_isWord_2 rfl ?_
    refine mw_bipush (v := 8) dX2_isWord_3 (by decide) ?_
    refine mw_icmp_ge (tgt := 75) dX2_isWord_5 rfl (fun c1 => ?_) (fun c1 => ?_)
    · rw [if_pos c1] at hf
      obtain rfl := y0 hf
      exact MW.sub (subL_n (subL_n (subL_n (subL_n (subL_n (subL_n subL_nil)))))) (hX75 _ rfl)
    · rw [if_neg c1] at hf
      refine mw_iload_n (x := v2) dX2_isWord_8 rfl ?_
      refine mw_iload_n (x := v3) dX2_isWord_9 rfl ?_
      refine mw_iadd dX2_isWord_10 ?_
      refine mw_aload_n (x := (some a0)) dX2_isWord_11 rfl ?_
      obtain ⟨x2, e3, hf⟩ := ob hf
      refine ml_getI dX2_isWord_12 fl_RX2_66 rfl e3 ?_
      obtain ⟨w15, h16, r17, hf⟩ := ob1 hf
      have J35 : MW E m_X2_isWord (d + 4) mc ms 30 [some (vq (some a0)), some (vi v1), some (vi v2), some (vi v3), none, none] [vi w15] h16 K := by
        refine mw_istore dX2_isWord_30 (by decide) rfl ?_
        refine mw_iload_n (x := v1) dX2_isWord_32 rfl ?_
        refine mw_bipush (v := 8) dX2_isWord_33 (by decide) ?_
        refine mw_imul dX2_isWord_35 ?_
        refine mw_iload_n (x := v3) dX2_isWord_36 rfl ?_
        refine mw_iadd dX2_isWord_37 ?_
        refine mw_istore dX2_isWord_38 (by decide) rfl ?_
        refine mw_iload (x := ((v1 * (8 : Int32)) + v3)) dX2_isWord_40 rfl ?_
        refine mw_if_lt (tgt := 67) dX2_isWord_42 rfl (fun c18 => ?_) (fun c18 => ?_)
        · rw [if_pos c18] at hf
          obtain rfl := y0 hf
          exact MW.sub (subL_n (subL_n (subL_n (subL_n (subL_n (subL_n subL_nil)))))) (hX67 _ rfl)
        · rw [if_neg c18] at hf
          refine mw_iload (x := ((v1 * (8 : Int32)) + v3)) dX2_isWord_45 rfl ?_
          refine mw_ldcS0 rfl dX2_isWord_47 ?_
          obtain ⟨g21, e22, hf⟩ := ob hf
          obtain ⟨x23, h19, e20, hf⟩ := ob1 hf
          refine ml_callVS (mc' := 0) (ms' := 0) [] dX2_isWord_49 mk_J0_length_8abf5 lk_RX2_109 im_J0_length_8abf5 se_J0_length_8abf5 e22 rfl (Nat.le_of_ble_eq_true rfl) (Nat.le_of_ble_eq_true rfl) (t_J0_length_8abf5 E _ e20 isR_rfl) ?_
          refine mw_icmp_ge (tgt := 67) dX2_isWord_52 rfl (fun c24 => ?_) (fun c24 => ?_)
          · rw [if_pos c24] at hf
            obtain rfl := y0 hf
            exact MW.sub (subL_n (subL_n (subL_n (subL_n (subL_n (subL_n subL_nil)))))) (hX67 _ rfl)
          · rw [if_neg c24] at hf
            refine mw_ldcS0 rfl dX2_isWord_55 ?_
            refine mw_iload (x := ((v1 * (8 : Int32)) + v3)) dX2_isWord_57 rfl ?_
            obtain ⟨g27, e28, hf⟩ := ob hf
            obtain ⟨x29, h25, e26, hf⟩ := ob1 hf
            refine ml_callVS (mc' := 0) (ms' := 0) [vi ((v1 * (8 : Int32)) + v3)] dX2_isWord_59 mk_J0_charAt_5068e lk_RX2_112 im_J0_charAt_5068e se_J0_charAt_5068e e28 rfl (Nat.le_of_ble_eq_true rfl) (Nat.le_of_ble_eq_true rfl) (t_J0_charAt_5068e E _ e26 isR_rfl) ?_
            refine mw_iload (x := w15) dX2_isWord_62 rfl ?_
            refine mw_icmp_eq (tgt := 69) dX2_isWord_64 rfl (fun c30 => ?_) (fun c30 => ?_)
            · rw [if_pos c30] at hf
              refine mw_iinc (x := v3) (v := v3 + 1) dX2_isWord_69 rfl rfl (by decide) rfl ?_
              refine mw_goto (tgt := 2) dX2_isWord_72 rfl ?_
              exact MW.sub (subL_s (subL_s (subL_s (subL_s (subL_n (subL_n subL_nil)))))) (ih _ _ _ _ _ _ hf hX67 hX75)
            · rw [if_neg c30] at hf
              obtain rfl := y0 hf
              exact MW.sub (subL_n (subL_n (subL_n (subL_n (subL_n (subL_n subL_nil)))))) (hX67 _ rfl)
      refine mw_icmp_ge (tgt := 28) dX2_isWord_15 rfl (fun c4 => ?_) (fun c4 => ?_)
      · rw [if_pos c4] at r17
        refine mw_bipush (v := 32) dX2_isWord_28 (by decide) ?_
        obtain ⟨rfl, rfl⟩ := y1 r17
        exact MW.sub (subL_s (subL_s (subL_s (subL_s (subL_n (subL_n subL_nil)))))) J35
      · rw [if_neg c4] at r17
        refine mw_aload_n (x := (some a0)) dX2_isWord_18 rfl ?_
        refine mw_iload_n (x := v2) dX2_isWord_19 rfl ?_
        refine mw_iload_n (x := v3) dX2_isWord_20 rfl ?_
        refine mw_iadd dX2_isWord_21 ?_
        obtain ⟨g12, e13, r17⟩ := ob r17
        obtain ⟨x14, h10, e11, r17⟩ := ob1 r17
        refine ml_callV (ci := 2) (mc' := 0) (ms' := 0) [vi (v2 + v3)] dX2_isWord_22 mk_X2_byteAt lk_RX2_72 im_X2_byteAt se_X2_byteAt (by decide) e13 rfl (Nat.le_of_ble_eq_true rfl) (Nat.le_of_ble_eq_true rfl) (t_X2_byteAt E _ e11 isR_rfl) ?_
        refine mw_goto (tgt := 30) dX2_isWord_25 rfl ?_
        obtain ⟨rfl, rfl⟩ := y1 r17
        exact MW.sub (subL_s (subL_s (subL_s (subL_s (subL_n (subL_n subL_nil)))))) J35
set_option maxHeartbeats 4000000 in
theorem t_X2_isWord (E : En) (d : Nat) {mc ms : Nat} {a0 : Nat} {v1 : Int32} {v2 : Int32} {h h' : Hp} {r : Int32} {K : Option Vv → Hp → Prop} (hf : f_X2_isWord a0 v1 v2 h = some (r, h')) (hk : K (some (vi r)) h') : MC E m_X2_isWord (d + 4) mc ms [vq (some a0), vi v1, vi v2] h K := by
  unfold f_X2_isWord at hf
  show MW E m_X2_isWord (d + 4) mc ms 0 [some (vq (some a0)), some (vi v1), some (vi v2), none, none, none] [] h K
  refine mw_iconst (v := 0) dX2_isWord_0 (by decide) ?_
  refine mw_istore_n dX2_isWord_1 (by decide) rfl ?_
  obtain ⟨o34, e33, hf⟩ := ob hf
  rcases o34 with h31 | h32
  · have HX : MW E m_X2_isWord (d + 4) mc ms 67 [none, none, none, none, none, none] [] h31 K := by
      refine mw_iconst (v := 0) dX2_isWord_67 (by decide) ?_
      obtain ⟨rfl, rfl⟩ := y1 hf
      exact mw_ireturn dX2_isWord_68 rfl rfl hk
    exact MW.sub (subL_s (subL_s (subL_s (subL_s (subL_n (subL_n subL_nil)))))) (tl_X2_isWord_2 E d _ _ _ _ _ _ _ e33 (fun _ q => by cases q; exact HX) (fun _ q => by cases q))
  · have HX : MW E m_X2_isWord (d + 4) mc ms 75 [none, none, none, none, none, none] [] h32 K := by
      refine mw_iconst (v := 1) dX2_isWord_75 (by decide) ?_
      obtain ⟨rfl, rfl⟩ := y1 hf
      exact mw_ireturn dX2_isWord_76 rfl rfl hk
    exact MW.sub (subL_s (subL_s (subL_s (subL_s (subL_n (subL_n subL_nil)))))) (tl_X2_isWord_2 E d _ _ _ _ _ _ _ e33 (fun _ q => by cases q) (fun _ q => by cases q; exact HX))
def f_X2_levelOf (v0 : Int32) (h : Hp) : Option (Int32 × Hp) :=
  if v0 = 10 then
    some (0, h)
  else if v0 = 11 then
    some (1, h)
  else if v0 = 42 then
    some (4, h)
  else if v0 = 43 then
    some (3, h)
  else if v0 = 45 then
    some (3, h)
  else if v0 = 47 then
    some (4, h)
  else if v0 = 60 then
    some (2, h)
  else if v0 = 61 then
    some (2, h)
  else if v0 = 62 then
    some (2, h)
  else
    some ((-1), h)
set_option maxHeartbeats 4000000 in
theorem t_X2_levelOf (E : En) (d : Nat) {mc ms : Nat} {v0 : Int32} {h h' : Hp} {r : Int32} {K : Option Vv → Hp → Prop} (hf : f_X2_levelOf v0 h = some (r, h')) (hk : K (some (vi r)) h') : MC E m_X2_levelOf (d + 0) mc ms [vi v0] h K := by
  unfold f_X2_levelOf at hf
  show MW E m_X2_levelOf (d + 0) mc ms 0 [some (vi v0)] [] h K
  refine mw_iload_n (x := v0) dX2_levelOf_0 rfl ?_
  by_cases c1_0 : v0 = 10
  · rw [if_pos c1_0] at hf
    refine ml_lookIn (v := 10) (tgt := 84) dX2_levelOf_1 (by decide) c1_0 rfl rfl ?_
    refine mw_iconst (v := 0) dX2_levelOf_84 (by decide) ?_
    obtain ⟨rfl, rfl⟩ := y1 hf
    exact mw_ireturn dX2_levelOf_85 rfl rfl hk
  rw [if_neg c1_0] at hf
  by_cases c1_1 : v0 = 11
  · rw [if_pos c1_1] at hf
    refine ml_lookIn (v := 11) (tgt := 86) dX2_levelOf_1 (by decide) c1_1 rfl rfl ?_
    refine mw_iconst (v := 1) dX2_levelOf_86 (by decide) ?_
    obtain ⟨rfl, rfl⟩ := y1 hf
    exact mw_ireturn dX2_levelOf_87 rfl rfl hk
  rw [if_neg c1_1] at hf
  by_cases c1_2 : v0 = 42
  · rw [if_pos c1_2] at hf
    refine ml_lookIn (v := 42) (tgt := 92) dX2_levelOf_1 (by decide) c1_2 rfl rfl ?_
    refine mw_iconst (v := 4) dX2_levelOf_92 (by decide) ?_
    obtain ⟨rfl, rfl⟩ := y1 hf
    exact mw_ireturn dX2_levelOf_93 rfl rfl hk
  rw [if_neg c1_2] at hf
  by_cases c1_3 : v0 = 43
  · rw [if_pos c1_3] at hf
    refine ml_lookIn (v := 43) (tgt := 90) dX2_levelOf_1 (by decide) c1_3 rfl rfl ?_
    refine mw_iconst (v := 3) dX2_levelOf_90 (by decide) ?_
    obtain ⟨rfl, rfl⟩ := y1 hf
    exact mw_ireturn dX2_levelOf_91 rfl rfl hk
  rw [if_neg c1_3] at hf
  by_cases c1_4 : v0 = 45
  · rw [if_pos c1_4] at hf
    refine ml_lookIn (v := 45) (tgt := 90) dX2_levelOf_1 (by decide) c1_4 rfl rfl ?_
    refine mw_iconst (v := 3) dX2_levelOf_90 (by decide) ?_
    obtain ⟨rfl, rfl⟩ := y1 hf
    exact mw_ireturn dX2_levelOf_91 rfl rfl hk
  rw [if_neg c1_4] at hf
  by_cases c1_5 : v0 = 47
  · rw [if_pos c1_5] at hf
    refine ml_lookIn (v := 47) (tgt := 92) dX2_levelOf_1 (by decide) c1_5 rfl rfl ?_
    refine mw_iconst (v := 4) dX2_levelOf_92 (by decide) ?_
    obtain ⟨rfl, rfl⟩ := y1 hf
    exact mw_ireturn dX2_levelOf_93 rfl rfl hk
  rw [if_neg c1_5] at hf
  by_cases c1_6 : v0 = 60
  · rw [if_pos c1_6] at hf
    refine ml_lookIn (v := 60) (tgt := 88) dX2_levelOf_1 (by decide) c1_6 rfl rfl ?_
    refine mw_iconst (v := 2) dX2_levelOf_88 (by decide) ?_
    obtain ⟨rfl, rfl⟩ := y1 hf
    exact mw_ireturn dX2_levelOf_89 rfl rfl hk
  rw [if_neg c1_6] at hf
  by_cases c1_7 : v0 = 61
  · rw [if_pos c1_7] at hf
    refine ml_lookIn (v := 61) (tgt := 88) dX2_levelOf_1 (by decide) c1_7 rfl rfl ?_
    refine mw_iconst (v := 2) dX2_levelOf_88 (by decide) ?_
    obtain ⟨rfl, rfl⟩ := y1 hf
    exact mw_ireturn dX2_levelOf_89 rfl rfl hk
  rw [if_neg c1_7] at hf
  by_cases c1_8 : v0 = 62
  · rw [if_pos c1_8] at hf
    refine ml_lookIn (v := 62) (tgt := 88) dX2_levelOf_1 (by decide) c1_8 rfl rfl ?_
    refine mw_iconst (v := 2) dX2_levelOf_88 (by decide) ?_
    obtain ⟨rfl, rfl⟩ := y1 hf
    exact mw_ireturn dX2_levelOf_89 rfl rfl hk
  rw [if_neg c1_8] at hf
  refine ml_lookOut (tgt := 94) dX2_levelOf_1 (by decide) (⟨c1_0, c1_1, c1_2, c1_3, c1_4, c1_5, c1_6, c1_7, c1_8, trivial⟩) rfl ?_
  refine mw_iconst (v := (-1)) dX2_levelOf_94 (by decide) ?_
  obtain ⟨rfl, rfl⟩ := y1 hf
  exact mw_ireturn dX2_levelOf_95 rfl rfl hk
def f_X2_nextToken (a0 : Nat) (h : Hp) : Option (Hp) :=
  (getI h (some a0) 2 6).bind fun x1 =>
  (getI h (some a0) 2 12).bind fun x3 =>
  Option.bind ((if x3 = (0 : Int32) then
      if (x1 + (1 : Int32)) < (0 : Int32) then
        some h
      else
        (getI h (some a0) 2 5).bind fun x24 =>
        if x24 ≤ (x1 + (1 : Int32)) then
          some h
        else
          (getQ h (some a0) 2 3).bind fun x27 =>
          (aln h x27 10).bind fun x29 =>
          if x29 ≤ (x1 + (1 : Int32)) then
            some h
          else
            (putI h (some a0) 2 6 (x1 + (1 : Int32))).bind fun h32 =>
            (getQ h32 (some a0) 2 3).bind fun x34 =>
            (rdI h32 x34 10 (x1 + (1 : Int32))).bind fun x36 =>
            (putI h32 (some a0) 2 7 x36).bind fun h38 =>
            some h38
    else
      some h : Option (Hp))) fun h40 =>
  some h40
set_option maxHeartbeats 4000000 in
theorem t_X2_nextToken (E : En) (d : Nat) {mc ms : Nat} {a0 : Nat} {h h' : Hp} {K : Option Vv → Hp → Prop} (hf : f_X2_nextToken a0 h = some h') (hk : K none h') : MC E m_X2_nextToken (d + 0) mc ms [vq (some a0)] h K := by
  unfold f_X2_nextToken at hf
  show MW E m_X2_nextToken (d + 0) mc ms 0 [some (vq (some a0)), none] [] h K
  refine mw_aload_n (x := (some a0)) dX2_nextToken_0 rfl ?_
  obtain ⟨x1, e2, hf⟩ := ob hf
  refine ml_getI dX2_nextToken_1 fl_RX2_44 rfl e2 ?_
  refine mw_iconst (v := 1) dX2_nextToken_4 (by decide) ?_
  refine mw_iadd dX2_nextToken_5 ?_
  refine mw_istore_n dX2_nextToken_6 (by decide) rfl ?_
  refine mw_aload_n (x := (some a0)) dX2_nextToken_7 rfl ?_
  obtain ⟨x3, e4, hf⟩ := ob hf
  refine ml_getI dX2_nextToken_8 fl_RX2_25 rfl e4 ?_
  obtain ⟨h40, r41, hf⟩ := ob hf
  have J42 : MW E m_X2_nextToken (d + 0) mc ms 50 [none, none] [] h40 K := by
    obtain rfl := y0 hf
    exact mw_return dX2_nextToken_50 rfl hk
  refine mw_if_ne (tgt := 50) dX2_nextToken_11 rfl (fun c5 => ?_) (fun c5 => ?_)
  · rw [if_neg c5] at r41
    obtain rfl := y0 r41
    exact MW.sub (subL_n (subL_n subL_nil)) J42
  · rw [if_pos c5] at r41
    refine mw_iload_n (x := (x1 + (1 : Int32))) dX2_nextToken_14 rfl ?_
    refine mw_if_lt (tgt := 50) dX2_nextToken_15 rfl (fun c23 => ?_) (fun c23 => ?_)
    · rw [if_pos c23] at r41
      obtain rfl := y0 r41
      exact MW.sub (subL_n (subL_n subL_nil)) J42
    · rw [if_neg c23] at r41
      refine mw_iload_n (x := (x1 + (1 : Int32))) dX2_nextToken_18 rfl ?_
      refine mw_aload_n (x := (some a0)) dX2_nextToken_19 rfl ?_
      obtain ⟨x24, e25, r41⟩ := ob r41
      refine ml_getI dX2_nextToken_20 fl_RX2_69 rfl e25 ?_
      refine mw_icmp_ge (tgt := 50) dX2_nextToken_23 rfl (fun c26 => ?_) (fun c26 => ?_)
      · rw [if_pos c26] at r41
        obtain rfl := y0 r41
        exact MW.sub (subL_n (subL_n subL_nil)) J42
      · rw [if_neg c26] at r41
        refine mw_iload_n (x := (x1 + (1 : Int32))) dX2_nextToken_26 rfl ?_
        refine mw_aload_n (x := (some a0)) dX2_nextToken_27 rfl ?_
        obtain ⟨x27, e28, r41⟩ := ob r41
        refine ml_getQ dX2_nextToken_28 fl_RX2_15 rfl e28 ?_
        obtain ⟨x29, e30, r41⟩ := ob r41
        refine ml_alen dX2_nextToken_31 e30 (by decide) (by decide) ?_
        refine mw_icmp_ge (tgt := 50) dX2_nextToken_32 rfl (fun c31 => ?_) (fun c31 => ?_)
        · rw [if_pos c31] at r41
          obtain rfl := y0 r41
          exact MW.sub (subL_n (subL_n subL_nil)) J42
        · rw [if_neg c31] at r41
          refine mw_aload_n (x := (some a0)) dX2_nextToken_35 rfl ?_
          refine mw_iload_n (x := (x1 + (1 : Int32))) dX2_nextToken_36 rfl ?_
          obtain ⟨h32, e33, r41⟩ := ob r41
          refine ml_putI dX2_nextToken_37 fl_RX2_44 (Or.inl rfl) rfl rfl e33 ?_
          refine mw_aload_n (x := (some a0)) dX2_nextToken_40 rfl ?_
          refine mw_aload_n (x := (some a0)) dX2_nextToken_41 rfl ?_
          obtain ⟨x34, e35, r41⟩ := ob r41
          refine ml_getQ dX2_nextToken_42 fl_RX2_15 rfl e35 ?_
          refine mw_iload_n (x := (x1 + (1 : Int32))) dX2_nextToken_45 rfl ?_
          obtain ⟨x36, e37, r41⟩ := ob r41
          refine ml_iald dX2_nextToken_46 e37 ?_
          obtain ⟨h38, e39, r41⟩ := ob r41
          refine ml_putI dX2_nextToken_47 fl_RX2_53 (Or.inl rfl) rfl rfl e39 ?_
          obtain rfl := y0 r41
          exact MW.sub (subL_n (subL_n subL_nil)) J42
def f_X2_putBytes_L3 : Nat → Nat → Int32 → Int32 → Hp → Option ((Hp))
  | 0, _, _, _, _ => none
  | n + 1, a0, v1, v2, h =>
    if v2 < (0 : Int32) then
      some h
    else
      (getI h (some a0) 2 1).bind fun x2 =>
      Option.bind ((if x2 < (0 : Int32) then
          some h
        else
          (getI h (some a0) 2 1).bind fun x22 =>
          (getQ h (some a0) 2 0).bind fun x24 =>
          (aln h x24 9).bind fun x26 =>
          if x26 ≤ x22 then
            some h
          else
            (getQ h (some a0) 2 0).bind fun x29 =>
            (getI h (some a0) 2 1).bind fun x31 =>
            (wrB h x29 x31 ((v1 >>> (v2 &&& 31)).toInt8.toInt32)).bind fun h33 =>
            (getI h33 (some a0) 2 1).bind fun x35 =>
            (putI h33 (some a0) 2 1 (x35 + (1 : Int32))).bind fun h37 =>
            some h37 : Option (Hp))) fun h39 =>
      f_X2_putBytes_L3 n a0 v1 (v2 + (-8)) h39
def f_X2_putBytes (a0 : Nat) (v1 : Int32) (h : Hp) : Option (Hp) :=
  (f_X2_putBytes_L3 fu a0 v1 24 h).bind fun h41 =>
  some h41
set_option maxHeartbeats 4000000 in
theorem tl_X2_putBytes_3 (E : En) (d : Nat) {mc ms : Nat} {K : Option Vv → Hp → Prop} : ∀ (n : Nat) (a0 : Nat) (v1 : Int32) (v2 : Int32) (h : Hp) (hz : Hp), f_X2_putBytes_L3 n a0 v1 v2 h = some hz → MW E m_X2_putBytes (d + 0) mc ms 55 [none, none, none] [] hz K → MW E m_X2_putBytes (d + 0) mc ms 3 [some (vq (some a0)), some (vi v1), some (vi v2)] [] h K := by
  intro n
  induction n with
  | zero => intro a0 v1 v2 h hz hf; exact nomatch (show none = some _ from hf)
  | succ n ih =>
    intro a0 v1 v2 h hz hf hX55
    rw [f_X2_putBytes_L3] at hf
    refine mw_iload_n (x := v2) dX2_putBytes_3 rfl ?_
    refine mw_if_lt (tgt := 55) dX2_putBytes_4 rfl (fun c1 => ?_) (fun c1 => ?_)
    · rw [if_pos c1] at hf
      obtain rfl := y0 hf
      exact MW.sub (subL_n (subL_n (subL_n subL_nil))) hX55
    · rw [if_neg c1] at hf
      refine mw_aload_n (x := (some a0)) dX2_putBytes_7 rfl ?_
      obtain ⟨x2, e3, hf⟩ := ob hf
      refine ml_getI dX2_putBytes_8 fl_RX2_32 rfl e3 ?_
      obtain ⟨h39, r40, hf⟩ := ob hf
      have J44 : MW E m_X2_putBytes (d + 0) mc ms 49 [some (vq (some a0)), some (vi v1), some (vi v2)] [] h39 K := by
        refine mw_iinc (x := v2) (v := v2 + (-8)) dX2_putBytes_49 rfl rfl (by decide) rfl ?_
        refine mw_goto (tgt := 3) dX2_putBytes_52 rfl ?_
        exact MW.sub (subL_s (subL_s (subL_s subL_nil))) (ih _ _ _ _ _ hf hX55)
      refine mw_if_lt (tgt := 49) dX2_putBytes_11 rfl (fun c4 => ?_) (fun c4 => ?_)
      · rw [if_pos c4] at r40
        obtain rfl := y0 r40
        exact MW.sub (subL_s (subL_s (subL_s subL_nil))) J44
      · rw [if_neg c4] at r40
        refine mw_aload_n (x := (some a0)) dX2_putBytes_14 rfl ?_
        obtain ⟨x22, e23, r40⟩ := ob r40
        refine ml_getI dX2_putBytes_15 fl_RX2_32 rfl e23 ?_
        refine mw_aload_n (x := (some a0)) dX2_putBytes_18 rfl ?_
        obtain ⟨x24, e25, r40⟩ := ob r40
        refine ml_getQ dX2_putBytes_19 fl_RX2_9 rfl e25 ?_
        obtain ⟨x26, e27, r40⟩ := ob r40
        refine ml_alen dX2_putBytes_22 e27 (by decide) (by decide) ?_
        refine mw_icmp_ge (tgt := 49) dX2_putBytes_23 rfl (fun c28 => ?_) (fun c28 => ?_)
        · rw [if_pos c28] at r40
          obtain rfl := y0 r40
          exact MW.sub (subL_s (subL_s (subL_s subL_nil))) J44
        · rw [if_neg c28] at r40
          refine mw_aload_n (x := (some a0)) dX2_putBytes_26 rfl ?_
          obtain ⟨x29, e30, r40⟩ := ob r40
          refine ml_getQ dX2_putBytes_27 fl_RX2_9 rfl e30 ?_
          refine mw_aload_n (x := (some a0)) dX2_putBytes_30 rfl ?_
          obtain ⟨x31, e32, r40⟩ := ob r40
          refine ml_getI dX2_putBytes_31 fl_RX2_32 rfl e32 ?_
          refine mw_iload_n (x := v1) dX2_putBytes_34 rfl ?_
          refine mw_iload_n (x := v2) dX2_putBytes_35 rfl ?_
          refine mw_ishr dX2_putBytes_36 ?_
          refine mw_i2b dX2_putBytes_37 ?_
          obtain ⟨h33, e34, r40⟩ := ob r40
          refine ml_bast dX2_putBytes_38 e34 ?_
          refine mw_aload_n (x := (some a0)) dX2_putBytes_39 rfl ?_
          refine mw_dupq dX2_putBytes_40 ?_
          obtain ⟨x35, e36, r40⟩ := ob r40
          refine ml_getI dX2_putBytes_41 fl_RX2_32 rfl e36 ?_
          refine mw_iconst (v := 1) dX2_putBytes_44 (by decide) ?_
          refine mw_iadd dX2_putBytes_45 ?_
          obtain ⟨h37, e38, r40⟩ := ob r40
          refine ml_putI dX2_putBytes_46 fl_RX2_32 (Or.inl rfl) rfl rfl e38 ?_
          obtain rfl := y0 r40
          exact MW.sub (subL_s (subL_s (subL_s subL_nil))) J44
set_option maxHeartbeats 4000000 in
theorem t_X2_putBytes (E : En) (d : Nat) {mc ms : Nat} {a0 : Nat} {v1 : Int32} {h h' : Hp} {K : Option Vv → Hp → Prop} (hf : f_X2_putBytes a0 v1 h = some h') (hk : K none h') : MC E m_X2_putBytes (d + 0) mc ms [vq (some a0), vi v1] h K := by
  unfold f_X2_putBytes at hf
  show MW E m_X2_putBytes (d + 0) mc ms 0 [some (vq (some a0)), some (vi v1), none] [] h K
  refine mw_bipush (v := 24) dX2_putBytes_0 (by decide) ?_
  refine mw_istore_n dX2_putBytes_2 (by decide) rfl ?_
  obtain ⟨h41, e42, hf⟩ := ob hf
  refine MW.sub (subL_s (subL_s (subL_s subL_nil))) (tl_X2_putBytes_3 E d _ _ _ _ _ _ e42 ?_)
  obtain rfl := y0 hf
  exact mw_return dX2_putBytes_55 rfl hk
def f_X2_putStep (a0 : Nat) (v1 : Int32) (h : Hp) : Option (Hp) :=
  (getI h (some a0) 2 9).bind fun x1 =>
  Option.bind ((if x1 < (0 : Int32) then
      some h
    else
      (getI h (some a0) 2 9).bind fun x21 =>
      (getQ h (some a0) 2 8).bind fun x23 =>
      (aln h x23 10).bind fun x25 =>
      if x25 ≤ x21 then
        some h
      else
        (getQ h (some a0) 2 8).bind fun x28 =>
        (getI h (some a0) 2 9).bind fun x30 =>
        (wrI h x28 x30 v1).bind fun h32 =>
        (getI h32 (some a0) 2 9).bind fun x34 =>
        (putI h32 (some a0) 2 9 (x34 + (1 : Int32))).bind fun h36 =>
        some h36 : Option (Hp))) fun h38 =>
  some h38
set_option maxHeartbeats 4000000 in
theorem t_X2_putStep (E : En) (d : Nat) {mc ms : Nat} {a0 : Nat} {v1 : Int32} {h h' : Hp} {K : Option Vv → Hp → Prop} (hf : f_X2_putStep a0 v1 h = some h') (hk : K none h') : MC E m_X2_putStep (d + 0) mc ms [vq (some a0), vi v1] h K := by
  unfold f_X2_putStep at hf
  show MW E m_X2_putStep (d + 0) mc ms 0 [some (vq (some a0)), some (vi v1)] [] h K
  refine mw_aload_n (x := (some a0)) dX2_putStep_0 rfl ?_
  obtain ⟨x1, e2, hf⟩ := ob hf
  refine ml_getI dX2_putStep_1 fl_RX2_170 rfl e2 ?_
  obtain ⟨h38, r39, hf⟩ := ob hf
  have J40 : MW E m_X2_putStep (d + 0) mc ms 39 [none, none] [] h38 K := by
    obtain rfl := y0 hf
    exact mw_return dX2_putStep_39 rfl hk
  refine mw_if_lt (tgt := 39) dX2_putStep_4 rfl (fun c3 => ?_) (fun c3 => ?_)
  · rw [if_pos c3] at r39
    obtain rfl := y0 r39
    exact MW.sub (subL_n (subL_n subL_nil)) J40
  · rw [if_neg c3] at r39
    refine mw_aload_n (x := (some a0)) dX2_putStep_7 rfl ?_
    obtain ⟨x21, e22, r39⟩ := ob r39
    refine ml_getI dX2_putStep_8 fl_RX2_170 rfl e22 ?_
    refine mw_aload_n (x := (some a0)) dX2_putStep_11 rfl ?_
    obtain ⟨x23, e24, r39⟩ := ob r39
    refine ml_getQ dX2_putStep_12 fl_RX2_22 rfl e24 ?_
    obtain ⟨x25, e26, r39⟩ := ob r39
    refine ml_alen dX2_putStep_15 e26 (by decide) (by decide) ?_
    refine mw_icmp_ge (tgt := 39) dX2_putStep_16 rfl (fun c27 => ?_) (fun c27 => ?_)
    · rw [if_pos c27] at r39
      obtain rfl := y0 r39
      exact MW.sub (subL_n (subL_n subL_nil)) J40
    · rw [if_neg c27] at r39
      refine mw_aload_n (x := (some a0)) dX2_putStep_19 rfl ?_
      obtain ⟨x28, e29, r39⟩ := ob r39
      refine ml_getQ dX2_putStep_20 fl_RX2_22 rfl e29 ?_
      refine mw_aload_n (x := (some a0)) dX2_putStep_23 rfl ?_
      obtain ⟨x30, e31, r39⟩ := ob r39
      refine ml_getI dX2_putStep_24 fl_RX2_170 rfl e31 ?_
      refine mw_iload_n (x := v1) dX2_putStep_27 rfl ?_
      obtain ⟨h32, e33, r39⟩ := ob r39
      refine ml_iast dX2_putStep_28 e33 ?_
      refine mw_aload_n (x := (some a0)) dX2_putStep_29 rfl ?_
      refine mw_dupq dX2_putStep_30 ?_
      obtain ⟨x34, e35, r39⟩ := ob r39
      refine ml_getI dX2_putStep_31 fl_RX2_170 rfl e35 ?_
      refine mw_iconst (v := 1) dX2_putStep_34 (by decide) ?_
      refine mw_iadd dX2_putStep_35 ?_
      obtain ⟨h36, e37, r39⟩ := ob r39
      refine ml_putI dX2_putStep_36 fl_RX2_170 (Or.inl rfl) rfl rfl e37 ?_
      obtain rfl := y0 r39
      exact MW.sub (subL_n (subL_n subL_nil)) J40
def f_X2_refuse (a0 : Nat) (v1 : Int32) (h : Hp) : Option (Hp) :=
  (getI h (some a0) 2 12).bind fun x1 =>
  Option.bind ((if x1 = (0 : Int32) then
      (getI h (some a0) 2 7).bind fun x46 =>
      b1 ((if x46 = (26 : Int32) then
          some (1, h)
        else
          some (v1, h) : Option (Int32 × Hp))) fun w49 h50 =>
      (putI h50 (some a0) 2 12 w49).bind fun h52 =>
      (getI h52 (some a0) 2 6).bind fun x54 =>
      b1 ((if x54 < (0 : Int32) then
          some ((-1), h52)
        else
          (getI h52 (some a0) 2 6).bind fun x70 =>
          (getQ h52 (some a0) 2 4).bind fun x72 =>
          (aln h52 x72 10).bind fun x74 =>
          if x74 ≤ x70 then
            some ((-1), h52)
          else
            (getQ h52 (some a0) 2 4).bind fun x77 =>
            (getI h52 (some a0) 2 6).bind fun x79 =>
            (rdI h52 x77 10 x79).bind fun x81 =>
            some (x81, h52) : Option (Int32 × Hp))) fun w83 h84 =>
      (putI h84 (some a0) 2 13 w83).bind fun h86 =>
      some h86
    else
      some h : Option (Hp))) fun h88 =>
  (putI h88 (some a0) 2 7 26).bind fun h90 =>
  some h90
set_option maxHeartbeats 4000000 in
theorem t_X2_refuse (E : En) (d : Nat) {mc ms : Nat} {a0 : Nat} {v1 : Int32} {h h' : Hp} {K : Option Vv → Hp → Prop} (hf : f_X2_refuse a0 v1 h = some h') (hk : K none h') : MC E m_X2_refuse (d + 0) mc ms [vq (some a0), vi v1] h K := by
  unfold f_X2_refuse at hf
  show MW E m_X2_refuse (d + 0) mc ms 0 [some (vq (some a0)), some (vi v1)] [] h K
  refine mw_aload_n (x := (some a0)) dX2_refuse_0 rfl ?_
  obtain ⟨x1, e2, hf⟩ := ob hf
  refine ml_getI dX2_refuse_1 fl_RX2_25 rfl e2 ?_
  obtain ⟨h88, r89, hf⟩ := ob hf
  have J92 : MW E m_X2_refuse (d + 0) mc ms 61 [some (vq (some a0)), none] [] h88 K := by
    refine mw_aload_n (x := (some a0)) dX2_refuse_61 rfl ?_
    refine mw_bipush (v := 26) dX2_refuse_62 (by decide) ?_
    obtain ⟨h90, e91, hf⟩ := ob hf
    refine ml_putI dX2_refuse_64 fl_RX2_53 (Or.inl rfl) rfl rfl e91 ?_
    obtain rfl := y0 hf
    exact mw_return dX2_refuse_67 rfl hk
  refine mw_if_ne (tgt := 61) dX2_refuse_4 rfl (fun c3 => ?_) (fun c3 => ?_)
  · rw [if_neg c3] at r89
    obtain rfl := y0 r89
    exact MW.sub (subL_s (subL_n subL_nil)) J92
  · rw [if_pos c3] at r89
    refine mw_aload_n (x := (some a0)) dX2_refuse_7 rfl ?_
    refine mw_aload_n (x := (some a0)) dX2_refuse_8 rfl ?_
    obtain ⟨x46, e47, r89⟩ := ob r89
    refine ml_getI dX2_refuse_9 fl_RX2_53 rfl e47 ?_
    refine mw_bipush (v := 26) dX2_refuse_12 (by decide) ?_
    obtain ⟨w49, h50, r51, r89⟩ := ob1 r89
    have J93 : MW E m_X2_refuse (d + 0) mc ms 22 [some (vq (some a0)), none] [vi w49, vq (some a0)] h50 K := by
      obtain ⟨h52, e53, r89⟩ := ob r89
      refine ml_putI dX2_refuse_22 fl_RX2_25 (Or.inl rfl) rfl rfl e53 ?_
      refine mw_aload_n (x := (some a0)) dX2_refuse_25 rfl ?_
      refine mw_aload_n (x := (some a0)) dX2_refuse_26 rfl ?_
      obtain ⟨x54, e55, r89⟩ := ob r89
      refine ml_getI dX2_refuse_27 fl_RX2_44 rfl e55 ?_
      obtain ⟨w83, h84, r85, r89⟩ := ob1 r89
      have J94 : MW E m_X2_refuse (d + 0) mc ms 58 [some (vq (some a0)), none] [vi w83, vq (some a0)] h84 K := by
        obtain ⟨h86, e87, r89⟩ := ob r89
        refine ml_putI dX2_refuse_58 fl_RX2_29 (Or.inl rfl) rfl rfl e87 ?_
        obtain rfl := y0 r89
        exact MW.sub (subL_s (subL_n subL_nil)) J92
      refine mw_if_lt (tgt := 57) dX2_refuse_30 rfl (fun c56 => ?_) (fun c56 => ?_)
      · rw [if_pos c56] at r85
        refine mw_iconst (v := (-1)) dX2_refuse_57 (by decide) ?_
        obtain ⟨rfl, rfl⟩ := y1 r85
        exact MW.sub (subL_s (subL_n subL_nil)) J94
      · rw [if_neg c56] at r85
        refine mw_aload_n (x := (some a0)) dX2_refuse_33 rfl ?_
        obtain ⟨x70, e71, r85⟩ := ob r85
        refine ml_getI dX2_refuse_34 fl_RX2_44 rfl e71 ?_
        refine mw_aload_n (x := (some a0)) dX2_refuse_37 rfl ?_
        obtain ⟨x72, e73, r85⟩ := ob r85
        refine ml_getQ dX2_refuse_38 fl_RX2_19 rfl e73 ?_
        obtain ⟨x74, e75, r85⟩ := ob r85
        refine ml_alen dX2_refuse_41 e75 (by decide) (by decide) ?_
        refine mw_icmp_ge (tgt := 57) dX2_refuse_42 rfl (fun c76 => ?_) (fun c76 => ?_)
        · rw [if_pos c76] at r85
          refine mw_iconst (v := (-1)) dX2_refuse_57 (by decide) ?_
          obtain ⟨rfl, rfl⟩ := y1 r85
          exact MW.sub (subL_s (subL_n subL_nil)) J94
        · rw [if_neg c76] at r85
          refine mw_aload_n (x := (some a0)) dX2_refuse_45 rfl ?_
          obtain ⟨x77, e78, r85⟩ := ob r85
          refine ml_getQ dX2_refuse_46 fl_RX2_19 rfl e78 ?_
          refine mw_aload_n (x := (some a0)) dX2_refuse_49 rfl ?_
          obtain ⟨x79, e80, r85⟩ := ob r85
          refine ml_getI dX2_refuse_50 fl_RX2_44 rfl e80 ?_
          obtain ⟨x81, e82, r85⟩ := ob r85
          refine ml_iald dX2_refuse_53 e82 ?_
          refine mw_goto (tgt := 58) dX2_refuse_54 rfl ?_
          obtain ⟨rfl, rfl⟩ := y1 r85
          exact MW.sub (subL_s (subL_n subL_nil)) J94
    refine mw_icmp_ne (tgt := 21) dX2_refuse_14 rfl (fun c48 => ?_) (fun c48 => ?_)
    · rw [if_neg c48] at r51
      refine mw_iload_n (x := v1) dX2_refuse_21 rfl ?_
      obtain ⟨rfl, rfl⟩ := y1 r51
      exact MW.sub (subL_s (subL_n subL_nil)) J93
    · rw [if_pos c48] at r51
      refine mw_iconst (v := 1) dX2_refuse_17 (by decide) ?_
      refine mw_goto (tgt := 22) dX2_refuse_18 rfl ?_
      obtain ⟨rfl, rfl⟩ := y1 r51
      exact MW.sub (subL_s (subL_n subL_nil)) J93
def f_X2_readLeaf (a0 : Nat) (v1 : Int32) (v2 : Int32) (h : Hp) : Option (Hp) :=
  (getI h (some a0) 2 7).bind fun x1 =>
  if x1 < (13 : Int32) then
    (rc h (some a0) 2).bind fun g6 =>
    (f_X2_refuse g6 (2 : Int32) h).bind fun h4 =>
    some h4
  else
    (getI h (some a0) 2 7).bind fun x8 =>
    if x8 ≤ v2 then
      (getI h (some a0) 2 7).bind fun x11 =>
      (rc h (some a0) 2).bind fun g15 =>
      (f_X2_putStep g15 ((v1 + x11) - (13 : Int32)) h).bind fun h13 =>
      (rc h13 (some a0) 2).bind fun g19 =>
      (f_X2_nextToken g19 h13).bind fun h17 =>
      some h17
    else
      (rc h (some a0) 2).bind fun g23 =>
      (f_X2_refuse g23 (2 : Int32) h).bind fun h21 =>
      some h21
set_option maxHeartbeats 4000000 in
theorem t_X2_readLeaf (E : En) (d : Nat) {mc ms : Nat} {a0 : Nat} {v1 : Int32} {v2 : Int32} {h h' : Hp} {K : Option Vv → Hp → Prop} (hf : f_X2_readLeaf a0 v1 v2 h = some h') (hk : K none h') : MC E m_X2_readLeaf (d + 1) mc ms [vq (some a0), vi v1, vi v2] h K := by
  unfold f_X2_readLeaf at hf
  show MW E m_X2_readLeaf (d + 1) mc ms 0 [some (vq (some a0)), some (vi v1), some (vi v2)] [] h K
  refine mw_aload_n (x := (some a0)) dX2_readLeaf_0 rfl ?_
  obtain ⟨x1, e2, hf⟩ := ob hf
  refine ml_getI dX2_readLeaf_1 fl_RX2_53 rfl e2 ?_
  refine mw_bipush (v := 13) dX2_readLeaf_4 (by decide) ?_
  refine mw_icmp_lt (tgt := 17) dX2_readLeaf_6 rfl (fun c3 => ?_) (fun c3 => ?_)
  · rw [if_pos c3] at hf
    refine mw_aload_n (x := (some a0)) dX2_readLeaf_17 rfl ?_
    refine mw_iconst (v := 2) dX2_readLeaf_18 (by decide) ?_
    obtain ⟨g6, e7, hf⟩ := ob hf
    obtain ⟨h4, e5, hf⟩ := ob hf
    refine ml_callV (ci := 2) (mc' := 0) (ms' := 0) [vi (2 : Int32)] dX2_readLeaf_19 mk_X2_refuse lk_RX2_119 im_X2_refuse se_X2_refuse (by decide) e7 rfl (Nat.le_of_ble_eq_true rfl) (Nat.le_of_ble_eq_true rfl) (t_X2_refuse E _ e5 isR_rfl) ?_
    obtain rfl := y0 hf
    exact mw_return dX2_readLeaf_22 rfl hk
  · rw [if_neg c3] at hf
    refine mw_aload_n (x := (some a0)) dX2_readLeaf_9 rfl ?_
    obtain ⟨x8, e9, hf⟩ := ob hf
    refine ml_getI dX2_readLeaf_10 fl_RX2_53 rfl e9 ?_
    refine mw_iload_n (x := v2) dX2_readLeaf_13 rfl ?_
    refine mw_icmp_le (tgt := 23) dX2_readLeaf_14 rfl (fun c10 => ?_) (fun c10 => ?_)
    · rw [if_pos c10] at hf
      refine mw_aload_n (x := (some a0)) dX2_readLeaf_23 rfl ?_
      refine mw_iload_n (x := v1) dX2_readLeaf_24 rfl ?_
      refine mw_aload_n (x := (some a0)) dX2_readLeaf_25 rfl ?_
      obtain ⟨x11, e12, hf⟩ := ob hf
      refine ml_getI dX2_readLeaf_26 fl_RX2_53 rfl e12 ?_
      refine mw_iadd dX2_readLeaf_29 ?_
      refine mw_bipush (v := 13) dX2_readLeaf_30 (by decide) ?_
      refine mw_isub dX2_readLeaf_32 ?_
      obtain ⟨g15, e16, hf⟩ := ob hf
      obtain ⟨h13, e14, hf⟩ := ob hf
      refine ml_callV (ci := 2) (mc' := 0) (ms' := 0) [vi ((v1 + x11) - (13 : Int32))] dX2_readLeaf_33 mk_X2_putStep lk_RX2_202 im_X2_putStep se_X2_putStep (by decide) e16 rfl (Nat.le_of_ble_eq_true rfl) (Nat.le_of_ble_eq_true rfl) (t_X2_putStep E _ e14 isR_rfl) ?_
      refine mw_aload_n (x := (some a0)) dX2_readLeaf_36 rfl ?_
      obtain ⟨g19, e20, hf⟩ := ob hf
      obtain ⟨h17, e18, hf⟩ := ob hf
      refine ml_callV (ci := 2) (mc' := 0) (ms' := 0) [] dX2_readLeaf_37 mk_X2_nextToken lk_RX2_50 im_X2_nextToken se_X2_nextToken (by decide) e20 rfl (Nat.le_of_ble_eq_true rfl) (Nat.le_of_ble_eq_true rfl) (t_X2_nextToken E _ e18 isR_rfl) ?_
      obtain rfl := y0 hf
      exact mw_return dX2_readLeaf_40 rfl hk
    · rw [if_neg c10] at hf
      refine mw_aload_n (x := (some a0)) dX2_readLeaf_17 rfl ?_
      refine mw_iconst (v := 2) dX2_readLeaf_18 (by decide) ?_
      obtain ⟨g23, e24, hf⟩ := ob hf
      obtain ⟨h21, e22, hf⟩ := ob hf
      refine ml_callV (ci := 2) (mc' := 0) (ms' := 0) [vi (2 : Int32)] dX2_readLeaf_19 mk_X2_refuse lk_RX2_119 im_X2_refuse se_X2_refuse (by decide) e24 rfl (Nat.le_of_ble_eq_true rfl) (Nat.le_of_ble_eq_true rfl) (t_X2_refuse E _ e22 isR_rfl) ?_
      obtain rfl := y0 hf
      exact mw_return dX2_readLeaf_22 rfl hk
def f_X2_scanNumber_L7 : Nat → Nat → Int32 → Int32 → Hp → Option ((Int32 × Hp))
  | 0, _, _, _, _ => none
  | n + 1, a0, v1, v2, h =>
    (getI h (some a0) 2 2).bind fun x3 =>
    (getI h (some a0) 2 1).bind fun x5 =>
    if x5 ≤ x3 then
      some (v2, h)
    else
      (getI h (some a0) 2 2).bind fun x8 =>
      (rc h (some a0) 2).bind fun g12 =>
      b1 (f_X2_byteAt g12 x8 h) fun x14 h10 =>
      b1 (f_X2_isDigit x14 h10) fun x17 h15 =>
      if x17 = (0 : Int32) then
        some (v2, h15)
      else
        (getI h15 (some a0) 2 2).bind fun x19 =>
        (rc h15 (some a0) 2).bind fun g23 =>
        b1 (f_X2_byteAt g23 x19 h15) fun x25 h21 =>
        (getI h21 (some a0) 2 2).bind fun x26 =>
        (putI h21 (some a0) 2 2 (x26 + (1 : Int32))).bind fun h28 =>
        f_X2_scanNumber_L7 n a0 v1 (((v2 * (10 : Int32)) + x25) - (48 : Int32)) h28
def f_X2_scanNumber (a0 : Nat) (h : Hp) : Option (Int32 × Hp) :=
  (getI h (some a0) 2 2).bind fun x1 =>
  b1 (f_X2_scanNumber_L7 fu a0 x1 0 h) fun w30 h31 =>
  (getI h31 (some a0) 2 2).bind fun x32 =>
  b1 ((if (4 : Int32) < (x32 - x1) then
      some (0, h31)
    else
      (getI h31 (some a0) 2 2).bind fun x46 =>
      (rc h31 (some a0) 2).bind fun g50 =>
      b1 (f_X2_byteAt g50 x46 h31) fun x52 h48 =>
      b1 (f_X2_isLetter x52 h48) fun x55 h53 =>
      if x55 = (0 : Int32) then
        some (1, h53)
      else
        some (0, h53) : Option (Int32 × Hp))) fun w57 h58 =>
  b1 ((if w57 = (0 : Int32) then
      some (26, h58)
    else
      some (((1000 : Int32) + w30), h58) : Option (Int32 × Hp))) fun w61 h62 =>
  some (w61, h62)
set_option maxHeartbeats 4000000 in
theorem tl_X2_scanNumber_7 (E : En) (d : Nat) {mc ms : Nat} {K : Option Vv → Hp → Prop} : ∀ (n : Nat) (a0 : Nat) (v1 : Int32) (v2 : Int32) (h : Hp) (u2 : Int32) (hz : Hp), f_X2_scanNumber_L7 n a0 v1 v2 h = some (u2, hz) → MW E m_X2_scanNumber (d + 1) mc ms 62 [some (vq (some a0)), some (vi v1), some (vi u2), none] [] hz K → MW E m_X2_scanNumber (d + 1) mc ms 7 [some (vq (some a0)), some (vi v1), some (vi v2), none] [] h K := by
  intro n
  induction n with
  | zero => intro a0 v1 v2 h u2 hz hf; exact nomatch (show none = some _ from hf)
  | succ n ih =>
    intro a0 v1 v2 h u2 hz hf hX62
    rw [f_X2_scanNumber_L7] at hf
    refine mw_aload_n (x := (some a0)) dX2_scanNumber_7 rfl ?_
    obtain ⟨x3, e4, hf⟩ := ob hf
    refine ml_getI dX2_scanNumber_8 fl_RX2_66 rfl e4 ?_
    refine mw_aload_n (x := (some a0)) dX2_scanNumber_11 rfl ?_
    obtain ⟨x5, e6, hf⟩ := ob hf
    refine ml_getI dX2_scanNumber_12 fl_RX2_32 rfl e6 ?_
    refine mw_icmp_ge (tgt := 62) dX2_scanNumber_15 rfl (fun c7 => ?_) (fun c7 => ?_)
    · rw [if_pos c7] at hf
      obtain ⟨rfl, rfl⟩ := y1 hf
      exact MW.sub (subL_s (subL_s (subL_s (subL_n subL_nil)))) hX62
    · rw [if_neg c7] at hf
      refine mw_aload_n (x := (some a0)) dX2_scanNumber_18 rfl ?_
      refine mw_aload_n (x := (some a0)) dX2_scanNumber_19 rfl ?_
      obtain ⟨x8, e9, hf⟩ := ob hf
      refine ml_getI dX2_scanNumber_20 fl_RX2_66 rfl e9 ?_
      obtain ⟨g12, e13, hf⟩ := ob hf
      obtain ⟨x14, h10, e11, hf⟩ := ob1 hf
      refine ml_callV (ci := 2) (mc' := 0) (ms' := 0) [vi x8] dX2_scanNumber_23 mk_X2_byteAt lk_RX2_72 im_X2_byteAt se_X2_byteAt (by decide) e13 rfl (Nat.le_of_ble_eq_true rfl) (Nat.le_of_ble_eq_true rfl) (t_X2_byteAt E _ e11 isR_rfl) ?_
      obtain ⟨x17, h15, e16, hf⟩ := ob1 hf
      refine ml_callS (mc' := 0) (ms' := 0) [vi x14] dX2_scanNumber_26 mk_X2_isDigit lk_RX2_90 st_X2_isDigit rfl (Nat.le_of_ble_eq_true rfl) (Nat.le_of_ble_eq_true rfl) (t_X2_isDigit E _ e16 isR_rfl) ?_
      refine mw_if_eq (tgt := 62) dX2_scanNumber_29 rfl (fun c18 => ?_) (fun c18 => ?_)
      · rw [if_pos c18] at hf
        obtain ⟨rfl, rfl⟩ := y1 hf
        exact MW.sub (subL_s (subL_s (subL_s (subL_n subL_nil)))) hX62
      · rw [if_neg c18] at hf
        refine mw_iload_n (x := v2) dX2_scanNumber_32 rfl ?_
        refine mw_bipush (v := 10) dX2_scanNumber_33 (by decide) ?_
        refine mw_imul dX2_scanNumber_35 ?_
        refine mw_aload_n (x := (some a0)) dX2_scanNumber_36 rfl ?_
        refine mw_aload_n (x := (some a0)) dX2_scanNumber_37 rfl ?_
        obtain ⟨x19, e20, hf⟩ := ob hf
        refine ml_getI dX2_scanNumber_38 fl_RX2_66 rfl e20 ?_
        obtain ⟨g23, e24, hf⟩ := ob hf
        obtain ⟨x25, h21, e22, hf⟩ := ob1 hf
        refine ml_callV (ci := 2) (mc' := 0) (ms' := 0) [vi x19] dX2_scanNumber_41 mk_X2_byteAt lk_RX2_72 im_X2_byteAt se_X2_byteAt (by decide) e24 rfl (Nat.le_of_ble_eq_true rfl) (Nat.le_of_ble_eq_true rfl) (t_X2_byteAt E _ e22 isR_rfl) ?_
        refine mw_iadd dX2_scanNumber_44 ?_
        refine mw_bipush (v := 48) dX2_scanNumber_45 (by decide) ?_
        refine mw_isub dX2_scanNumber_47 ?_
        refine mw_istore_n dX2_scanNumber_48 (by decide) rfl ?_
        refine mw_aload_n (x := (some a0)) dX2_scanNumber_49 rfl ?_
        refine mw_dupq dX2_scanNumber_50 ?_
        obtain ⟨x26, e27, hf⟩ := ob hf
        refine ml_getI dX2_scanNumber_51 fl_RX2_66 rfl e27 ?_
        refine mw_iconst (v := 1) dX2_scanNumber_54 (by decide) ?_
        refine mw_iadd dX2_scanNumber_55 ?_
        obtain ⟨h28, e29, hf⟩ := ob hf
        refine ml_putI dX2_scanNumber_56 fl_RX2_66 (Or.inl rfl) rfl rfl e29 ?_
        refine mw_goto (tgt := 7) dX2_scanNumber_59 rfl ?_
        exact MW.sub (subL_s (subL_s (subL_s (subL_n subL_nil)))) (ih _ _ _ _ _ _ hf hX62)
set_option maxHeartbeats 4000000 in
theorem t_X2_scanNumber (E : En) (d : Nat) {mc ms : Nat} {a0 : Nat} {h h' : Hp} {r : Int32} {K : Option Vv → Hp → Prop} (hf : f_X2_scanNumber a0 h = some (r, h')) (hk : K (some (vi r)) h') : MC E m_X2_scanNumber (d + 1) mc ms [vq (some a0)] h K := by
  unfold f_X2_scanNumber at hf
  show MW E m_X2_scanNumber (d + 1) mc ms 0 [some (vq (some a0)), none, none, none] [] h K
  refine mw_aload_n (x := (some a0)) dX2_scanNumber_0 rfl ?_
  obtain ⟨x1, e2, hf⟩ := ob hf
  refine ml_getI dX2_scanNumber_1 fl_RX2_66 rfl e2 ?_
  refine mw_istore_n dX2_scanNumber_4 (by decide) rfl ?_
  refine mw_iconst (v := 0) dX2_scanNumber_5 (by decide) ?_
  refine mw_istore_n dX2_scanNumber_6 (by decide) rfl ?_
  obtain ⟨w30, h31, e64, hf⟩ := ob1 hf
  refine MW.sub (subL_s (subL_s (subL_s (subL_n subL_nil)))) (tl_X2_scanNumber_7 E d _ _ _ _ _ _ _ e64 ?_)
  refine mw_aload_n (x := (some a0)) dX2_scanNumber_62 rfl ?_
  obtain ⟨x32, e33, hf⟩ := ob hf
  refine ml_getI dX2_scanNumber_63 fl_RX2_66 rfl e33 ?_
  refine mw_iload_n (x := x1) dX2_scanNumber_66 rfl ?_
  refine mw_isub dX2_scanNumber_67 ?_
  refine mw_iconst (v := 4) dX2_scanNumber_68 (by decide) ?_
  obtain ⟨w57, h58, r59, hf⟩ := ob1 hf
  have J66 : MW E m_X2_scanNumber (d + 1) mc ms 91 [none, none, some (vi w30), none] [vi w57] h58 K := by
    refine mw_istore_n dX2_scanNumber_91 (by decide) rfl ?_
    refine mw_iload_n (x := w57) dX2_scanNumber_92 rfl ?_
    obtain ⟨w61, h62, r63, hf⟩ := ob1 hf
    have J67 : MW E m_X2_scanNumber (d + 1) mc ms 106 [none, none, none, none] [vi w61] h62 K := by
      obtain ⟨rfl, rfl⟩ := y1 hf
      exact mw_ireturn dX2_scanNumber_106 rfl rfl hk
    refine mw_if_eq (tgt := 104) dX2_scanNumber_93 rfl (fun c60 => ?_) (fun c60 => ?_)
    · rw [if_pos c60] at r63
      refine mw_bipush (v := 26) dX2_scanNumber_104 (by decide) ?_
      obtain ⟨rfl, rfl⟩ := y1 r63
      exact MW.sub (subL_n (subL_n (subL_n (subL_n subL_nil)))) J67
    · rw [if_neg c60] at r63
      refine mw_sipush (v := 1000) dX2_scanNumber_96 (by decide) ?_
      refine mw_iload_n (x := w30) dX2_scanNumber_99 rfl ?_
      refine mw_iadd dX2_scanNumber_100 ?_
      refine mw_goto (tgt := 106) dX2_scanNumber_101 rfl ?_
      obtain ⟨rfl, rfl⟩ := y1 r63
      exact MW.sub (subL_n (subL_n (subL_n (subL_n subL_nil)))) J67
  refine mw_icmp_gt (tgt := 90) dX2_scanNumber_69 rfl (fun c34 => ?_) (fun c34 => ?_)
  · rw [if_pos c34] at r59
    refine mw_iconst (v := 0) dX2_scanNumber_90 (by decide) ?_
    obtain ⟨rfl, rfl⟩ := y1 r59
    exact MW.sub (subL_n (subL_n (subL_s (subL_n subL_nil)))) J66
  · rw [if_neg c34] at r59
    refine mw_aload_n (x := (some a0)) dX2_scanNumber_72 rfl ?_
    refine mw_aload_n (x := (some a0)) dX2_scanNumber_73 rfl ?_
    obtain ⟨x46, e47, r59⟩ := ob r59
    refine ml_getI dX2_scanNumber_74 fl_RX2_66 rfl e47 ?_
    obtain ⟨g50, e51, r59⟩ := ob r59
    obtain ⟨x52, h48, e49, r59⟩ := ob1 r59
    refine ml_callV (ci := 2) (mc' := 0) (ms' := 0) [vi x46] dX2_scanNumber_77 mk_X2_byteAt lk_RX2_72 im_X2_byteAt se_X2_byteAt (by decide) e51 rfl (Nat.le_of_ble_eq_true rfl) (Nat.le_of_ble_eq_true rfl) (t_X2_byteAt E _ e49 isR_rfl) ?_
    obtain ⟨x55, h53, e54, r59⟩ := ob1 r59
    refine ml_callS (mc' := 0) (ms' := 0) [vi x52] dX2_scanNumber_80 mk_X2_isLetter lk_RX2_84 st_X2_isLetter rfl (Nat.le_of_ble_eq_true rfl) (Nat.le_of_ble_eq_true rfl) (t_X2_isLetter E _ e54 isR_rfl) ?_
    refine mw_if_ne (tgt := 90) dX2_scanNumber_83 rfl (fun c56 => ?_) (fun c56 => ?_)
    · rw [if_neg c56] at r59
      refine mw_iconst (v := 0) dX2_scanNumber_90 (by decide) ?_
      obtain ⟨rfl, rfl⟩ := y1 r59
      exact MW.sub (subL_n (subL_n (subL_s (subL_n subL_nil)))) J66
    · rw [if_pos c56] at r59
      refine mw_iconst (v := 1) dX2_scanNumber_86 (by decide) ?_
      refine mw_goto (tgt := 91) dX2_scanNumber_87 rfl ?_
      obtain ⟨rfl, rfl⟩ := y1 r59
      exact MW.sub (subL_n (subL_n (subL_s (subL_n subL_nil)))) J66
def f_X2_scanWord_L5 : Nat → Nat → Int32 → Hp → Option ((Hp))
  | 0, _, _, _ => none
  | n + 1, a0, v1, h =>
    (getI h (some a0) 2 2).bind fun x3 =>
    (getI h (some a0) 2 1).bind fun x5 =>
    if x5 ≤ x3 then
      some h
    else
      (getI h (some a0) 2 2).bind fun x8 =>
      (rc h (some a0) 2).bind fun g12 =>
      b1 (f_X2_byteAt g12 x8 h) fun x14 h10 =>
      b1 (f_X2_isLetter x14 h10) fun x17 h15 =>
      if x17 = (0 : Int32) then
        some h15
      else
        (getI h15 (some a0) 2 2).bind fun x19 =>
        (putI h15 (some a0) 2 2 (x19 + (1 : Int32))).bind fun h21 =>
        f_X2_scanWord_L5 n a0 v1 h21
def f_X2_scanWord_L59 : Nat → Nat → Int32 → Int32 → Hp → Option ((Int32 × Hp) ⊕ (Hp))
  | 0, _, _, _, _ => none
  | n + 1, a0, v1, v2, h =>
    if (24 : Int32) ≤ v2 then
      some (Sum.inr h)
    else
      (rc h (some a0) 2).bind fun g30 =>
      b1 (f_X2_isWord g30 v2 v1 h) fun x32 h28 =>
      if x32 = (0 : Int32) then
        f_X2_scanWord_L59 n a0 v1 (v2 + 1) h28
      else
        some (Sum.inl (v2, h28))
def f_X2_scanWord (a0 : Nat) (h : Hp) : Option (Int32 × Hp) :=
  (getI h (some a0) 2 2).bind fun x1 =>
  (f_X2_scanWord_L5 fu a0 x1 h).bind fun h23 =>
  (getI h23 (some a0) 2 2).bind fun x24 =>
  if (x24 - x1) ≤ (8 : Int32) then
    (f_X2_scanWord_L59 fu a0 x1 0 h23).bind (Sum.elim (c1 fun w34 h35 => some (w34, h35)) (fun h36 => some (24, h36)))
  else
    some (26, h23)
set_option maxHeartbeats 4000000 in
theorem tl_X2_scanWord_5 (E : En) (d : Nat) {mc ms : Nat} {K : Option Vv → Hp → Prop} : ∀ (n : Nat) (a0 : Nat) (v1 : Int32) (h : Hp) (hz : Hp), f_X2_scanWord_L5 n a0 v1 h = some hz → MW E m_X2_scanWord (d + 5) mc ms 43 [some (vq (some a0)), some (vi v1), none] [] hz K → MW E m_X2_scanWord (d + 5) mc ms 5 [some (vq (some a0)), some (vi v1), none] [] h K := by
  intro n
  induction n with
  | zero => intro a0 v1 h hz hf; exact nomatch (show none = some _ from hf)
  | succ n ih =>
    intro a0 v1 h hz hf hX43
    rw [f_X2_scanWord_L5] at hf
    refine mw_aload_n (x := (some a0)) dX2_scanWord_5 rfl ?_
    obtain ⟨x3, e4, hf⟩ := ob hf
    refine ml_getI dX2_scanWord_6 fl_RX2_66 rfl e4 ?_
    refine mw_aload_n (x := (some a0)) dX2_scanWord_9 rfl ?_
    obtain ⟨x5, e6, hf⟩ := ob hf
    refine ml_getI dX2_scanWord_10 fl_RX2_32 rfl e6 ?_
    refine mw_icmp_ge (tgt := 43) dX2_scanWord_13 rfl (fun c7 => ?_) (fun c7 => ?_)
    · rw [if_pos c7] at hf
      obtain rfl := y0 hf
      exact MW.sub (subL_s (subL_s (subL_n subL_nil))) hX43
    · rw [if_neg c7] at hf
      refine mw_aload_n (x := (some a0)) dX2_scanWord_16 rfl ?_
      refine mw_aload_n (x := (some a0)) dX2_scanWord_17 rfl ?_
      obtain ⟨x8, e9, hf⟩ := ob hf
      refine ml_getI dX2_scanWord_18 fl_RX2_66 rfl e9 ?_
      obtain ⟨g12, e13, hf⟩ := ob hf
      obtain ⟨x14, h10, e11, hf⟩ := ob1 hf
      refine ml_callV (ci := 2) (mc' := 0) (ms' := 0) [vi x8] dX2_scanWord_21 mk_X2_byteAt lk_RX2_72 im_X2_byteAt se_X2_byteAt (by decide) e13 rfl (Nat.le_of_ble_eq_true rfl) (Nat.le_of_ble_eq_true rfl) (t_X2_byteAt E _ e11 isR_rfl) ?_
      obtain ⟨x17, h15, e16, hf⟩ := ob1 hf
      refine ml_callS (mc' := 0) (ms' := 0) [vi x14] dX2_scanWord_24 mk_X2_isLetter lk_RX2_84 st_X2_isLetter rfl (Nat.le_of_ble_eq_true rfl) (Nat.le_of_ble_eq_true rfl) (t_X2_isLetter E _ e16 isR_rfl) ?_
      refine mw_if_eq (tgt := 43) dX2_scanWord_27 rfl (fun c18 => ?_) (fun c18 => ?_)
      · rw [if_pos c18] at hf
        obtain rfl := y0 hf
        exact MW.sub (subL_s (subL_s (subL_n subL_nil))) hX43
      · rw [if_neg c18] at hf
        refine mw_aload_n (x := (some a0)) dX2_scanWord_30 rfl ?_
        refine mw_dupq dX2_scanWord_31 ?_
        obtain ⟨x19, e20, hf⟩ := ob hf
        refine ml_getI dX2_scanWord_32 fl_RX2_66 rfl e20 ?_
        refine mw_iconst (v := 1) dX2_scanWord_35 (by decide) ?_
        refine mw_iadd dX2_scanWord_36 ?_
        obtain ⟨h21, e22, hf⟩ := ob hf
        refine ml_putI dX2_scanWord_37 fl_RX2_66 (Or.inl rfl) rfl rfl e22 ?_
        refine mw_goto (tgt := 5) dX2_scanWord_40 rfl ?_
        exact MW.sub (subL_s (subL_s (subL_n subL_nil))) (ih _ _ _ _ hf hX43)
set_option maxHeartbeats 4000000 in
theorem tl_X2_scanWord_59 (E : En) (d : Nat) {mc ms : Nat} {K : Option Vv → Hp → Prop} : ∀ (n : Nat) (a0 : Nat) (v1 : Int32) (v2 : Int32) (h : Hp) (o : (Int32 × Hp) ⊕ (Hp)), f_X2_scanWord_L59 n a0 v1 v2 h = some o → (∀ (u2 : Int32) (hz : Hp), o = Sum.inl (u2, hz) → MW E m_X2_scanWord (d + 5) mc ms 74 [none, none, some (vi u2)] [] hz K) → (∀ (hz : Hp), o = Sum.inr hz → MW E m_X2_scanWord (d + 5) mc ms 82 [none, none, none] [] hz K) → MW E m_X2_scanWord (d + 5) mc ms 59 [some (vq (some a0)), some (vi v1), some (vi v2)] [] h K := by
  intro n
  induction n with
  | zero => intro a0 v1 v2 h o hf; exact nomatch (show none = some _ from hf)
  | succ n ih =>
    intro a0 v1 v2 h o hf hX74 hX82
    rw [f_X2_scanWord_L59] at hf
    refine mw_iload_n (x := v2) dX2_scanWord_59 rfl ?_
    refine mw_bipush (v := 24) dX2_scanWord_60 (by decide) ?_
    refine mw_icmp_ge (tgt := 82) dX2_scanWord_62 rfl (fun c27 => ?_) (fun c27 => ?_)
    · rw [if_pos c27] at hf
      obtain rfl := y0 hf
      exact MW.sub (subL_n (subL_n (subL_n subL_nil))) (hX82 _ rfl)
    · rw [if_neg c27] at hf
      refine mw_aload_n (x := (some a0)) dX2_scanWord_65 rfl ?_
      refine mw_iload_n (x := v2) dX2_scanWord_66 rfl ?_
      refine mw_iload_n (x := v1) dX2_scanWord_67 rfl ?_
      obtain ⟨g30, e31, hf⟩ := ob hf
      obtain ⟨x32, h28, e29, hf⟩ := ob1 hf
      refine ml_callV (ci := 2) (mc' := 0) (ms' := 0) [vi v2, vi v1] dX2_scanWord_68 mk_X2_isWord lk_RX2_103 im_X2_isWord se_X2_isWord (by decide) e31 rfl (Nat.le_of_ble_eq_true rfl) (Nat.le_of_ble_eq_true rfl) (t_X2_isWord E _ e29 isR_rfl) ?_
      refine mw_if_eq (tgt := 76) dX2_scanWord_71 rfl (fun c33 => ?_) (fun c33 => ?_)
      · rw [if_pos c33] at hf
        refine mw_iinc (x := v2) (v := v2 + 1) dX2_scanWord_76 rfl rfl (by decide) rfl ?_
        refine mw_goto (tgt := 59) dX2_scanWord_79 rfl ?_
        exact MW.sub (subL_s (subL_s (subL_s subL_nil))) (ih _ _ _ _ _ hf hX74 hX82)
      · rw [if_neg c33] at hf
        obtain rfl := y0 hf
        exact MW.sub (subL_n (subL_n (subL_s subL_nil))) (hX74 _ _ rfl)
set_option maxHeartbeats 4000000 in
theorem t_X2_scanWord (E : En) (d : Nat) {mc ms : Nat} {a0 : Nat} {h h' : Hp} {r : Int32} {K : Option Vv → Hp → Prop} (hf : f_X2_scanWord a0 h = some (r, h')) (hk : K (some (vi r)) h') : MC E m_X2_scanWord (d + 5) mc ms [vq (some a0)] h K := by
  unfold f_X2_scanWord at hf
  show MW E m_X2_scanWord (d + 5) mc ms 0 [some (vq (some a0)), none, none] [] h K
  refine mw_aload_n (x := (some a0)) dX2_scanWord_0 rfl ?_
  obtain ⟨x1, e2, hf⟩ := ob hf
  refine ml_getI dX2_scanWord_1 fl_RX2_66 rfl e2 ?_
  refine mw_istore_n dX2_scanWord_4 (by decide) rfl ?_
  obtain ⟨h23, e39, hf⟩ := ob hf
  refine MW.sub (subL_s (subL_s (subL_n subL_nil))) (tl_X2_scanWord_5 E d _ _ _ _ _ e39 ?_)
  refine mw_aload_n (x := (some a0)) dX2_scanWord_43 rfl ?_
  obtain ⟨x24, e25, hf⟩ := ob hf
  refine ml_getI dX2_scanWord_44 fl_RX2_66 rfl e25 ?_
  refine mw_iload_n (x := x1) dX2_scanWord_47 rfl ?_
  refine mw_isub dX2_scanWord_48 ?_
  refine mw_bipush (v := 8) dX2_scanWord_49 (by decide) ?_
  refine mw_icmp_le (tgt := 57) dX2_scanWord_51 rfl (fun c26 => ?_) (fun c26 => ?_)
  · rw [if_pos c26] at hf
    refine mw_iconst (v := 0) dX2_scanWord_57 (by decide) ?_
    refine mw_istore_n dX2_scanWord_58 (by decide) rfl ?_
    obtain ⟨o38, e37, hf⟩ := ob hf
    rcases o38 with ⟨w34, h35⟩ | h36
    · have HX : MW E m_X2_scanWord (d + 5) mc ms 74 [none, none, some (vi w34)] [] h35 K := by
        refine mw_iload_n (x := w34) dX2_scanWord_74 rfl ?_
        obtain ⟨rfl, rfl⟩ := y1 hf
        exact mw_ireturn dX2_scanWord_75 rfl rfl hk
      exact MW.sub (subL_s (subL_s (subL_s subL_nil))) (tl_X2_scanWord_59 E d _ _ _ _ _ _ e37 (fun _ _ q => by cases q; exact HX) (fun _ q => by cases q))
    · have HX : MW E m_X2_scanWord (d + 5) mc ms 82 [none, none, none] [] h36 K := by
        refine mw_bipush (v := 24) dX2_scanWord_82 (by decide) ?_
        obtain ⟨rfl, rfl⟩ := y1 hf
        exact mw_ireturn dX2_scanWord_84 rfl rfl hk
      exact MW.sub (subL_s (subL_s (subL_s subL_nil))) (tl_X2_scanWord_59 E d _ _ _ _ _ _ e37 (fun _ _ q => by cases q) (fun _ q => by cases q; exact HX))
  · rw [if_neg c26] at hf
    refine mw_bipush (v := 26) dX2_scanWord_54 (by decide) ?_
    obtain ⟨rfl, rfl⟩ := y1 hf
    exact mw_ireturn dX2_scanWord_56 rfl rfl hk
def f_X2_scanToken (a0 : Nat) (h : Hp) : Option (Int32 × Hp) :=
  (getI h (some a0) 2 2).bind fun x1 =>
  (rc h (some a0) 2).bind fun g5 =>
  b1 (f_X2_byteAt g5 x1 h) fun x7 h3 =>
  if x7 = ((-1) : Int32) then
    some (25, h3)
  else
    b1 (f_X2_isLetter x7 h3) fun x11 h9 =>
    if x11 = (0 : Int32) then
      b1 (f_X2_isDigit x7 h9) fun x15 h13 =>
      if x15 = (0 : Int32) then
        (getI h13 (some a0) 2 2).bind fun x17 =>
        (putI h13 (some a0) 2 2 (x17 + (1 : Int32))).bind fun h19 =>
        (rcS (some 4)).bind fun g23 =>
        b1 (f_J0_indexOf_0f7a4 g23 ((x7.toUInt32 % 65536).toInt32) h19) fun x25 h21 =>
        b1 ((if x25 < (0 : Int32) then
            some (26, h21)
          else
            some (x7, h21) : Option (Int32 × Hp))) fun w27 h28 =>
        some (w27, h28)
      else
        (rc h13 (some a0) 2).bind fun g32 =>
        b1 (f_X2_scanNumber g32 h13) fun x34 h30 =>
        some (x34, h30)
    else
      (rc h9 (some a0) 2).bind fun g37 =>
      b1 (f_X2_scanWord g37 h9) fun x39 h35 =>
      some (x39, h35)
set_option maxHeartbeats 4000000 in
theorem t_X2_scanToken (E : En) (d : Nat) {mc ms : Nat} {a0 : Nat} {h h' : Hp} {r : Int32} {K : Option Vv → Hp → Prop} (hf : f_X2_scanToken a0 h = some (r, h')) (hk : K (some (vi r)) h') : MC E m_X2_scanToken (d + 6) mc ms [vq (some a0)] h K := by
  unfold f_X2_scanToken at hf
  show MW E m_X2_scanToken (d + 6) mc ms 0 [some (vq (some a0)), none] [] h K
  refine mw_aload_n (x := (some a0)) dX2_scanToken_0 rfl ?_
  refine mw_aload_n (x := (some a0)) dX2_scanToken_1 rfl ?_
  obtain ⟨x1, e2, hf⟩ := ob hf
  refine ml_getI dX2_scanToken_2 fl_RX2_66 rfl e2 ?_
  obtain ⟨g5, e6, hf⟩ := ob hf
  obtain ⟨x7, h3, e4, hf⟩ := ob1 hf
  refine ml_callV (ci := 2) (mc' := 0) (ms' := 0) [vi x1] dX2_scanToken_5 mk_X2_byteAt lk_RX2_72 im_X2_byteAt se_X2_byteAt (by decide) e6 rfl (Nat.le_of_ble_eq_true rfl) (Nat.le_of_ble_eq_true rfl) (t_X2_byteAt E _ e4 isR_rfl) ?_
  refine mw_istore_n dX2_scanToken_8 (by decide) rfl ?_
  refine mw_iload_n (x := x7) dX2_scanToken_9 rfl ?_
  refine mw_iconst (v := (-1)) dX2_scanToken_10 (by decide) ?_
  refine mw_icmp_ne (tgt := 17) dX2_scanToken_11 rfl (fun c8 => ?_) (fun c8 => ?_)
  · rw [if_neg c8] at hf
    refine mw_iload_n (x := x7) dX2_scanToken_17 rfl ?_
    obtain ⟨x11, h9, e10, hf⟩ := ob1 hf
    refine ml_callS (mc' := 0) (ms' := 0) [vi x7] dX2_scanToken_18 mk_X2_isLetter lk_RX2_84 st_X2_isLetter rfl (Nat.le_of_ble_eq_true rfl) (Nat.le_of_ble_eq_true rfl) (t_X2_isLetter E _ e10 isR_rfl) ?_
    refine mw_if_eq (tgt := 29) dX2_scanToken_21 rfl (fun c12 => ?_) (fun c12 => ?_)
    · rw [if_pos c12] at hf
      refine mw_iload_n (x := x7) dX2_scanToken_29 rfl ?_
      obtain ⟨x15, h13, e14, hf⟩ := ob1 hf
      refine ml_callS (mc' := 0) (ms' := 0) [vi x7] dX2_scanToken_30 mk_X2_isDigit lk_RX2_90 st_X2_isDigit rfl (Nat.le_of_ble_eq_true rfl) (Nat.le_of_ble_eq_true rfl) (t_X2_isDigit E _ e14 isR_rfl) ?_
      refine mw_if_eq (tgt := 41) dX2_scanToken_33 rfl (fun c16 => ?_) (fun c16 => ?_)
      · rw [if_pos c16] at hf
        refine mw_aload_n (x := (some a0)) dX2_scanToken_41 rfl ?_
        refine mw_dupq dX2_scanToken_42 ?_
        obtain ⟨x17, e18, hf⟩ := ob hf
        refine ml_getI dX2_scanToken_43 fl_RX2_66 rfl e18 ?_
        refine mw_iconst (v := 1) dX2_scanToken_46 (by decide) ?_
        refine mw_iadd dX2_scanToken_47 ?_
        obtain ⟨h19, e20, hf⟩ := ob hf
        refine ml_putI dX2_scanToken_48 fl_RX2_66 (Or.inl rfl) rfl rfl e20 ?_
        refine mw_ldcS1 rfl dX2_scanToken_51 ?_
        refine mw_iload_n (x := x7) dX2_scanToken_53 rfl ?_
        refine mw_i2c dX2_scanToken_54 ?_
        obtain ⟨g23, e24, hf⟩ := ob hf
        obtain ⟨x25, h21, e22, hf⟩ := ob1 hf
        refine ml_callVS (mc' := 0) (ms' := 0) [vi ((x7.toUInt32 % 65536).toInt32)] dX2_scanToken_55 mk_J0_indexOf_0f7a4 lk_RX2_98 im_J0_indexOf_0f7a4 se_J0_indexOf_0f7a4 e24 rfl (Nat.le_of_ble_eq_true rfl) (Nat.le_of_ble_eq_true rfl) (t_J0_indexOf_0f7a4 E _ e22 isR_rfl) ?_
        obtain ⟨w27, h28, r29, hf⟩ := ob1 hf
        have J40 : MW E m_X2_scanToken (d + 6) mc ms 67 [none, none] [vi w27] h28 K := by
          obtain ⟨rfl, rfl⟩ := y1 hf
          exact mw_ireturn dX2_scanToken_67 rfl rfl hk
        refine mw_if_lt (tgt := 65) dX2_scanToken_58 rfl (fun c26 => ?_) (fun c26 => ?_)
        · rw [if_pos c26] at r29
          refine mw_bipush (v := 26) dX2_scanToken_65 (by decide) ?_
          obtain ⟨rfl, rfl⟩ := y1 r29
          exact MW.sub (subL_n (subL_n subL_nil)) J40
        · rw [if_neg c26] at r29
          refine mw_iload_n (x := x7) dX2_scanToken_61 rfl ?_
          refine mw_goto (tgt := 67) dX2_scanToken_62 rfl ?_
          obtain ⟨rfl, rfl⟩ := y1 r29
          exact MW.sub (subL_n (subL_n subL_nil)) J40
      · rw [if_neg c16] at hf
        refine mw_aload_n (x := (some a0)) dX2_scanToken_36 rfl ?_
        obtain ⟨g32, e33, hf⟩ := ob hf
        obtain ⟨x34, h30, e31, hf⟩ := ob1 hf
        refine ml_callV (ci := 2) (mc' := 0) (ms' := 0) [] dX2_scanToken_37 mk_X2_scanNumber lk_RX2_93 im_X2_scanNumber se_X2_scanNumber (by decide) e33 rfl (Nat.le_of_ble_eq_true rfl) (Nat.le_of_ble_eq_true rfl) (t_X2_scanNumber E _ e31 isR_rfl) ?_
        obtain ⟨rfl, rfl⟩ := y1 hf
        exact mw_ireturn dX2_scanToken_40 rfl rfl hk
    · rw [if_neg c12] at hf
      refine mw_aload_n (x := (some a0)) dX2_scanToken_24 rfl ?_
      obtain ⟨g37, e38, hf⟩ := ob hf
      obtain ⟨x39, h35, e36, hf⟩ := ob1 hf
      refine ml_callV (ci := 2) (mc' := 0) (ms' := 0) [] dX2_scanToken_25 mk_X2_scanWord lk_RX2_87 im_X2_scanWord se_X2_scanWord (by decide) e38 rfl (Nat.le_of_ble_eq_true rfl) (Nat.le_of_ble_eq_true rfl) (t_X2_scanWord E _ e36 isR_rfl) ?_
      obtain ⟨rfl, rfl⟩ := y1 hf
      exact mw_ireturn dX2_scanToken_28 rfl rfl hk
  · rw [if_pos c8] at hf
    refine mw_bipush (v := 25) dX2_scanToken_14 (by decide) ?_
    obtain ⟨rfl, rfl⟩ := y1 hf
    exact mw_ireturn dX2_scanToken_16 rfl rfl hk
def f_X2_splitTape_L35 : Nat → Nat → Int32 → Hp → Option ((Hp))
  | 0, _, _, _ => none
  | n + 1, a0, v2, h =>
    (getI h (some a0) 2 2).bind fun x8 =>
    (getI h (some a0) 2 1).bind fun x10 =>
    if x10 ≤ x8 then
      some h
    else
      (getI h (some a0) 2 2).bind fun x13 =>
      (rc h (some a0) 2).bind fun g17 =>
      b1 (f_X2_byteAt g17 x13 h) fun x19 h15 =>
      b1 (f_X2_isBlank x19 h15) fun x22 h20 =>
      if x22 = (0 : Int32) then
        some h20
      else
        (getI h20 (some a0) 2 2).bind fun x24 =>
        (putI h20 (some a0) 2 2 (x24 + (1 : Int32))).bind fun h26 =>
        f_X2_splitTape_L35 n a0 v2 h26
def f_X2_splitTape_L16 : Nat → Nat → Int32 → Int32 → Hp → Option ((Hp))
  | 0, _, _, _, _ => none
  | n + 1, a0, v1, v2, h =>
    if (900 : Int32) < v2 then
      some h
    else
      if v1 = (26 : Int32) then
        some h
      else
        if v1 = (25 : Int32) then
          some h
        else
          (f_X2_splitTape_L35 fu a0 v2 h).bind fun h28 =>
          (getI h28 (some a0) 2 2).bind fun x29 =>
          (rc h28 (some a0) 2).bind fun g33 =>
          b1 (f_X2_scanToken g33 h28) fun x35 h31 =>
          (getI h31 (some a0) 2 5).bind fun x36 =>
          Option.bind ((if x36 < (0 : Int32) then
              some h31
            else
              (getI h31 (some a0) 2 5).bind fun x69 =>
              (getQ h31 (some a0) 2 3).bind fun x71 =>
              (aln h31 x71 10).bind fun x73 =>
              if x73 ≤ x69 then
                some h31
              else
                (getI h31 (some a0) 2 5).bind fun x76 =>
                (getQ h31 (some a0) 2 4).bind fun x78 =>
                (aln h31 x78 10).bind fun x80 =>
                if x80 ≤ x76 then
                  some h31
                else
                  (getQ h31 (some a0) 2 3).bind fun x83 =>
                  (getI h31 (some a0) 2 5).bind fun x85 =>
                  (wrI h31 x83 x85 x35).bind fun h87 =>
                  (getQ h87 (some a0) 2 4).bind fun x89 =>
                  (getI h87 (some a0) 2 5).bind fun x91 =>
                  (wrI h87 x89 x91 x29).bind fun h93 =>
                  (getI h93 (some a0) 2 5).bind fun x95 =>
                  (putI h93 (some a0) 2 5 (x95 + (1 : Int32))).bind fun h97 =>
                  some h97 : Option (Hp))) fun h99 =>
          f_X2_splitTape_L16 n a0 x35 (v2 + 1) h99
def f_X2_splitTape (a0 : Nat) (h : Hp) : Option (Hp) :=
  (putI h (some a0) 2 2 0).bind fun h1 =>
  (putI h1 (some a0) 2 5 0).bind fun h3 =>
  (f_X2_splitTape_L16 fu a0 1000 0 h3).bind fun h103 =>
  some h103
set_option maxHeartbeats 4000000 in
theorem tl_X2_splitTape_35 (E : En) (d : Nat) {mc ms : Nat} {K : Option Vv → Hp → Prop} : ∀ (n : Nat) (a0 : Nat) (v2 : Int32) (h : Hp) (hz : Hp), f_X2_splitTape_L35 n a0 v2 h = some hz → MW E m_X2_splitTape (d + 7) mc ms 73 [some (vq (some a0)), none, some (vi v2), none] [] hz K → MW E m_X2_splitTape (d + 7) mc ms 35 [some (vq (some a0)), none, some (vi v2), none] [] h K := by
  intro n
  induction n with
  | zero => intro a0 v2 h hz hf; exact nomatch (show none = some _ from hf)
  | succ n ih =>
    intro a0 v2 h hz hf hX73
    rw [f_X2_splitTape_L35] at hf
    refine mw_aload_n (x := (some a0)) dX2_splitTape_35 rfl ?_
    obtain ⟨x8, e9, hf⟩ := ob hf
    refine ml_getI dX2_splitTape_36 fl_RX2_66 rfl e9 ?_
    refine mw_aload_n (x := (some a0)) dX2_splitTape_39 rfl ?_
    obtain ⟨x10, e11, hf⟩ := ob hf
    refine ml_getI dX2_splitTape_40 fl_RX2_32 rfl e11 ?_
    refine mw_icmp_ge (tgt := 73) dX2_splitTape_43 rfl (fun c12 => ?_) (fun c12 => ?_)
    · rw [if_pos c12] at hf
      obtain rfl := y0 hf
      exact MW.sub (subL_s (subL_n (subL_s (subL_n subL_nil)))) hX73
    · rw [if_neg c12] at hf
      refine mw_aload_n (x := (some a0)) dX2_splitTape_46 rfl ?_
      refine mw_aload_n (x := (some a0)) dX2_splitTape_47 rfl ?_
      obtain ⟨x13, e14, hf⟩ := ob hf
      refine ml_getI dX2_splitTape_48 fl_RX2_66 rfl e14 ?_
      obtain ⟨g17, e18, hf⟩ := ob hf
      obtain ⟨x19, h15, e16, hf⟩ := ob1 hf
      refine ml_callV (ci := 2) (mc' := 0) (ms' := 0) [vi x13] dX2_splitTape_51 mk_X2_byteAt lk_RX2_72 im_X2_byteAt se_X2_byteAt (by decide) e18 rfl (Nat.le_of_ble_eq_true rfl) (Nat.le_of_ble_eq_true rfl) (t_X2_byteAt E _ e16 isR_rfl) ?_
      obtain ⟨x22, h20, e21, hf⟩ := ob1 hf
      refine ml_callS (mc' := 0) (ms' := 0) [vi x19] dX2_splitTape_54 mk_X2_isBlank lk_RX2_76 st_X2_isBlank rfl (Nat.le_of_ble_eq_true rfl) (Nat.le_of_ble_eq_true rfl) (t_X2_isBlank E _ e21 isR_rfl) ?_
      refine mw_if_eq (tgt := 73) dX2_splitTape_57 rfl (fun c23 => ?_) (fun c23 => ?_)
      · rw [if_pos c23] at hf
        obtain rfl := y0 hf
        exact MW.sub (subL_s (subL_n (subL_s (subL_n subL_nil)))) hX73
      · rw [if_neg c23] at hf
        refine mw_aload_n (x := (some a0)) dX2_splitTape_60 rfl ?_
        refine mw_dupq dX2_splitTape_61 ?_
        obtain ⟨x24, e25, hf⟩ := ob hf
        refine ml_getI dX2_splitTape_62 fl_RX2_66 rfl e25 ?_
        refine mw_iconst (v := 1) dX2_splitTape_65 (by decide) ?_
        refine mw_iadd dX2_splitTape_66 ?_
        obtain ⟨h26, e27, hf⟩ := ob hf
        refine ml_putI dX2_splitTape_67 fl_RX2_66 (Or.inl rfl) rfl rfl e27 ?_
        refine mw_goto (tgt := 35) dX2_splitTape_70 rfl ?_
        exact MW.sub (subL_s (subL_n (subL_s (subL_n subL_nil)))) (ih _ _ _ _ hf hX73)
set_option maxHeartbeats 4000000 in
theorem tl_X2_splitTape_16 (E : En) (d : Nat) {mc ms : Nat} {K : Option Vv → Hp → Prop} : ∀ (n : Nat) (a0 : Nat) (v1 : Int32) (v2 : Int32) (h : Hp) (hz : Hp), f_X2_splitTape_L16 n a0 v1 v2 h = some hz → MW E m_X2_splitTape (d + 7) mc ms 150 [none, none, none, none] [] hz K → MW E m_X2_splitTape (d + 7) mc ms 16 [some (vq (some a0)), some (vi v1), some (vi v2), none] [] h K := by
  intro n
  induction n with
  | zero => intro a0 v1 v2 h hz hf; exact nomatch (show none = some _ from hf)
  | succ n ih =>
    intro a0 v1 v2 h hz hf hX150
    rw [f_X2_splitTape_L16] at hf
    refine mw_iload_n (x := v2) dX2_splitTape_16 rfl ?_
    refine mw_sipush (v := 900) dX2_splitTape_17 (by decide) ?_
    refine mw_icmp_gt (tgt := 150) dX2_splitTape_20 rfl (fun c5 => ?_) (fun c5 => ?_)
    · rw [if_pos c5] at hf
      obtain rfl := y0 hf
      exact MW.sub (subL_n (subL_n (subL_n (subL_n subL_nil)))) hX150
    · rw [if_neg c5] at hf
      refine mw_iload_n (x := v1) dX2_splitTape_23 rfl ?_
      refine mw_bipush (v := 26) dX2_splitTape_24 (by decide) ?_
      refine mw_icmp_eq (tgt := 150) dX2_splitTape_26 rfl (fun c6 => ?_) (fun c6 => ?_)
      · rw [if_pos c6] at hf
        obtain rfl := y0 hf
        exact MW.sub (subL_n (subL_n (subL_n (subL_n subL_nil)))) hX150
      · rw [if_neg c6] at hf
        refine mw_iload_n (x := v1) dX2_splitTape_29 rfl ?_
        refine mw_bipush (v := 25) dX2_splitTape_30 (by decide) ?_
        refine mw_icmp_eq (tgt := 150) dX2_splitTape_32 rfl (fun c7 => ?_) (fun c7 => ?_)
        · rw [if_pos c7] at hf
          obtain rfl := y0 hf
          exact MW.sub (subL_n (subL_n (subL_n (subL_n subL_nil)))) hX150
        · rw [if_neg c7] at hf
          obtain ⟨h28, e101, hf⟩ := ob hf
          refine MW.sub (subL_s (subL_n (subL_s (subL_n subL_nil)))) (tl_X2_splitTape_35 E d _ _ _ _ _ e101 ?_)
          refine mw_aload_n (x := (some a0)) dX2_splitTape_73 rfl ?_
          obtain ⟨x29, e30, hf⟩ := ob hf
          refine ml_getI dX2_splitTape_74 fl_RX2_66 rfl e30 ?_
          refine mw_istore_n dX2_splitTape_77 (by decide) rfl ?_
          refine mw_aload_n (x := (some a0)) dX2_splitTape_78 rfl ?_
          obtain ⟨g33, e34, hf⟩ := ob hf
          obtain ⟨x35, h31, e32, hf⟩ := ob1 hf
          refine ml_callV (ci := 2) (mc' := 0) (ms' := 0) [] dX2_splitTape_79 mk_X2_scanToken lk_RX2_80 im_X2_scanToken se_X2_scanToken (by decide) e34 rfl (Nat.le_of_ble_eq_true rfl) (Nat.le_of_ble_eq_true rfl) (t_X2_scanToken E _ e32 isR_rfl) ?_
          refine mw_istore_n dX2_splitTape_82 (by decide) rfl ?_
          refine mw_aload_n (x := (some a0)) dX2_splitTape_83 rfl ?_
          obtain ⟨x36, e37, hf⟩ := ob hf
          refine ml_getI dX2_splitTape_84 fl_RX2_69 rfl e37 ?_
          obtain ⟨h99, r100, hf⟩ := ob hf
          have J106 : MW E m_X2_splitTape (d + 7) mc ms 144 [some (vq (some a0)), some (vi x35), some (vi v2), none] [] h99 K := by
            refine mw_iinc (x := v2) (v := v2 + 1) dX2_splitTape_144 rfl rfl (by decide) rfl ?_
            refine mw_goto (tgt := 16) dX2_splitTape_147 rfl ?_
            exact MW.sub (subL_s (subL_s (subL_s (subL_n subL_nil)))) (ih _ _ _ _ _ hf hX150)
          refine mw_if_lt (tgt := 144) dX2_splitTape_87 rfl (fun c38 => ?_) (fun c38 => ?_)
          · rw [if_pos c38] at r100
            obtain rfl := y0 r100
            exact MW.sub (subL_s (subL_s (subL_s (subL_n subL_nil)))) J106
          · rw [if_neg c38] at r100
            refine mw_aload_n (x := (some a0)) dX2_splitTape_90 rfl ?_
            obtain ⟨x69, e70, r100⟩ := ob r100
            refine ml_getI dX2_splitTape_91 fl_RX2_69 rfl e70 ?_
            refine mw_aload_n (x := (some a0)) dX2_splitTape_94 rfl ?_
            obtain ⟨x71, e72, r100⟩ := ob r100
            refine ml_getQ dX2_splitTape_95 fl_RX2_15 rfl e72 ?_
            obtain ⟨x73, e74, r100⟩ := ob r100
            refine ml_alen dX2_splitTape_98 e74 (by decide) (by decide) ?_
            refine mw_icmp_ge (tgt := 144) dX2_splitTape_99 rfl (fun c75 => ?_) (fun c75 => ?_)
            · rw [if_pos c75] at r100
              obtain rfl := y0 r100
              exact MW.sub (subL_s (subL_s (subL_s (subL_n subL_nil)))) J106
            · rw [if_neg c75] at r100
              refine mw_aload_n (x := (some a0)) dX2_splitTape_102 rfl ?_
              obtain ⟨x76, e77, r100⟩ := ob r100
              refine ml_getI dX2_splitTape_103 fl_RX2_69 rfl e77 ?_
              refine mw_aload_n (x := (some a0)) dX2_splitTape_106 rfl ?_
              obtain ⟨x78, e79, r100⟩ := ob r100
              refine ml_getQ dX2_splitTape_107 fl_RX2_19 rfl e79 ?_
              obtain ⟨x80, e81, r100⟩ := ob r100
              refine ml_alen dX2_splitTape_110 e81 (by decide) (by decide) ?_
              refine mw_icmp_ge (tgt := 144) dX2_splitTape_111 rfl (fun c82 => ?_) (fun c82 => ?_)
              · rw [if_pos c82] at r100
                obtain rfl := y0 r100
                exact MW.sub (subL_s (subL_s (subL_s (subL_n subL_nil)))) J106
              · rw [if_neg c82] at r100
                refine mw_aload_n (x := (some a0)) dX2_splitTape_114 rfl ?_
                obtain ⟨x83, e84, r100⟩ := ob r100
                refine ml_getQ dX2_splitTape_115 fl_RX2_15 rfl e84 ?_
                refine mw_aload_n (x := (some a0)) dX2_splitTape_118 rfl ?_
                obtain ⟨x85, e86, r100⟩ := ob r100
                refine ml_getI dX2_splitTape_119 fl_RX2_69 rfl e86 ?_
                refine mw_iload_n (x := x35) dX2_splitTape_122 rfl ?_
                obtain ⟨h87, e88, r100⟩ := ob r100
                refine ml_iast dX2_splitTape_123 e88 ?_
                refine mw_aload_n (x := (some a0)) dX2_splitTape_124 rfl ?_
                obtain ⟨x89, e90, r100⟩ := ob r100
                refine ml_getQ dX2_splitTape_125 fl_RX2_19 rfl e90 ?_
                refine mw_aload_n (x := (some a0)) dX2_splitTape_128 rfl ?_
                obtain ⟨x91, e92, r100⟩ := ob r100
                refine ml_getI dX2_splitTape_129 fl_RX2_69 rfl e92 ?_
                refine mw_iload_n (x := x29) dX2_splitTape_132 rfl ?_
                obtain ⟨h93, e94, r100⟩ := ob r100
                refine ml_iast dX2_splitTape_133 e94 ?_
                refine mw_aload_n (x := (some a0)) dX2_splitTape_134 rfl ?_
                refine mw_dupq dX2_splitTape_135 ?_
                obtain ⟨x95, e96, r100⟩ := ob r100
                refine ml_getI dX2_splitTape_136 fl_RX2_69 rfl e96 ?_
                refine mw_iconst (v := 1) dX2_splitTape_139 (by decide) ?_
                refine mw_iadd dX2_splitTape_140 ?_
                obtain ⟨h97, e98, r100⟩ := ob r100
                refine ml_putI dX2_splitTape_141 fl_RX2_69 (Or.inl rfl) rfl rfl e98 ?_
                obtain rfl := y0 r100
                exact MW.sub (subL_s (subL_s (subL_s (subL_n subL_nil)))) J106
set_option maxHeartbeats 4000000 in
theorem t_X2_splitTape (E : En) (d : Nat) {mc ms : Nat} {a0 : Nat} {h h' : Hp} {K : Option Vv → Hp → Prop} (hf : f_X2_splitTape a0 h = some h') (hk : K none h') : MC E m_X2_splitTape (d + 7) mc ms [vq (some a0)] h K := by
  unfold f_X2_splitTape at hf
  show MW E m_X2_splitTape (d + 7) mc ms 0 [some (vq (some a0)), none, none, none] [] h K
  refine mw_aload_n (x := (some a0)) dX2_splitTape_0 rfl ?_
  refine mw_iconst (v := 0) dX2_splitTape_1 (by decide) ?_
  obtain ⟨h1, e2, hf⟩ := ob hf
  refine ml_putI dX2_splitTape_2 fl_RX2_66 (Or.inl rfl) rfl rfl e2 ?_
  refine mw_aload_n (x := (some a0)) dX2_splitTape_5 rfl ?_
  refine mw_iconst (v := 0) dX2_splitTape_6 (by decide) ?_
  obtain ⟨h3, e4, hf⟩ := ob hf
  refine ml_putI dX2_splitTape_7 fl_RX2_69 (Or.inl rfl) rfl rfl e4 ?_
  refine mw_sipush (v := 1000) dX2_splitTape_10 (by decide) ?_
  refine mw_istore_n dX2_splitTape_13 (by decide) rfl ?_
  refine mw_iconst (v := 0) dX2_splitTape_14 (by decide) ?_
  refine mw_istore_n dX2_splitTape_15 (by decide) rfl ?_
  obtain ⟨h103, e104, hf⟩ := ob hf
  refine MW.sub (subL_s (subL_s (subL_s (subL_n subL_nil)))) (tl_X2_splitTape_16 E d _ _ _ _ _ _ e104 ?_)
  obtain rfl := y0 hf
  exact mw_return dX2_splitTape_150 rfl hk
def f_X2_take (a0 : Nat) (v1 : Int32) (h : Hp) : Option (Hp) :=
  (getI h (some a0) 2 7).bind fun x1 =>
  Option.bind ((if x1 = v1 then
      (rc h (some a0) 2).bind fun g18 =>
      (f_X2_nextToken g18 h).bind fun h16 =>
      some h16
    else
      (rc h (some a0) 2).bind fun g14 =>
      (f_X2_refuse g14 (2 : Int32) h).bind fun h12 =>
      some h12 : Option (Hp))) fun h20 =>
  some h20
set_option maxHeartbeats 4000000 in
theorem t_X2_take (E : En) (d : Nat) {mc ms : Nat} {a0 : Nat} {v1 : Int32} {h h' : Hp} {K : Option Vv → Hp → Prop} (hf : f_X2_take a0 v1 h = some h') (hk : K none h') : MC E m_X2_take (d + 1) mc ms [vq (some a0), vi v1] h K := by
  unfold f_X2_take at hf
  show MW E m_X2_take (d + 1) mc ms 0 [some (vq (some a0)), some (vi v1)] [] h K
  refine mw_aload_n (x := (some a0)) dX2_take_0 rfl ?_
  obtain ⟨x1, e2, hf⟩ := ob hf
  refine ml_getI dX2_take_1 fl_RX2_53 rfl e2 ?_
  refine mw_iload_n (x := v1) dX2_take_4 rfl ?_
  obtain ⟨h20, r21, hf⟩ := ob hf
  have J22 : MW E m_X2_take (d + 1) mc ms 20 [none, none] [] h20 K := by
    obtain rfl := y0 hf
    exact mw_return dX2_take_20 rfl hk
  refine mw_icmp_ne (tgt := 15) dX2_take_5 rfl (fun c3 => ?_) (fun c3 => ?_)
  · rw [if_neg c3] at r21
    refine mw_aload_n (x := (some a0)) dX2_take_15 rfl ?_
    refine mw_iconst (v := 2) dX2_take_16 (by decide) ?_
    obtain ⟨g14, e15, r21⟩ := ob r21
    obtain ⟨h12, e13, r21⟩ := ob r21
    refine ml_callV (ci := 2) (mc' := 0) (ms' := 0) [vi (2 : Int32)] dX2_take_17 mk_X2_refuse lk_RX2_119 im_X2_refuse se_X2_refuse (by decide) e15 rfl (Nat.le_of_ble_eq_true rfl) (Nat.le_of_ble_eq_true rfl) (t_X2_refuse E _ e13 isR_rfl) ?_
    obtain rfl := y0 r21
    exact MW.sub (subL_n (subL_n subL_nil)) J22
  · rw [if_pos c3] at r21
    refine mw_aload_n (x := (some a0)) dX2_take_8 rfl ?_
    obtain ⟨g18, e19, r21⟩ := ob r21
    obtain ⟨h16, e17, r21⟩ := ob r21
    refine ml_callV (ci := 2) (mc' := 0) (ms' := 0) [] dX2_take_9 mk_X2_nextToken lk_RX2_50 im_X2_nextToken se_X2_nextToken (by decide) e19 rfl (Nat.le_of_ble_eq_true rfl) (Nat.le_of_ble_eq_true rfl) (t_X2_nextToken E _ e17 isR_rfl) ?_
    refine mw_goto (tgt := 20) dX2_take_12 rfl ?_
    obtain rfl := y0 r21
    exact MW.sub (subL_n (subL_n subL_nil)) J22
def f_X2_takeKind (a0 : Nat) (h : Hp) : Option (Int32 × Hp) :=
  (getI h (some a0) 2 7).bind fun x1 =>
  (getI h (some a0) 2 7).bind fun x3 =>
  if x3 < (13 : Int32) then
    (rc h (some a0) 2).bind fun g8 =>
    (f_X2_refuse g8 (2 : Int32) h).bind fun h6 =>
    some (0, h6)
  else
    (getI h (some a0) 2 7).bind fun x10 =>
    if x10 ≤ (17 : Int32) then
      (rc h (some a0) 2).bind fun g15 =>
      (f_X2_nextToken g15 h).bind fun h13 =>
      some ((x1 - (13 : Int32)), h13)
    else
      (rc h (some a0) 2).bind fun g19 =>
      (f_X2_refuse g19 (2 : Int32) h).bind fun h17 =>
      some (0, h17)
set_option maxHeartbeats 4000000 in
theorem t_X2_takeKind (E : En) (d : Nat) {mc ms : Nat} {a0 : Nat} {h h' : Hp} {r : Int32} {K : Option Vv → Hp → Prop} (hf : f_X2_takeKind a0 h = some (r, h')) (hk : K (some (vi r)) h') : MC E m_X2_takeKind (d + 1) mc ms [vq (some a0)] h K := by
  unfold f_X2_takeKind at hf
  show MW E m_X2_takeKind (d + 1) mc ms 0 [some (vq (some a0)), none] [] h K
  refine mw_aload_n (x := (some a0)) dX2_takeKind_0 rfl ?_
  obtain ⟨x1, e2, hf⟩ := ob hf
  refine ml_getI dX2_takeKind_1 fl_RX2_53 rfl e2 ?_
  refine mw_bipush (v := 13) dX2_takeKind_4 (by decide) ?_
  refine mw_isub dX2_takeKind_6 ?_
  refine mw_istore_n dX2_takeKind_7 (by decide) rfl ?_
  refine mw_aload_n (x := (some a0)) dX2_takeKind_8 rfl ?_
  obtain ⟨x3, e4, hf⟩ := ob hf
  refine ml_getI dX2_takeKind_9 fl_RX2_53 rfl e4 ?_
  refine mw_bipush (v := 13) dX2_takeKind_12 (by decide) ?_
  refine mw_icmp_lt (tgt := 26) dX2_takeKind_14 rfl (fun c5 => ?_) (fun c5 => ?_)
  · rw [if_pos c5] at hf
    refine mw_aload_n (x := (some a0)) dX2_takeKind_26 rfl ?_
    refine mw_iconst (v := 2) dX2_takeKind_27 (by decide) ?_
    obtain ⟨g8, e9, hf⟩ := ob hf
    obtain ⟨h6, e7, hf⟩ := ob hf
    refine ml_callV (ci := 2) (mc' := 0) (ms' := 0) [vi (2 : Int32)] dX2_takeKind_28 mk_X2_refuse lk_RX2_119 im_X2_refuse se_X2_refuse (by decide) e9 rfl (Nat.le_of_ble_eq_true rfl) (Nat.le_of_ble_eq_true rfl) (t_X2_refuse E _ e7 isR_rfl) ?_
    refine mw_iconst (v := 0) dX2_takeKind_31 (by decide) ?_
    obtain ⟨rfl, rfl⟩ := y1 hf
    exact mw_ireturn dX2_takeKind_32 rfl rfl hk
  · rw [if_neg c5] at hf
    refine mw_aload_n (x := (some a0)) dX2_takeKind_17 rfl ?_
    obtain ⟨x10, e11, hf⟩ := ob hf
    refine ml_getI dX2_takeKind_18 fl_RX2_53 rfl e11 ?_
    refine mw_bipush (v := 17) dX2_takeKind_21 (by decide) ?_
    refine mw_icmp_le (tgt := 33) dX2_takeKind_23 rfl (fun c12 => ?_) (fun c12 => ?_)
    · rw [if_pos c12] at hf
      refine mw_aload_n (x := (some a0)) dX2_takeKind_33 rfl ?_
      obtain ⟨g15, e16, hf⟩ := ob hf
      obtain ⟨h13, e14, hf⟩ := ob hf
      refine ml_callV (ci := 2) (mc' := 0) (ms' := 0) [] dX2_takeKind_34 mk_X2_nextToken lk_RX2_50 im_X2_nextToken se_X2_nextToken (by decide) e16 rfl (Nat.le_of_ble_eq_true rfl) (Nat.le_of_ble_eq_true rfl) (t_X2_nextToken E _ e14 isR_rfl) ?_
      refine mw_iload_n (x := (x1 - (13 : Int32))) dX2_takeKind_37 rfl ?_
      obtain ⟨rfl, rfl⟩ := y1 hf
      exact mw_ireturn dX2_takeKind_38 rfl rfl hk
    · rw [if_neg c12] at hf
      refine mw_aload_n (x := (some a0)) dX2_takeKind_26 rfl ?_
      refine mw_iconst (v := 2) dX2_takeKind_27 (by decide) ?_
      obtain ⟨g19, e20, hf⟩ := ob hf
      obtain ⟨h17, e18, hf⟩ := ob hf
      refine ml_callV (ci := 2) (mc' := 0) (ms' := 0) [vi (2 : Int32)] dX2_takeKind_28 mk_X2_refuse lk_RX2_119 im_X2_refuse se_X2_refuse (by decide) e20 rfl (Nat.le_of_ble_eq_true rfl) (Nat.le_of_ble_eq_true rfl) (t_X2_refuse E _ e18 isR_rfl) ?_
      refine mw_iconst (v := 0) dX2_takeKind_31 (by decide) ?_
      obtain ⟨rfl, rfl⟩ := y1 hf
      exact mw_ireturn dX2_takeKind_32 rfl rfl hk
def f_X2_takeNumber (a0 : Nat) (v1 : Int32) (v2 : Int32) (h : Hp) : Option (Int32 × Hp) :=
  (getI h (some a0) 2 7).bind fun x1 =>
  if (0 : Int32) ≤ (x1 - (1000 : Int32)) then
    b1 (f_X8_within (x1 - (1000 : Int32)) v1 v2 h) fun x6 h4 =>
    if x6 = (0 : Int32) then
      (rc h4 (some a0) 2).bind fun g14 =>
      (f_X2_refuse g14 (4 : Int32) h4).bind fun h12 =>
      some (v1, h12)
    else
      (rc h4 (some a0) 2).bind fun g10 =>
      (f_X2_nextToken g10 h4).bind fun h8 =>
      some ((x1 - (1000 : Int32)), h8)
  else
    (rc h (some a0) 2).bind fun g18 =>
    (f_X2_refuse g18 (2 : Int32) h).bind fun h16 =>
    some (v1, h16)
set_option maxHeartbeats 4000000 in
theorem t_X2_takeNumber (E : En) (d : Nat) {mc ms : Nat} {a0 : Nat} {v1 : Int32} {v2 : Int32} {h h' : Hp} {r : Int32} {K : Option Vv → Hp → Prop} (hf : f_X2_takeNumber a0 v1 v2 h = some (r, h')) (hk : K (some (vi r)) h') : MC E m_X2_takeNumber (d + 1) mc ms [vq (some a0), vi v1, vi v2] h K := by
  unfold f_X2_takeNumber at hf
  show MW E m_X2_takeNumber (d + 1) mc ms 0 [some (vq (some a0)), some (vi v1), some (vi v2), none] [] h K
  refine mw_aload_n (x := (some a0)) dX2_takeNumber_0 rfl ?_
  obtain ⟨x1, e2, hf⟩ := ob hf
  refine ml_getI dX2_takeNumber_1 fl_RX2_53 rfl e2 ?_
  refine mw_sipush (v := 1000) dX2_takeNumber_4 (by decide) ?_
  refine mw_isub dX2_takeNumber_7 ?_
  refine mw_istore_n dX2_takeNumber_8 (by decide) rfl ?_
  refine mw_iload_n (x := (x1 - (1000 : Int32))) dX2_takeNumber_9 rfl ?_
  refine mw_if_ge (tgt := 20) dX2_takeNumber_10 rfl (fun c3 => ?_) (fun c3 => ?_)
  · rw [if_pos c3] at hf
    refine mw_iload_n (x := (x1 - (1000 : Int32))) dX2_takeNumber_20 rfl ?_
    refine mw_iload_n (x := v1) dX2_takeNumber_21 rfl ?_
    refine mw_iload_n (x := v2) dX2_takeNumber_22 rfl ?_
    obtain ⟨x6, h4, e5, hf⟩ := ob1 hf
    refine ml_callSN (mc' := 0) (ms' := 0) [vi (x1 - (1000 : Int32)), vi v1, vi v2] dX2_takeNumber_23 mk_X8_within lk_RX2_166 st_X8_within rfl (Nat.le_of_ble_eq_true rfl) (Nat.le_of_ble_eq_true rfl) (t_X8_within E _ e5 isR_rfl) ?_
    refine mw_if_ne (tgt := 36) dX2_takeNumber_26 rfl (fun c7 => ?_) (fun c7 => ?_)
    · rw [if_neg c7] at hf
      refine mw_aload_n (x := (some a0)) dX2_takeNumber_36 rfl ?_
      obtain ⟨g10, e11, hf⟩ := ob hf
      obtain ⟨h8, e9, hf⟩ := ob hf
      refine ml_callV (ci := 2) (mc' := 0) (ms' := 0) [] dX2_takeNumber_37 mk_X2_nextToken lk_RX2_50 im_X2_nextToken se_X2_nextToken (by decide) e11 rfl (Nat.le_of_ble_eq_true rfl) (Nat.le_of_ble_eq_true rfl) (t_X2_nextToken E _ e9 isR_rfl) ?_
      refine mw_iload_n (x := (x1 - (1000 : Int32))) dX2_takeNumber_40 rfl ?_
      obtain ⟨rfl, rfl⟩ := y1 hf
      exact mw_ireturn dX2_takeNumber_41 rfl rfl hk
    · rw [if_pos c7] at hf
      refine mw_aload_n (x := (some a0)) dX2_takeNumber_29 rfl ?_
      refine mw_iconst (v := 4) dX2_takeNumber_30 (by decide) ?_
      obtain ⟨g14, e15, hf⟩ := ob hf
      obtain ⟨h12, e13, hf⟩ := ob hf
      refine ml_callV (ci := 2) (mc' := 0) (ms' := 0) [vi (4 : Int32)] dX2_takeNumber_31 mk_X2_refuse lk_RX2_119 im_X2_refuse se_X2_refuse (by decide) e15 rfl (Nat.le_of_ble_eq_true rfl) (Nat.le_of_ble_eq_true rfl) (t_X2_refuse E _ e13 isR_rfl) ?_
      refine mw_iload_n (x := v1) dX2_takeNumber_34 rfl ?_
      obtain ⟨rfl, rfl⟩ := y1 hf
      exact mw_ireturn dX2_takeNumber_35 rfl rfl hk
  · rw [if_neg c3] at hf
    refine mw_aload_n (x := (some a0)) dX2_takeNumber_13 rfl ?_
    refine mw_iconst (v := 2) dX2_takeNumber_14 (by decide) ?_
    obtain ⟨g18, e19, hf⟩ := ob hf
    obtain ⟨h16, e17, hf⟩ := ob hf
    refine ml_callV (ci := 2) (mc' := 0) (ms' := 0) [vi (2 : Int32)] dX2_takeNumber_15 mk_X2_refuse lk_RX2_119 im_X2_refuse se_X2_refuse (by decide) e19 rfl (Nat.le_of_ble_eq_true rfl) (Nat.le_of_ble_eq_true rfl) (t_X2_refuse E _ e17 isR_rfl) ?_
    refine mw_iload_n (x := v1) dX2_takeNumber_18 rfl ?_
    obtain ⟨rfl, rfl⟩ := y1 hf
    exact mw_ireturn dX2_takeNumber_19 rfl rfl hk
def f_X6_addBank (a0 : Nat) (v1 : Int32) (v2 : Int32) (v3 : Int32) (h : Hp) : Option (Hp) :=
  b1 ((if v1 < (0 : Int32) then
      some (0, h)
    else
      if v2 ≤ v1 then
        some (0, h)
      else
        (getQ h (some a0) 5 4).bind fun x9 =>
        (aln h x9 10).bind fun x11 =>
        if x11 ≤ v2 then
          some (0, h)
        else
          some (1, h) : Option (Int32 × Hp))) fun w14 h15 =>
  Option.bind ((if w14 = (0 : Int32) then
      some h15
    else
      (getI h15 (some a0) 5 3).bind fun x54 =>
      if x54 < (0 : Int32) then
        some h15
      else
        (getI h15 (some a0) 5 3).bind fun x57 =>
        if (10 : Int32) ≤ x57 then
          some h15
        else
          (getQ h15 (some a0) 5 4).bind fun x60 =>
          (wrI h15 x60 v1 0).bind fun h62 =>
          (getQ h62 (some a0) 5 4).bind fun x64 =>
          (wrI h62 x64 v2 0).bind fun h66 =>
          (getQ h66 (some a0) 5 0).bind fun x68 =>
          (getI h66 (some a0) 5 3).bind fun x70 =>
          (wrI h66 x68 x70 v1).bind fun h72 =>
          (getQ h72 (some a0) 5 1).bind fun x74 =>
          (getI h72 (some a0) 5 3).bind fun x76 =>
          (wrI h72 x74 x76 v2).bind fun h78 =>
          (getQ h78 (some a0) 5 2).bind fun x80 =>
          (getI h78 (some a0) 5 3).bind fun x82 =>
          (wrI h78 x80 x82 v3).bind fun h84 =>
          (getI h84 (some a0) 5 3).bind fun x86 =>
          (putI h84 (some a0) 5 3 (x86 + (1 : Int32))).bind fun h88 =>
          some h88 : Option (Hp))) fun h90 =>
  some h90
set_option maxHeartbeats 4000000 in
theorem t_X6_addBank (E : En) (d : Nat) {mc ms : Nat} {a0 : Nat} {v1 : Int32} {v2 : Int32} {v3 : Int32} {h h' : Hp} {K : Option Vv → Hp → Prop} (hf : f_X6_addBank a0 v1 v2 v3 h = some h') (hk : K none h') : MC E m_X6_addBank (d + 0) mc ms [vq (some a0), vi v1, vi v2, vi v3] h K := by
  unfold f_X6_addBank at hf
  show MW E m_X6_addBank (d + 0) mc ms 0 [some (vq (some a0)), some (vi v1), some (vi v2), some (vi v3), none] [] h K
  refine mw_iload_n (x := v1) dX6_addBank_0 rfl ?_
  obtain ⟨w14, h15, r16, hf⟩ := ob1 hf
  have J92 : MW E m_X6_addBank (d + 0) mc ms 23 [some (vq (some a0)), some (vi v1), some (vi v2), some (vi v3), none] [vi w14] h15 K := by
    refine mw_istore dX6_addBank_23 (by decide) rfl ?_
    refine mw_iload (x := w14) dX6_addBank_25 rfl ?_
    obtain ⟨h90, r91, hf⟩ := ob hf
    have J93 : MW E m_X6_addBank (d + 0) mc ms 100 [none, none, none, none, none] [] h90 K := by
      obtain rfl := y0 hf
      exact mw_return dX6_addBank_100 rfl hk
    refine mw_if_eq (tgt := 100) dX6_addBank_27 rfl (fun c17 => ?_) (fun c17 => ?_)
    · rw [if_pos c17] at r91
      obtain rfl := y0 r91
      exact MW.sub (subL_n (subL_n (subL_n (subL_n (subL_n subL_nil))))) J93
    · rw [if_neg c17] at r91
      refine mw_aload_n (x := (some a0)) dX6_addBank_30 rfl ?_
      obtain ⟨x54, e55, r91⟩ := ob r91
      refine ml_getI dX6_addBank_31 fl_RX6_47 rfl e55 ?_
      refine mw_if_lt (tgt := 100) dX6_addBank_34 rfl (fun c56 => ?_) (fun c56 => ?_)
      · rw [if_pos c56] at r91
        obtain rfl := y0 r91
        exact MW.sub (subL_n (subL_n (subL_n (subL_n (subL_n subL_nil))))) J93
      · rw [if_neg c56] at r91
        refine mw_aload_n (x := (some a0)) dX6_addBank_37 rfl ?_
        obtain ⟨x57, e58, r91⟩ := ob r91
        refine ml_getI dX6_addBank_38 fl_RX6_47 rfl e58 ?_
        refine mw_bipush (v := 10) dX6_addBank_41 (by decide) ?_
        refine mw_icmp_ge (tgt := 100) dX6_addBank_43 rfl (fun c59 => ?_) (fun c59 => ?_)
        · rw [if_pos c59] at r91
          obtain rfl := y0 r91
          exact MW.sub (subL_n (subL_n (subL_n (subL_n (subL_n subL_nil))))) J93
        · rw [if_neg c59] at r91
          refine mw_aload_n (x := (some a0)) dX6_addBank_46 rfl ?_
          obtain ⟨x60, e61, r91⟩ := ob r91
          refine ml_getQ dX6_addBank_47 fl_RX6_21 rfl e61 ?_
          refine mw_iload_n (x := v1) dX6_addBank_50 rfl ?_
          refine mw_iconst (v := 0) dX6_addBank_51 (by decide) ?_
          obtain ⟨h62, e63, r91⟩ := ob r91
          refine ml_iast dX6_addBank_52 e63 ?_
          refine mw_aload_n (x := (some a0)) dX6_addBank_53 rfl ?_
          obtain ⟨x64, e65, r91⟩ := ob r91
          refine ml_getQ dX6_addBank_54 fl_RX6_21 rfl e65 ?_
          refine mw_iload_n (x := v2) dX6_addBank_57 rfl ?_
          refine mw_iconst (v := 0) dX6_addBank_58 (by decide) ?_
          obtain ⟨h66, e67, r91⟩ := ob r91
          refine ml_iast dX6_addBank_59 e67 ?_
          refine mw_aload_n (x := (some a0)) dX6_addBank_60 rfl ?_
          obtain ⟨x68, e69, r91⟩ := ob r91
          refine ml_getQ dX6_addBank_61 fl_RX6_9 rfl e69 ?_
          refine mw_aload_n (x := (some a0)) dX6_addBank_64 rfl ?_
          obtain ⟨x70, e71, r91⟩ := ob r91
          refine ml_getI dX6_addBank_65 fl_RX6_47 rfl e71 ?_
          refine mw_iload_n (x := v1) dX6_addBank_68 rfl ?_
          obtain ⟨h72, e73, r91⟩ := ob r91
          refine ml_iast dX6_addBank_69 e73 ?_
          refine mw_aload_n (x := (some a0)) dX6_addBank_70 rfl ?_
          obtain ⟨x74, e75, r91⟩ := ob r91
          refine ml_getQ dX6_addBank_71 fl_RX6_15 rfl e75 ?_
          refine mw_aload_n (x := (some a0)) dX6_addBank_74 rfl ?_
          obtain ⟨x76, e77, r91⟩ := ob r91
          refine ml_getI dX6_addBank_75 fl_RX6_47 rfl e77 ?_
          refine mw_iload_n (x := v2) dX6_addBank_78 rfl ?_
          obtain ⟨h78, e79, r91⟩ := ob r91
          refine ml_iast dX6_addBank_79 e79 ?_
          refine mw_aload_n (x := (some a0)) dX6_addBank_80 rfl ?_
          obtain ⟨x80, e81, r91⟩ := ob r91
          refine ml_getQ dX6_addBank_81 fl_RX6_18 rfl e81 ?_
          refine mw_aload_n (x := (some a0)) dX6_addBank_84 rfl ?_
          obtain ⟨x82, e83, r91⟩ := ob r91
          refine ml_getI dX6_addBank_85 fl_RX6_47 rfl e83 ?_
          refine mw_iload_n (x := v3) dX6_addBank_88 rfl ?_
          obtain ⟨h84, e85, r91⟩ := ob r91
          refine ml_iast dX6_addBank_89 e85 ?_
          refine mw_aload_n (x := (some a0)) dX6_addBank_90 rfl ?_
          refine mw_dupq dX6_addBank_91 ?_
          obtain ⟨x86, e87, r91⟩ := ob r91
          refine ml_getI dX6_addBank_92 fl_RX6_47 rfl e87 ?_
          refine mw_iconst (v := 1) dX6_addBank_95 (by decide) ?_
          refine mw_iadd dX6_addBank_96 ?_
          obtain ⟨h88, e89, r91⟩ := ob r91
          refine ml_putI dX6_addBank_97 fl_RX6_47 (Or.inl rfl) rfl rfl e89 ?_
          obtain rfl := y0 r91
          exact MW.sub (subL_n (subL_n (subL_n (subL_n (subL_n subL_nil))))) J93
  refine mw_if_lt (tgt := 22) dX6_addBank_1 rfl (fun c1 => ?_) (fun c1 => ?_)
  · rw [if_pos c1] at r16
    refine mw_iconst (v := 0) dX6_addBank_22 (by decide) ?_
    obtain ⟨rfl, rfl⟩ := y1 r16
    exact MW.sub (subL_s (subL_s (subL_s (subL_s (subL_n subL_nil))))) J92
  · rw [if_neg c1] at r16
    refine mw_iload_n (x := v1) dX6_addBank_4 rfl ?_
    refine mw_iload_n (x := v2) dX6_addBank_5 rfl ?_
    refine mw_icmp_ge (tgt := 22) dX6_addBank_6 rfl (fun c8 => ?_) (fun c8 => ?_)
    · rw [if_pos c8] at r16
      refine mw_iconst (v := 0) dX6_addBank_22 (by decide) ?_
      obtain ⟨rfl, rfl⟩ := y1 r16
      exact MW.sub (subL_s (subL_s (subL_s (subL_s (subL_n subL_nil))))) J92
    · rw [if_neg c8] at r16
      refine mw_iload_n (x := v2) dX6_addBank_9 rfl ?_
      refine mw_aload_n (x := (some a0)) dX6_addBank_10 rfl ?_
      obtain ⟨x9, e10, r16⟩ := ob r16
      refine ml_getQ dX6_addBank_11 fl_RX6_21 rfl e10 ?_
      obtain ⟨x11, e12, r16⟩ := ob r16
      refine ml_alen dX6_addBank_14 e12 (by decide) (by decide) ?_
      refine mw_icmp_ge (tgt := 22) dX6_addBank_15 rfl (fun c13 => ?_) (fun c13 => ?_)
      · rw [if_pos c13] at r16
        refine mw_iconst (v := 0) dX6_addBank_22 (by decide) ?_
        obtain ⟨rfl, rfl⟩ := y1 r16
        exact MW.sub (subL_s (subL_s (subL_s (subL_s (subL_n subL_nil))))) J92
      · rw [if_neg c13] at r16
        refine mw_iconst (v := 1) dX6_addBank_18 (by decide) ?_
        refine mw_goto (tgt := 23) dX6_addBank_19 rfl ?_
        obtain ⟨rfl, rfl⟩ := y1 r16
        exact MW.sub (subL_s (subL_s (subL_s (subL_s (subL_n subL_nil))))) J92
def f_X6_reachFrom_L4 : Nat → Nat → Int32 → Int32 → Int32 → Hp → Option ((Hp))
  | 0, _, _, _, _, _ => none
  | n + 1, a0, v1, v2, v3, h =>
    (getI h (some a0) 5 8).bind fun x1 =>
    if x1 ≤ v3 then
      some h
    else
      if (20 : Int32) ≤ v3 then
        some h
      else
        b1 ((if v3 ≤ v1 then
            some (v2, h)
          else
            (getQ h (some a0) 5 6).bind fun x11 =>
            b1 (f_X8_at x11 (v3 - (1 : Int32)) h) fun x15 h13 =>
            some ((v2 + x15), h13) : Option (Int32 × Hp))) fun w16 h17 =>
        (getQ h17 (some a0) 5 9).bind fun x19 =>
        (wrI h17 x19 v3 w16).bind fun h21 =>
        f_X6_reachFrom_L4 n a0 v1 w16 (v3 + 1) h21
def f_X6_reachFrom (a0 : Nat) (v1 : Int32) (h : Hp) : Option (Hp) :=
  (f_X6_reachFrom_L4 fu a0 v1 0 0 h).bind fun h23 =>
  some h23
set_option maxHeartbeats 4000000 in
theorem tl_X6_reachFrom_4 (E : En) (d : Nat) {mc ms : Nat} {K : Option Vv → Hp → Prop} : ∀ (n : Nat) (a0 : Nat) (v1 : Int32) (v2 : Int32) (v3 : Int32) (h : Hp) (hz : Hp), f_X6_reachFrom_L4 n a0 v1 v2 v3 h = some hz → MW E m_X6_reachFrom (d + 1) mc ms 49 [none, none, none, none] [] hz K → MW E m_X6_reachFrom (d + 1) mc ms 4 [some (vq (some a0)), some (vi v1), some (vi v2), some (vi v3)] [] h K := by
  intro n
  induction n with
  | zero => intro a0 v1 v2 v3 h hz hf; exact nomatch (show none = some _ from hf)
  | succ n ih =>
    intro a0 v1 v2 v3 h hz hf hX49
    rw [f_X6_reachFrom_L4] at hf
    refine mw_iload_n (x := v3) dX6_reachFrom_4 rfl ?_
    refine mw_aload_n (x := (some a0)) dX6_reachFrom_5 rfl ?_
    obtain ⟨x1, e2, hf⟩ := ob hf
    refine ml_getI dX6_reachFrom_6 fl_RX6_103 rfl e2 ?_
    refine mw_icmp_ge (tgt := 49) dX6_reachFrom_9 rfl (fun c3 => ?_) (fun c3 => ?_)
    · rw [if_pos c3] at hf
      obtain rfl := y0 hf
      exact MW.sub (subL_n (subL_n (subL_n (subL_n subL_nil)))) hX49
    · rw [if_neg c3] at hf
      refine mw_iload_n (x := v3) dX6_reachFrom_12 rfl ?_
      refine mw_bipush (v := 20) dX6_reachFrom_13 (by decide) ?_
      refine mw_icmp_ge (tgt := 49) dX6_reachFrom_15 rfl (fun c4 => ?_) (fun c4 => ?_)
      · rw [if_pos c4] at hf
        obtain rfl := y0 hf
        exact MW.sub (subL_n (subL_n (subL_n (subL_n subL_nil)))) hX49
      · rw [if_neg c4] at hf
        refine mw_iload_n (x := v3) dX6_reachFrom_18 rfl ?_
        refine mw_iload_n (x := v1) dX6_reachFrom_19 rfl ?_
        obtain ⟨w16, h17, r18, hf⟩ := ob1 hf
        have J26 : MW E m_X6_reachFrom (d + 1) mc ms 36 [some (vq (some a0)), some (vi v1), some (vi w16), some (vi v3)] [] h17 K := by
          refine mw_aload_n (x := (some a0)) dX6_reachFrom_36 rfl ?_
          obtain ⟨x19, e20, hf⟩ := ob hf
          refine ml_getQ dX6_reachFrom_37 fl_RX6_30 rfl e20 ?_
          refine mw_iload_n (x := v3) dX6_reachFrom_40 rfl ?_
          refine mw_iload_n (x := w16) dX6_reachFrom_41 rfl ?_
          obtain ⟨h21, e22, hf⟩ := ob hf
          refine ml_iast dX6_reachFrom_42 e22 ?_
          refine mw_iinc (x := v3) (v := v3 + 1) dX6_reachFrom_43 rfl rfl (by decide) rfl ?_
          refine mw_goto (tgt := 4) dX6_reachFrom_46 rfl ?_
          exact MW.sub (subL_s (subL_s (subL_s (subL_s subL_nil)))) (ih _ _ _ _ _ _ hf hX49)
        refine mw_icmp_le (tgt := 36) dX6_reachFrom_20 rfl (fun c5 => ?_) (fun c5 => ?_)
        · rw [if_pos c5] at r18
          obtain ⟨rfl, rfl⟩ := y1 r18
          exact MW.sub (subL_s (subL_s (subL_s (subL_s subL_nil)))) J26
        · rw [if_neg c5] at r18
          refine mw_iload_n (x := v2) dX6_reachFrom_23 rfl ?_
          refine mw_aload_n (x := (some a0)) dX6_reachFrom_24 rfl ?_
          obtain ⟨x11, e12, r18⟩ := ob r18
          refine ml_getQ dX6_reachFrom_25 fl_RX6_27 rfl e12 ?_
          refine mw_iload_n (x := v3) dX6_reachFrom_28 rfl ?_
          refine mw_iconst (v := 1) dX6_reachFrom_29 (by decide) ?_
          refine mw_isub dX6_reachFrom_30 ?_
          obtain ⟨x15, h13, e14, r18⟩ := ob1 r18
          refine ml_callSN (mc' := 0) (ms' := 0) [vq x11, vi (v3 - (1 : Int32))] dX6_reachFrom_31 mk_X8_at lk_RX6_51 st_X8_at rfl (Nat.le_of_ble_eq_true rfl) (Nat.le_of_ble_eq_true rfl) (t_X8_at E _ e14 isR_rfl) ?_
          refine mw_iadd dX6_reachFrom_34 ?_
          refine mw_istore_n dX6_reachFrom_35 (by decide) rfl ?_
          obtain ⟨rfl, rfl⟩ := y1 r18
          exact MW.sub (subL_s (subL_s (subL_s (subL_s subL_nil)))) J26
set_option maxHeartbeats 4000000 in
theorem t_X6_reachFrom (E : En) (d : Nat) {mc ms : Nat} {a0 : Nat} {v1 : Int32} {h h' : Hp} {K : Option Vv → Hp → Prop} (hf : f_X6_reachFrom a0 v1 h = some h') (hk : K none h') : MC E m_X6_reachFrom (d + 1) mc ms [vq (some a0), vi v1] h K := by
  unfold f_X6_reachFrom at hf
  show MW E m_X6_reachFrom (d + 1) mc ms 0 [some (vq (some a0)), some (vi v1), none, none] [] h K
  refine mw_iconst (v := 0) dX6_reachFrom_0 (by decide) ?_
  refine mw_istore_n dX6_reachFrom_1 (by decide) rfl ?_
  refine mw_iconst (v := 0) dX6_reachFrom_2 (by decide) ?_
  refine mw_istore_n dX6_reachFrom_3 (by decide) rfl ?_
  obtain ⟨h23, e24, hf⟩ := ob hf
  refine MW.sub (subL_s (subL_s (subL_s (subL_s subL_nil)))) (tl_X6_reachFrom_4 E d _ _ _ _ _ _ _ e24 ?_)
  obtain rfl := y0 hf
  exact mw_return dX6_reachFrom_49 rfl hk
def f_X6_lowerByGaps_L4 : Nat → Nat → Int32 → Int32 → Hp → Option ((Int32 × Hp))
  | 0, _, _, _, _ => none
  | n + 1, a0, v1, v2, h =>
    (getI h (some a0) 5 8).bind fun x1 =>
    if x1 ≤ v2 then
      some (v1, h)
    else
      if (20 : Int32) ≤ v2 then
        some (v1, h)
      else
        (getQ h (some a0) 5 9).bind fun x5 =>
        (rdI h x5 10 (v2 - (1 : Int32))).bind fun x7 =>
        (getQ h (some a0) 5 6).bind fun x9 =>
        (rdI h x9 10 (v2 - (1 : Int32))).bind fun x11 =>
        (getQ h (some a0) 5 9).bind fun x13 =>
        (rdI h x13 10 v2).bind fun x15 =>
        b1 ((if x15 ≤ (x7 + x11) then
            some (v1, h)
          else
            (getQ h (some a0) 5 9).bind fun x22 =>
            (wrI h x22 v2 (x7 + x11)).bind fun h24 =>
            some (1, h24) : Option (Int32 × Hp))) fun w26 h27 =>
        f_X6_lowerByGaps_L4 n a0 w26 (v2 + 1) h27
def f_X6_lowerByGaps_L68 : Nat → Nat → Int32 → Int32 → Hp → Option ((Int32 × Hp))
  | 0, _, _, _, _ => none
  | n + 1, a0, v1, v2, h =>
    if v2 ≤ (0 : Int32) then
      some (v1, h)
    else
      b1 ((if (20 : Int32) ≤ v2 then
          some (v1, h)
        else
          (getQ h (some a0) 5 9).bind fun x52 =>
          (rdI h x52 10 (v2 - (1 : Int32))).bind fun x54 =>
          (getQ h (some a0) 5 9).bind fun x56 =>
          (rdI h x56 10 v2).bind fun x58 =>
          if x54 ≤ x58 then
            some (v1, h)
          else
            (getQ h (some a0) 5 9).bind fun x61 =>
            (getQ h (some a0) 5 9).bind fun x63 =>
            (rdI h x63 10 v2).bind fun x65 =>
            (wrI h x61 (v2 - (1 : Int32)) x65).bind fun h67 =>
            some (1, h67) : Option (Int32 × Hp))) fun w69 h70 =>
      f_X6_lowerByGaps_L68 n a0 w69 (v2 + (-1)) h70
def f_X6_lowerByGaps (a0 : Nat) (h : Hp) : Option (Int32 × Hp) :=
  b1 (f_X6_lowerByGaps_L4 fu a0 0 1 h) fun w29 h30 =>
  (getI h30 (some a0) 5 8).bind fun x31 =>
  b1 (f_X6_lowerByGaps_L68 fu a0 w29 (x31 - (1 : Int32)) h30) fun w72 h73 =>
  (zok w72).bind fun z74 =>
  some (w72, h73)
set_option maxHeartbeats 4000000 in
theorem tl_X6_lowerByGaps_4 (E : En) (d : Nat) {mc ms : Nat} {K : Option Vv → Hp → Prop} : ∀ (n : Nat) (a0 : Nat) (v1 : Int32) (v2 : Int32) (h : Hp) (u1 : Int32) (hz : Hp), f_X6_lowerByGaps_L4 n a0 v1 v2 h = some (u1, hz) → MW E m_X6_lowerByGaps (d + 0) mc ms 61 [some (vq (some a0)), some (vi u1), none, none] [] hz K → MW E m_X6_lowerByGaps (d + 0) mc ms 4 [some (vq (some a0)), some (vi v1), some (vi v2), none] [] h K := by
  intro n
  induction n with
  | zero => intro a0 v1 v2 h u1 hz hf; exact nomatch (show none = some _ from hf)
  | succ n ih =>
    intro a0 v1 v2 h u1 hz hf hX61
    rw [f_X6_lowerByGaps_L4] at hf
    refine mw_iload_n (x := v2) dX6_lowerByGaps_4 rfl ?_
    refine mw_aload_n (x := (some a0)) dX6_lowerByGaps_5 rfl ?_
    obtain ⟨x1, e2, hf⟩ := ob hf
    refine ml_getI dX6_lowerByGaps_6 fl_RX6_103 rfl e2 ?_
    refine mw_icmp_ge (tgt := 61) dX6_lowerByGaps_9 rfl (fun c3 => ?_) (fun c3 => ?_)
    · rw [if_pos c3] at hf
      obtain ⟨rfl, rfl⟩ := y1 hf
      exact MW.sub (subL_s (subL_s (subL_n (subL_n subL_nil)))) hX61
    · rw [if_neg c3] at hf
      refine mw_iload_n (x := v2) dX6_lowerByGaps_12 rfl ?_
      refine mw_bipush (v := 20) dX6_lowerByGaps_13 (by decide) ?_
      refine mw_icmp_ge (tgt := 61) dX6_lowerByGaps_15 rfl (fun c4 => ?_) (fun c4 => ?_)
      · rw [if_pos c4] at hf
        obtain ⟨rfl, rfl⟩ := y1 hf
        exact MW.sub (subL_s (subL_s (subL_n (subL_n subL_nil)))) hX61
      · rw [if_neg c4] at hf
        refine mw_aload_n (x := (some a0)) dX6_lowerByGaps_18 rfl ?_
        obtain ⟨x5, e6, hf⟩ := ob hf
        refine ml_getQ dX6_lowerByGaps_19 fl_RX6_30 rfl e6 ?_
        refine mw_iload_n (x := v2) dX6_lowerByGaps_22 rfl ?_
        refine mw_iconst (v := 1) dX6_lowerByGaps_23 (by decide) ?_
        refine mw_isub dX6_lowerByGaps_24 ?_
        obtain ⟨x7, e8, hf⟩ := ob hf
        refine ml_iald dX6_lowerByGaps_25 e8 ?_
        refine mw_aload_n (x := (some a0)) dX6_lowerByGaps_26 rfl ?_
        obtain ⟨x9, e10, hf⟩ := ob hf
        refine ml_getQ dX6_lowerByGaps_27 fl_RX6_27 rfl e10 ?_
        refine mw_iload_n (x := v2) dX6_lowerByGaps_30 rfl ?_
        refine mw_iconst (v := 1) dX6_lowerByGaps_31 (by decide) ?_
        refine mw_isub dX6_lowerByGaps_32 ?_
        obtain ⟨x11, e12, hf⟩ := ob hf
        refine ml_iald dX6_lowerByGaps_33 e12 ?_
        refine mw_iadd dX6_lowerByGaps_34 ?_
        refine mw_istore_n dX6_lowerByGaps_35 (by decide) rfl ?_
        refine mw_aload_n (x := (some a0)) dX6_lowerByGaps_36 rfl ?_
        obtain ⟨x13, e14, hf⟩ := ob hf
        refine ml_getQ dX6_lowerByGaps_37 fl_RX6_30 rfl e14 ?_
        refine mw_iload_n (x := v2) dX6_lowerByGaps_40 rfl ?_
        obtain ⟨x15, e16, hf⟩ := ob hf
        refine ml_iald dX6_lowerByGaps_41 e16 ?_
        refine mw_iload_n (x := (x7 + x11)) dX6_lowerByGaps_42 rfl ?_
        obtain ⟨w26, h27, r28, hf⟩ := ob1 hf
        have J80 : MW E m_X6_lowerByGaps (d + 0) mc ms 55 [some (vq (some a0)), some (vi w26), some (vi v2), none] [] h27 K := by
          refine mw_iinc (x := v2) (v := v2 + 1) dX6_lowerByGaps_55 rfl rfl (by decide) rfl ?_
          refine mw_goto (tgt := 4) dX6_lowerByGaps_58 rfl ?_
          exact MW.sub (subL_s (subL_s (subL_s (subL_n subL_nil)))) (ih _ _ _ _ _ _ hf hX61)
        refine mw_icmp_le (tgt := 55) dX6_lowerByGaps_43 rfl (fun c17 => ?_) (fun c17 => ?_)
        · rw [if_pos c17] at r28
          obtain ⟨rfl, rfl⟩ := y1 r28
          exact MW.sub (subL_s (subL_s (subL_s (subL_n subL_nil)))) J80
        · rw [if_neg c17] at r28
          refine mw_aload_n (x := (some a0)) dX6_lowerByGaps_46 rfl ?_
          obtain ⟨x22, e23, r28⟩ := ob r28
          refine ml_getQ dX6_lowerByGaps_47 fl_RX6_30 rfl e23 ?_
          refine mw_iload_n (x := v2) dX6_lowerByGaps_50 rfl ?_
          refine mw_iload_n (x := (x7 + x11)) dX6_lowerByGaps_51 rfl ?_
          obtain ⟨h24, e25, r28⟩ := ob r28
          refine ml_iast dX6_lowerByGaps_52 e25 ?_
          refine mw_iconst (v := 1) dX6_lowerByGaps_53 (by decide) ?_
          refine mw_istore_n dX6_lowerByGaps_54 (by decide) rfl ?_
          obtain ⟨rfl, rfl⟩ := y1 r28
          exact MW.sub (subL_s (subL_s (subL_s (subL_n subL_nil)))) J80
set_option maxHeartbeats 4000000 in
theorem tl_X6_lowerByGaps_68 (E : En) (d : Nat) {mc ms : Nat} {K : Option Vv → Hp → Prop} : ∀ (n : Nat) (a0 : Nat) (v1 : Int32) (v2 : Int32) (h : Hp) (u1 : Int32) (hz : Hp), f_X6_lowerByGaps_L68 n a0 v1 v2 h = some (u1, hz) → MW E m_X6_lowerByGaps (d + 0) mc ms 117 [none, some (vi u1), none, none] [] hz K → MW E m_X6_lowerByGaps (d + 0) mc ms 68 [some (vq (some a0)), some (vi v1), some (vi v2), none] [] h K := by
  intro n
  induction n with
  | zero => intro a0 v1 v2 h u1 hz hf; exact nomatch (show none = some _ from hf)
  | succ n ih =>
    intro a0 v1 v2 h u1 hz hf hX117
    rw [f_X6_lowerByGaps_L68] at hf
    refine mw_iload_n (x := v2) dX6_lowerByGaps_68 rfl ?_
    refine mw_if_le (tgt := 117) dX6_lowerByGaps_69 rfl (fun c33 => ?_) (fun c33 => ?_)
    · rw [if_pos c33] at hf
      obtain ⟨rfl, rfl⟩ := y1 hf
      exact MW.sub (subL_n (subL_s (subL_n (subL_n subL_nil)))) hX117
    · rw [if_neg c33] at hf
      refine mw_iload_n (x := v2) dX6_lowerByGaps_72 rfl ?_
      refine mw_bipush (v := 20) dX6_lowerByGaps_73 (by decide) ?_
      obtain ⟨w69, h70, r71, hf⟩ := ob1 hf
      have J81 : MW E m_X6_lowerByGaps (d + 0) mc ms 111 [some (vq (some a0)), some (vi w69), some (vi v2), none] [] h70 K := by
        refine mw_iinc (x := v2) (v := v2 + (-1)) dX6_lowerByGaps_111 rfl rfl (by decide) rfl ?_
        refine mw_goto (tgt := 68) dX6_lowerByGaps_114 rfl ?_
        exact MW.sub (subL_s (subL_s (subL_s (subL_n subL_nil)))) (ih _ _ _ _ _ _ hf hX117)
      refine mw_icmp_ge (tgt := 111) dX6_lowerByGaps_75 rfl (fun c34 => ?_) (fun c34 => ?_)
      · rw [if_pos c34] at r71
        obtain ⟨rfl, rfl⟩ := y1 r71
        exact MW.sub (subL_s (subL_s (subL_s (subL_n subL_nil)))) J81
      · rw [if_neg c34] at r71
        refine mw_aload_n (x := (some a0)) dX6_lowerByGaps_78 rfl ?_
        obtain ⟨x52, e53, r71⟩ := ob r71
        refine ml_getQ dX6_lowerByGaps_79 fl_RX6_30 rfl e53 ?_
        refine mw_iload_n (x := v2) dX6_lowerByGaps_82 rfl ?_
        refine mw_iconst (v := 1) dX6_lowerByGaps_83 (by decide) ?_
        refine mw_isub dX6_lowerByGaps_84 ?_
        obtain ⟨x54, e55, r71⟩ := ob r71
        refine ml_iald dX6_lowerByGaps_85 e55 ?_
        refine mw_aload_n (x := (some a0)) dX6_lowerByGaps_86 rfl ?_
        obtain ⟨x56, e57, r71⟩ := ob r71
        refine ml_getQ dX6_lowerByGaps_87 fl_RX6_30 rfl e57 ?_
        refine mw_iload_n (x := v2) dX6_lowerByGaps_90 rfl ?_
        obtain ⟨x58, e59, r71⟩ := ob r71
        refine ml_iald dX6_lowerByGaps_91 e59 ?_
        refine mw_icmp_le (tgt := 111) dX6_lowerByGaps_92 rfl (fun c60 => ?_) (fun c60 => ?_)
        · rw [if_pos c60] at r71
          obtain ⟨rfl, rfl⟩ := y1 r71
          exact MW.sub (subL_s (subL_s (subL_s (subL_n subL_nil)))) J81
        · rw [if_neg c60] at r71
          refine mw_aload_n (x := (some a0)) dX6_lowerByGaps_95 rfl ?_
          obtain ⟨x61, e62, r71⟩ := ob r71
          refine ml_getQ dX6_lowerByGaps_96 fl_RX6_30 rfl e62 ?_
          refine mw_iload_n (x := v2) dX6_lowerByGaps_99 rfl ?_
          refine mw_iconst (v := 1) dX6_lowerByGaps_100 (by decide) ?_
          refine mw_isub dX6_lowerByGaps_101 ?_
          refine mw_aload_n (x := (some a0)) dX6_lowerByGaps_102 rfl ?_
          obtain ⟨x63, e64, r71⟩ := ob r71
          refine ml_getQ dX6_lowerByGaps_103 fl_RX6_30 rfl e64 ?_
          refine mw_iload_n (x := v2) dX6_lowerByGaps_106 rfl ?_
          obtain ⟨x65, e66, r71⟩ := ob r71
          refine ml_iald dX6_lowerByGaps_107 e66 ?_
          obtain ⟨h67, e68, r71⟩ := ob r71
          refine ml_iast dX6_lowerByGaps_108 e68 ?_
          refine mw_iconst (v := 1) dX6_lowerByGaps_109 (by decide) ?_
          refine mw_istore_n dX6_lowerByGaps_110 (by decide) rfl ?_
          obtain ⟨rfl, rfl⟩ := y1 r71
          exact MW.sub (subL_s (subL_s (subL_s (subL_n subL_nil)))) J81
set_option maxHeartbeats 4000000 in
theorem t_X6_lowerByGaps (E : En) (d : Nat) {mc ms : Nat} {a0 : Nat} {h h' : Hp} {r : Int32} {K : Option Vv → Hp → Prop} (hf : f_X6_lowerByGaps a0 h = some (r, h')) (hk : K (some (vi r)) h') : MC E m_X6_lowerByGaps (d + 0) mc ms [vq (some a0)] h K := by
  unfold f_X6_lowerByGaps at hf
  show MW E m_X6_lowerByGaps (d + 0) mc ms 0 [some (vq (some a0)), none, none, none] [] h K
  refine mw_iconst (v := 0) dX6_lowerByGaps_0 (by decide) ?_
  refine mw_istore_n dX6_lowerByGaps_1 (by decide) rfl ?_
  refine mw_iconst (v := 1) dX6_lowerByGaps_2 (by decide) ?_
  refine mw_istore_n dX6_lowerByGaps_3 (by decide) rfl ?_
  obtain ⟨w29, h30, e78, hf⟩ := ob1 hf
  refine MW.sub (subL_s (subL_s (subL_s (subL_n subL_nil)))) (tl_X6_lowerByGaps_4 E d _ _ _ _ _ _ _ e78 ?_)
  refine mw_aload_n (x := (some a0)) dX6_lowerByGaps_61 rfl ?_
  obtain ⟨x31, e32, hf⟩ := ob hf
  refine ml_getI dX6_lowerByGaps_62 fl_RX6_103 rfl e32 ?_
  refine mw_iconst (v := 1) dX6_lowerByGaps_65 (by decide) ?_
  refine mw_isub dX6_lowerByGaps_66 ?_
  refine mw_istore_n dX6_lowerByGaps_67 (by decide) rfl ?_
  obtain ⟨w72, h73, e76, hf⟩ := ob1 hf
  refine MW.sub (subL_s (subL_s (subL_s (subL_n subL_nil)))) (tl_X6_lowerByGaps_68 E d _ _ _ _ _ _ _ e76 ?_)
  refine mw_iload_n (x := w72) dX6_lowerByGaps_117 rfl ?_
  obtain ⟨z74, e75, hf⟩ := ob hf
  obtain ⟨rfl, rfl⟩ := y1 hf
  exact mw_ireturn dX6_lowerByGaps_118 rfl (zok_of e75) hk
