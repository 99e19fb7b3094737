theorem dX9_isWord_0 : decode cX9_isWord 0 = .ok (.aload_n 0, 1) := by decide +kernel
theorem dX9_isWord_1 : decode cX9_isWord 1 = .ok (.getfield 27, 3) := by decide +kernel
theorem dX9_isWord_4 : decode cX9_isWord 4 = .ok (.iconst 2, 1) := by decide +kernel
theorem dX9_isWord_5 : decode cX9_isWord 5 = .ok (.if_icmp .ne 16, 3) := by decide +kernel
theorem dX9_isWord_8 : decode cX9_isWord 8 = .ok (.aload_n 0, 1) := by decide +kernel
theorem dX9_isWord_9 : decode cX9_isWord 9 = .ok (.getfield 34, 3) := by decide +kernel
theorem dX9_isWord_12 : decode cX9_isWord 12 = .ok (.lload_n 1, 1) := by decide +kernel
theorem dX9_isWord_13 : decode cX9_isWord 13 = .ok (.lcmp, 1) := by decide +kernel
theorem dX9_isWord_14 : decode cX9_isWord 14 = .ok (.ifCond .ne 7, 3) := by decide +kernel
theorem dX9_isWord_17 : decode cX9_isWord 17 = .ok (.iconst 1, 1) := by decide +kernel
theorem dX9_isWord_18 : decode cX9_isWord 18 = .ok (.goto 4, 3) := by decide +kernel
theorem dX9_isWord_21 : decode cX9_isWord 21 = .ok (.iconst 0, 1) := by decide +kernel
theorem dX9_isWord_22 : decode cX9_isWord 22 = .ok (.ireturn, 1) := by decide +kernel
theorem dX9_numberHere_0 : decode cX9_numberHere 0 = .ok (.aload_n 0, 1) := by decide +kernel
theorem dX9_numberHere_1 : decode cX9_numberHere 1 = .ok (.ldc2_w 221, 3) := by decide +kernel
theorem dX9_numberHere_4 : decode cX9_numberHere 4 = .ok (.invokevirtual 223, 3) := by decide +kernel
theorem dX9_numberHere_7 : decode cX9_numberHere 7 = .ok (.ifCond .eq 7, 3) := by decide +kernel
theorem dX9_numberHere_10 : decode cX9_numberHere 10 = .ok (.iconst 0, 1) := by decide +kernel
theorem dX9_numberHere_11 : decode cX9_numberHere 11 = .ok (.goto 89, 3) := by decide +kernel
theorem dX9_numberHere_14 : decode cX9_numberHere 14 = .ok (.aload_n 0, 1) := by decide +kernel
theorem dX9_numberHere_15 : decode cX9_numberHere 15 = .ok (.ldc2_w 227, 3) := by decide +kernel
theorem dX9_numberHere_18 : decode cX9_numberHere 18 = .ok (.invokevirtual 223, 3) := by decide +kernel
theorem dX9_numberHere_21 : decode cX9_numberHere 21 = .ok (.ifCond .eq 7, 3) := by decide +kernel
theorem dX9_numberHere_24 : decode cX9_numberHere 24 = .ok (.iconst 1, 1) := by decide +kernel
theorem dX9_numberHere_25 : decode cX9_numberHere 25 = .ok (.goto 75, 3) := by decide +kernel
theorem dX9_numberHere_28 : decode cX9_numberHere 28 = .ok (.aload_n 0, 1) := by decide +kernel
theorem dX9_numberHere_29 : decode cX9_numberHere 29 = .ok (.ldc2_w 229, 3) := by decide +kernel
theorem dX9_numberHere_32 : decode cX9_numberHere 32 = .ok (.invokevirtual 223, 3) := by decide +kernel
theorem dX9_numberHere_35 : decode cX9_numberHere 35 = .ok (.ifCond .eq 7, 3) := by decide +kernel
theorem dX9_numberHere_38 : decode cX9_numberHere 38 = .ok (.iconst 2, 1) := by decide +kernel
theorem dX9_numberHere_39 : decode cX9_numberHere 39 = .ok (.goto 61, 3) := by decide +kernel
theorem dX9_numberHere_42 : decode cX9_numberHere 42 = .ok (.aload_n 0, 1) := by decide +kernel
theorem dX9_numberHere_43 : decode cX9_numberHere 43 = .ok (.ldc2_w 231, 3) := by decide +kernel
theorem dX9_numberHere_46 : decode cX9_numberHere 46 = .ok (.invokevirtual 223, 3) := by decide +kernel
theorem dX9_numberHere_49 : decode cX9_numberHere 49 = .ok (.ifCond .eq 7, 3) := by decide +kernel
theorem dX9_numberHere_52 : decode cX9_numberHere 52 = .ok (.iconst 3, 1) := by decide +kernel
theorem dX9_numberHere_53 : decode cX9_numberHere 53 = .ok (.goto 47, 3) := by decide +kernel
theorem dX9_numberHere_56 : decode cX9_numberHere 56 = .ok (.aload_n 0, 1) := by decide +kernel
theorem dX9_numberHere_57 : decode cX9_numberHere 57 = .ok (.ldc2_w 233, 3) := by decide +kernel
theorem dX9_numberHere_60 : decode cX9_numberHere 60 = .ok (.invokevirtual 223, 3) := by decide +kernel
theorem dX9_numberHere_63 : decode cX9_numberHere 63 = .ok (.ifCond .eq 7, 3) := by decide +kernel
theorem dX9_numberHere_66 : decode cX9_numberHere 66 = .ok (.iconst 4, 1) := by decide +kernel
theorem dX9_numberHere_67 : decode cX9_numberHere 67 = .ok (.goto 33, 3) := by decide +kernel
theorem dX9_numberHere_70 : decode cX9_numberHere 70 = .ok (.aload_n 0, 1) := by decide +kernel
theorem dX9_numberHere_71 : decode cX9_numberHere 71 = .ok (.ldc2_w 235, 3) := by decide +kernel
theorem dX9_numberHere_74 : decode cX9_numberHere 74 = .ok (.invokevirtual 223, 3) := by decide +kernel
theorem dX9_numberHere_77 : decode cX9_numberHere 77 = .ok (.ifCond .eq 7, 3) := by decide +kernel
theorem dX9_numberHere_80 : decode cX9_numberHere 80 = .ok (.iconst 5, 1) := by decide +kernel
theorem dX9_numberHere_81 : decode cX9_numberHere 81 = .ok (.goto 19, 3) := by decide +kernel
theorem dX9_numberHere_84 : decode cX9_numberHere 84 = .ok (.aload_n 0, 1) := by decide +kernel
theorem dX9_numberHere_85 : decode cX9_numberHere 85 = .ok (.ldc2_w 237, 3) := by decide +kernel
theorem dX9_numberHere_88 : decode cX9_numberHere 88 = .ok (.invokevirtual 223, 3) := by decide +kernel
theorem dX9_numberHere_91 : decode cX9_numberHere 91 = .ok (.ifCond .eq 8, 3) := by decide +kernel
theorem dX9_numberHere_94 : decode cX9_numberHere 94 = .ok (.bipush 6, 2) := by decide +kernel
theorem dX9_numberHere_96 : decode cX9_numberHere 96 = .ok (.goto 4, 3) := by decide +kernel
theorem dX9_numberHere_99 : decode cX9_numberHere 99 = .ok (.iconst (-1), 1) := by decide +kernel
theorem dX9_numberHere_100 : decode cX9_numberHere 100 = .ok (.ireturn, 1) := by decide +kernel
theorem dX9_fails_0 : decode cX9_fails 0 = .ok (.aload_n 0, 1) := by decide +kernel
theorem dX9_fails_1 : decode cX9_fails 1 = .ok (.getfield 11, 3) := by decide +kernel
theorem dX9_fails_4 : decode cX9_fails 4 = .ok (.ifCond .le 4, 3) := by decide +kernel
theorem dX9_fails_7 : decode cX9_fails 7 = .ok (.return_, 1) := by decide +kernel
theorem dX9_fails_8 : decode cX9_fails 8 = .ok (.aload_n 0, 1) := by decide +kernel
theorem dX9_fails_9 : decode cX9_fails 9 = .ok (.iload_n 1, 1) := by decide +kernel
theorem dX9_fails_10 : decode cX9_fails 10 = .ok (.putfield 11, 3) := by decide +kernel
theorem dX9_fails_13 : decode cX9_fails 13 = .ok (.aload_n 0, 1) := by decide +kernel
theorem dX9_fails_14 : decode cX9_fails 14 = .ok (.iload_n 2, 1) := by decide +kernel
theorem dX9_fails_15 : decode cX9_fails 15 = .ok (.putfield 14, 3) := by decide +kernel
theorem dX9_fails_18 : decode cX9_fails 18 = .ok (.return_, 1) := by decide +kernel
theorem dX9_wrong_0 : decode cX9_wrong 0 = .ok (.aload_n 0, 1) := by decide +kernel
theorem dX9_wrong_1 : decode cX9_wrong 1 = .ok (.aload_n 0, 1) := by decide +kernel
theorem dX9_wrong_2 : decode cX9_wrong 2 = .ok (.getfield 27, 3) := by decide +kernel
theorem dX9_wrong_5 : decode cX9_wrong 5 = .ok (.iconst 1, 1) := by decide +kernel
theorem dX9_wrong_6 : decode cX9_wrong 6 = .ok (.if_icmp .ne 7, 3) := by decide +kernel
theorem dX9_wrong_9 : decode cX9_wrong 9 = .ok (.iconst 1, 1) := by decide +kernel
theorem dX9_wrong_10 : decode cX9_wrong 10 = .ok (.goto 4, 3) := by decide +kernel
theorem dX9_wrong_13 : decode cX9_wrong 13 = .ok (.iconst 2, 1) := by decide +kernel
theorem dX9_wrong_14 : decode cX9_wrong 14 = .ok (.aload_n 0, 1) := by decide +kernel
theorem dX9_wrong_15 : decode cX9_wrong 15 = .ok (.getfield 20, 3) := by decide +kernel
theorem dX9_wrong_18 : decode cX9_wrong 18 = .ok (.invokevirtual 47, 3) := by decide +kernel
theorem dX9_wrong_21 : decode cX9_wrong 21 = .ok (.return_, 1) := by decide +kernel
theorem dX9_kindHere_0 : decode cX9_kindHere 0 = .ok (.aload_n 0, 1) := by decide +kernel
theorem dX9_kindHere_1 : decode cX9_kindHere 1 = .ok (.ldc2_w 239, 3) := by decide +kernel
theorem dX9_kindHere_4 : decode cX9_kindHere 4 = .ok (.invokevirtual 223, 3) := by decide +kernel
theorem dX9_kindHere_7 : decode cX9_kindHere 7 = .ok (.ifCond .eq 7, 3) := by decide +kernel
theorem dX9_kindHere_10 : decode cX9_kindHere 10 = .ok (.iconst 0, 1) := by decide +kernel
theorem dX9_kindHere_11 : decode cX9_kindHere 11 = .ok (.goto 60, 3) := by decide +kernel
theorem dX9_kindHere_14 : decode cX9_kindHere 14 = .ok (.aload_n 0, 1) := by decide +kernel
theorem dX9_kindHere_15 : decode cX9_kindHere 15 = .ok (.ldc2_w 241, 3) := by decide +kernel
theorem dX9_kindHere_18 : decode cX9_kindHere 18 = .ok (.invokevirtual 223, 3) := by decide +kernel
theorem dX9_kindHere_21 : decode cX9_kindHere 21 = .ok (.ifCond .eq 7, 3) := by decide +kernel
theorem dX9_kindHere_24 : decode cX9_kindHere 24 = .ok (.iconst 1, 1) := by decide +kernel
theorem dX9_kindHere_25 : decode cX9_kindHere 25 = .ok (.goto 46, 3) := by decide +kernel
theorem dX9_kindHere_28 : decode cX9_kindHere 28 = .ok (.aload_n 0, 1) := by decide +kernel
theorem dX9_kindHere_29 : decode cX9_kindHere 29 = .ok (.ldc2_w 243, 3) := by decide +kernel
theorem dX9_kindHere_32 : decode cX9_kindHere 32 = .ok (.invokevirtual 223, 3) := by decide +kernel
theorem dX9_kindHere_35 : decode cX9_kindHere 35 = .ok (.ifCond .eq 7, 3) := by decide +kernel
theorem dX9_kindHere_38 : decode cX9_kindHere 38 = .ok (.iconst 2, 1) := by decide +kernel
theorem dX9_kindHere_39 : decode cX9_kindHere 39 = .ok (.goto 32, 3) := by decide +kernel
theorem dX9_kindHere_42 : decode cX9_kindHere 42 = .ok (.aload_n 0, 1) := by decide +kernel
theorem dX9_kindHere_43 : decode cX9_kindHere 43 = .ok (.ldc2_w 245, 3) := by decide +kernel
theorem dX9_kindHere_46 : decode cX9_kindHere 46 = .ok (.invokevirtual 223, 3) := by decide +kernel
theorem dX9_kindHere_49 : decode cX9_kindHere 49 = .ok (.ifCond .eq 7, 3) := by decide +kernel
theorem dX9_kindHere_52 : decode cX9_kindHere 52 = .ok (.iconst 3, 1) := by decide +kernel
theorem dX9_kindHere_53 : decode cX9_kindHere 53 = .ok (.goto 18, 3) := by decide +kernel
theorem dX9_kindHere_56 : decode cX9_kindHere 56 = .ok (.aload_n 0, 1) := by decide +kernel
theorem dX9_kindHere_57 : decode cX9_kindHere 57 = .ok (.ldc2_w 247, 3) := by decide +kernel
theorem dX9_kindHere_60 : decode cX9_kindHere 60 = .ok (.invokevirtual 223, 3) := by decide +kernel
theorem dX9_kindHere_63 : decode cX9_kindHere 63 = .ok (.ifCond .eq 7, 3) := by decide +kernel
theorem dX9_kindHere_66 : decode cX9_kindHere 66 = .ok (.iconst 4, 1) := by decide +kernel
theorem dX9_kindHere_67 : decode cX9_kindHere 67 = .ok (.goto 4, 3) := by decide +kernel
theorem dX9_kindHere_70 : decode cX9_kindHere 70 = .ok (.iconst (-1), 1) := by decide +kernel
theorem dX9_kindHere_71 : decode cX9_kindHere 71 = .ok (.ireturn, 1) := by decide +kernel
theorem dX9_must_0 : decode cX9_must 0 = .ok (.aload_n 0, 1) := by decide +kernel
theorem dX9_must_1 : decode cX9_must 1 = .ok (.invokevirtual 51, 3) := by decide +kernel
theorem dX9_must_4 : decode cX9_must 4 = .ok (.ifCond .ne 4, 3) := by decide +kernel
theorem dX9_must_7 : decode cX9_must 7 = .ok (.return_, 1) := by decide +kernel
theorem dX9_must_8 : decode cX9_must 8 = .ok (.iload_n 1, 1) := by decide +kernel
theorem dX9_must_9 : decode cX9_must 9 = .ok (.ifCond .eq 10, 3) := by decide +kernel
theorem dX9_must_12 : decode cX9_must 12 = .ok (.aload_n 0, 1) := by decide +kernel
theorem dX9_must_13 : decode cX9_must 13 = .ok (.invokevirtual 55, 3) := by decide +kernel
theorem dX9_must_16 : decode cX9_must 16 = .ok (.goto 7, 3) := by decide +kernel
theorem dX9_must_19 : decode cX9_must 19 = .ok (.aload_n 0, 1) := by decide +kernel
theorem dX9_must_20 : decode cX9_must 20 = .ok (.invokevirtual 59, 3) := by decide +kernel
theorem dX9_must_23 : decode cX9_must 23 = .ok (.return_, 1) := by decide +kernel
theorem dX9_numeral_0 : decode cX9_numeral 0 = .ok (.aload_n 0, 1) := by decide +kernel
theorem dX9_numeral_1 : decode cX9_numeral 1 = .ok (.invokevirtual 51, 3) := by decide +kernel
theorem dX9_numeral_4 : decode cX9_numeral 4 = .ok (.ifCond .ne 5, 3) := by decide +kernel
theorem dX9_numeral_7 : decode cX9_numeral 7 = .ok (.iload_n 1, 1) := by decide +kernel
theorem dX9_numeral_8 : decode cX9_numeral 8 = .ok (.ireturn, 1) := by decide +kernel
theorem dX9_numeral_9 : decode cX9_numeral 9 = .ok (.aload_n 0, 1) := by decide +kernel
theorem dX9_numeral_10 : decode cX9_numeral 10 = .ok (.getfield 27, 3) := by decide +kernel
theorem dX9_numeral_13 : decode cX9_numeral 13 = .ok (.iconst 3, 1) := by decide +kernel
theorem dX9_numeral_14 : decode cX9_numeral 14 = .ok (.if_icmp .eq 7, 3) := by decide +kernel
theorem dX9_numeral_17 : decode cX9_numeral 17 = .ok (.aload_n 0, 1) := by decide +kernel
theorem dX9_numeral_18 : decode cX9_numeral 18 = .ok (.invokevirtual 59, 3) := by decide +kernel
theorem dX9_numeral_21 : decode cX9_numeral 21 = .ok (.aload_n 0, 1) := by decide +kernel
theorem dX9_numeral_22 : decode cX9_numeral 22 = .ok (.invokevirtual 51, 3) := by decide +kernel
theorem dX9_numeral_25 : decode cX9_numeral 25 = .ok (.ifCond .eq 28, 3) := by decide +kernel
theorem dX9_numeral_28 : decode cX9_numeral 28 = .ok (.aload_n 0, 1) := by decide +kernel
theorem dX9_numeral_29 : decode cX9_numeral 29 = .ok (.getfield 41, 3) := by decide +kernel
theorem dX9_numeral_32 : decode cX9_numeral 32 = .ok (.iload_n 1, 1) := by decide +kernel
theorem dX9_numeral_33 : decode cX9_numeral 33 = .ok (.if_icmp .lt 11, 3) := by decide +kernel
theorem dX9_numeral_36 : decode cX9_numeral 36 = .ok (.aload_n 0, 1) := by decide +kernel
theorem dX9_numeral_37 : decode cX9_numeral 37 = .ok (.getfield 41, 3) := by decide +kernel
theorem dX9_numeral_40 : decode cX9_numeral 40 = .ok (.iload_n 2, 1) := by decide +kernel
theorem dX9_numeral_41 : decode cX9_numeral 41 = .ok (.if_icmp .le 12, 3) := by decide +kernel
theorem dX9_numeral_44 : decode cX9_numeral 44 = .ok (.aload_n 0, 1) := by decide +kernel
theorem dX9_numeral_45 : decode cX9_numeral 45 = .ok (.iconst 4, 1) := by decide +kernel
theorem dX9_numeral_46 : decode cX9_numeral 46 = .ok (.aload_n 0, 1) := by decide +kernel
theorem dX9_numeral_47 : decode cX9_numeral 47 = .ok (.getfield 20, 3) := by decide +kernel
theorem dX9_numeral_50 : decode cX9_numeral 50 = .ok (.invokevirtual 47, 3) := by decide +kernel
theorem dX9_numeral_53 : decode cX9_numeral 53 = .ok (.aload_n 0, 1) := by decide +kernel
theorem dX9_numeral_54 : decode cX9_numeral 54 = .ok (.getfield 41, 3) := by decide +kernel
theorem dX9_numeral_57 : decode cX9_numeral 57 = .ok (.istore_n 3, 1) := by decide +kernel
theorem dX9_numeral_58 : decode cX9_numeral 58 = .ok (.aload_n 0, 1) := by decide +kernel
theorem dX9_numeral_59 : decode cX9_numeral 59 = .ok (.invokevirtual 51, 3) := by decide +kernel
theorem dX9_numeral_62 : decode cX9_numeral 62 = .ok (.ifCond .eq 7, 3) := by decide +kernel
theorem dX9_numeral_65 : decode cX9_numeral 65 = .ok (.aload_n 0, 1) := by decide +kernel
theorem dX9_numeral_66 : decode cX9_numeral 66 = .ok (.invokevirtual 55, 3) := by decide +kernel
theorem dX9_numeral_69 : decode cX9_numeral 69 = .ok (.aload_n 0, 1) := by decide +kernel
theorem dX9_numeral_70 : decode cX9_numeral 70 = .ok (.invokevirtual 51, 3) := by decide +kernel
theorem dX9_numeral_73 : decode cX9_numeral 73 = .ok (.ifCond .eq 7, 3) := by decide +kernel
theorem dX9_numeral_76 : decode cX9_numeral 76 = .ok (.iload_n 3, 1) := by decide +kernel
theorem dX9_numeral_77 : decode cX9_numeral 77 = .ok (.goto 4, 3) := by decide +kernel
theorem dX9_numeral_80 : decode cX9_numeral 80 = .ok (.iload_n 1, 1) := by decide +kernel
theorem dX9_numeral_81 : decode cX9_numeral 81 = .ok (.ireturn, 1) := by decide +kernel
theorem dX9_put_0 : decode cX9_put 0 = .ok (.aload_n 0, 1) := by decide +kernel
theorem dX9_put_1 : decode cX9_put 1 = .ok (.getfield 108, 3) := by decide +kernel
theorem dX9_put_4 : decode cX9_put 4 = .ok (.aload_n 0, 1) := by decide +kernel
theorem dX9_put_5 : decode cX9_put 5 = .ok (.getfield 288, 3) := by decide +kernel
theorem dX9_put_8 : decode cX9_put 8 = .ok (.iload_n 1, 1) := by decide +kernel
theorem dX9_put_9 : decode cX9_put 9 = .ok (.iastore, 1) := by decide +kernel
theorem dX9_put_10 : decode cX9_put 10 = .ok (.aload_n 0, 1) := by decide +kernel
theorem dX9_put_11 : decode cX9_put 11 = .ok (.getfield 111, 3) := by decide +kernel
theorem dX9_put_14 : decode cX9_put 14 = .ok (.aload_n 0, 1) := by decide +kernel
theorem dX9_put_15 : decode cX9_put 15 = .ok (.getfield 288, 3) := by decide +kernel
theorem dX9_put_18 : decode cX9_put 18 = .ok (.iload_n 2, 1) := by decide +kernel
theorem dX9_put_19 : decode cX9_put 19 = .ok (.iastore, 1) := by decide +kernel
theorem dX9_put_20 : decode cX9_put 20 = .ok (.aload_n 0, 1) := by decide +kernel
theorem dX9_put_21 : decode cX9_put 21 = .ok (.dup, 1) := by decide +kernel
theorem dX9_put_22 : decode cX9_put 22 = .ok (.getfield 288, 3) := by decide +kernel
theorem dX9_put_25 : decode cX9_put 25 = .ok (.iconst 1, 1) := by decide +kernel
theorem dX9_put_26 : decode cX9_put 26 = .ok (.iadd, 1) := by decide +kernel
theorem dX9_put_27 : decode cX9_put 27 = .ok (.putfield 288, 3) := by decide +kernel
theorem dX9_put_30 : decode cX9_put 30 = .ok (.return_, 1) := by decide +kernel
theorem dX9_is_0 : decode cX9_is 0 = .ok (.aload_n 0, 1) := by decide +kernel
theorem dX9_is_1 : decode cX9_is 1 = .ok (.getfield 27, 3) := by decide +kernel
theorem dX9_is_4 : decode cX9_is 4 = .ok (.iconst 4, 1) := by decide +kernel
theorem dX9_is_5 : decode cX9_is 5 = .ok (.if_icmp .ne 19, 3) := by decide +kernel
theorem dX9_is_8 : decode cX9_is 8 = .ok (.aload_n 0, 1) := by decide +kernel
theorem dX9_is_9 : decode cX9_is 9 = .ok (.aload_n 0, 1) := by decide +kernel
theorem dX9_is_10 : decode cX9_is 10 = .ok (.getfield 20, 3) := by decide +kernel
theorem dX9_is_13 : decode cX9_is 13 = .ok (.invokevirtual 23, 3) := by decide +kernel
theorem dX9_is_16 : decode cX9_is 16 = .ok (.iload_n 1, 1) := by decide +kernel
theorem dX9_is_17 : decode cX9_is 17 = .ok (.if_icmp .ne 7, 3) := by decide +kernel
theorem dX9_is_20 : decode cX9_is 20 = .ok (.iconst 1, 1) := by decide +kernel
theorem dX9_is_21 : decode cX9_is 21 = .ok (.goto 4, 3) := by decide +kernel
theorem dX9_is_24 : decode cX9_is 24 = .ok (.iconst 0, 1) := by decide +kernel
theorem dX9_is_25 : decode cX9_is 25 = .ok (.ireturn, 1) := by decide +kernel
theorem dX9_wordHere_0 : decode cX9_wordHere 0 = .ok (.aload_n 0, 1) := by decide +kernel
theorem dX9_wordHere_1 : decode cX9_wordHere 1 = .ok (.invokevirtual 282, 3) := by decide +kernel
theorem dX9_wordHere_4 : decode cX9_wordHere 4 = .ok (.ifCond .lt 6, 3) := by decide +kernel
theorem dX9_wordHere_7 : decode cX9_wordHere 7 = .ok (.bipush 107, 2) := by decide +kernel
theorem dX9_wordHere_9 : decode cX9_wordHere 9 = .ok (.ireturn, 1) := by decide +kernel
theorem dX9_wordHere_10 : decode cX9_wordHere 10 = .ok (.aload_n 0, 1) := by decide +kernel
theorem dX9_wordHere_11 : decode cX9_wordHere 11 = .ok (.ldc2_w 303, 3) := by decide +kernel
theorem dX9_wordHere_14 : decode cX9_wordHere 14 = .ok (.invokevirtual 223, 3) := by decide +kernel
theorem dX9_wordHere_17 : decode cX9_wordHere 17 = .ok (.ifCond .eq 6, 3) := by decide +kernel
theorem dX9_wordHere_20 : decode cX9_wordHere 20 = .ok (.bipush 104, 2) := by decide +kernel
theorem dX9_wordHere_22 : decode cX9_wordHere 22 = .ok (.ireturn, 1) := by decide +kernel
theorem dX9_wordHere_23 : decode cX9_wordHere 23 = .ok (.aload_n 0, 1) := by decide +kernel
theorem dX9_wordHere_24 : decode cX9_wordHere 24 = .ok (.ldc2_w 305, 3) := by decide +kernel
theorem dX9_wordHere_27 : decode cX9_wordHere 27 = .ok (.invokevirtual 223, 3) := by decide +kernel
theorem dX9_wordHere_30 : decode cX9_wordHere 30 = .ok (.ifCond .eq 6, 3) := by decide +kernel
theorem dX9_wordHere_33 : decode cX9_wordHere 33 = .ok (.bipush 116, 2) := by decide +kernel
theorem dX9_wordHere_35 : decode cX9_wordHere 35 = .ok (.ireturn, 1) := by decide +kernel
theorem dX9_wordHere_36 : decode cX9_wordHere 36 = .ok (.aload_n 0, 1) := by decide +kernel
theorem dX9_wordHere_37 : decode cX9_wordHere 37 = .ok (.ldc2_w 307, 3) := by decide +kernel
theorem dX9_wordHere_40 : decode cX9_wordHere 40 = .ok (.invokevirtual 223, 3) := by decide +kernel
theorem dX9_wordHere_43 : decode cX9_wordHere 43 = .ok (.ifCond .eq 6, 3) := by decide +kernel
theorem dX9_wordHere_46 : decode cX9_wordHere 46 = .ok (.bipush 119, 2) := by decide +kernel
theorem dX9_wordHere_48 : decode cX9_wordHere 48 = .ok (.ireturn, 1) := by decide +kernel
theorem dX9_wordHere_49 : decode cX9_wordHere 49 = .ok (.aload_n 0, 1) := by decide +kernel
theorem dX9_wordHere_50 : decode cX9_wordHere 50 = .ok (.ldc2_w 309, 3) := by decide +kernel
theorem dX9_wordHere_53 : decode cX9_wordHere 53 = .ok (.invokevirtual 223, 3) := by decide +kernel
theorem dX9_wordHere_56 : decode cX9_wordHere 56 = .ok (.ifCond .eq 6, 3) := by decide +kernel
theorem dX9_wordHere_59 : decode cX9_wordHere 59 = .ok (.bipush 112, 2) := by decide +kernel
theorem dX9_wordHere_61 : decode cX9_wordHere 61 = .ok (.ireturn, 1) := by decide +kernel
theorem dX9_wordHere_62 : decode cX9_wordHere 62 = .ok (.aload_n 0, 1) := by decide +kernel
theorem dX9_wordHere_63 : decode cX9_wordHere 63 = .ok (.ldc2_w 311, 3) := by decide +kernel
theorem dX9_wordHere_66 : decode cX9_wordHere 66 = .ok (.invokevirtual 223, 3) := by decide +kernel
theorem dX9_wordHere_69 : decode cX9_wordHere 69 = .ok (.ifCond .eq 6, 3) := by decide +kernel
theorem dX9_wordHere_72 : decode cX9_wordHere 72 = .ok (.bipush 114, 2) := by decide +kernel
theorem dX9_wordHere_74 : decode cX9_wordHere 74 = .ok (.ireturn, 1) := by decide +kernel
theorem dX9_wordHere_75 : decode cX9_wordHere 75 = .ok (.aload_n 0, 1) := by decide +kernel
theorem dX9_wordHere_76 : decode cX9_wordHere 76 = .ok (.ldc2_w 313, 3) := by decide +kernel
theorem dX9_wordHere_79 : decode cX9_wordHere 79 = .ok (.invokevirtual 223, 3) := by decide +kernel
theorem dX9_wordHere_82 : decode cX9_wordHere 82 = .ok (.ifCond .eq 8, 3) := by decide +kernel
theorem dX9_wordHere_85 : decode cX9_wordHere 85 = .ok (.bipush 98, 2) := by decide +kernel
theorem dX9_wordHere_87 : decode cX9_wordHere 87 = .ok (.goto 4, 3) := by decide +kernel
theorem dX9_wordHere_90 : decode cX9_wordHere 90 = .ok (.iconst 0, 1) := by decide +kernel
theorem dX9_wordHere_91 : decode cX9_wordHere 91 = .ok (.ireturn, 1) := by decide +kernel
theorem dX9_step_0 : decode cX9_step 0 = .ok (.aload_n 0, 1) := by decide +kernel
theorem dX9_step_1 : decode cX9_step 1 = .ok (.getfield 102, 3) := by decide +kernel
theorem dX9_step_4 : decode cX9_step 4 = .ok (.sipush 3600, 3) := by decide +kernel
theorem dX9_step_7 : decode cX9_step 7 = .ok (.aload_n 0, 1) := by decide +kernel
theorem dX9_step_8 : decode cX9_step 8 = .ok (.getfield 209, 3) := by decide +kernel
theorem dX9_step_11 : decode cX9_step 11 = .ok (.iadd, 1) := by decide +kernel
theorem dX9_step_12 : decode cX9_step 12 = .ok (.iload_n 1, 1) := by decide +kernel
theorem dX9_step_13 : decode cX9_step 13 = .ok (.iastore, 1) := by decide +kernel
theorem dX9_step_14 : decode cX9_step 14 = .ok (.aload_n 0, 1) := by decide +kernel
theorem dX9_step_15 : decode cX9_step 15 = .ok (.getfield 105, 3) := by decide +kernel
theorem dX9_step_18 : decode cX9_step 18 = .ok (.sipush 3600, 3) := by decide +kernel
theorem dX9_step_21 : decode cX9_step 21 = .ok (.aload_n 0, 1) := by decide +kernel
theorem dX9_step_22 : decode cX9_step 22 = .ok (.getfield 209, 3) := by decide +kernel
theorem dX9_step_25 : decode cX9_step 25 = .ok (.iadd, 1) := by decide +kernel
theorem dX9_step_26 : decode cX9_step 26 = .ok (.iload_n 2, 1) := by decide +kernel
theorem dX9_step_27 : decode cX9_step 27 = .ok (.iastore, 1) := by decide +kernel
theorem dX9_step_28 : decode cX9_step 28 = .ok (.aload_n 0, 1) := by decide +kernel
theorem dX9_step_29 : decode cX9_step 29 = .ok (.dup, 1) := by decide +kernel
theorem dX9_step_30 : decode cX9_step 30 = .ok (.getfield 209, 3) := by decide +kernel
theorem dX9_step_33 : decode cX9_step 33 = .ok (.iconst 1, 1) := by decide +kernel
theorem dX9_step_34 : decode cX9_step 34 = .ok (.iadd, 1) := by decide +kernel
theorem dX9_step_35 : decode cX9_step 35 = .ok (.putfield 209, 3) := by decide +kernel
theorem dX9_step_38 : decode cX9_step 38 = .ok (.return_, 1) := by decide +kernel
theorem dX9_unit_0 : decode cX9_unit 0 = .ok (.aload_n 0, 1) := by decide +kernel
theorem dX9_unit_1 : decode cX9_unit 1 = .ok (.getfield 108, 3) := by decide +kernel
theorem dX9_unit_4 : decode cX9_unit 4 = .ok (.aload_n 0, 1) := by decide +kernel
theorem dX9_unit_5 : decode cX9_unit 5 = .ok (.getfield 288, 3) := by decide +kernel
theorem dX9_unit_8 : decode cX9_unit 8 = .ok (.iconst 1, 1) := by decide +kernel
theorem dX9_unit_9 : decode cX9_unit 9 = .ok (.isub, 1) := by decide +kernel
theorem dX9_unit_10 : decode cX9_unit 10 = .ok (.iaload, 1) := by decide +kernel
theorem dX9_unit_11 : decode cX9_unit 11 = .ok (.iconst 3, 1) := by decide +kernel
theorem dX9_unit_12 : decode cX9_unit 12 = .ok (.if_icmp .le 19, 3) := by decide +kernel
theorem dX9_unit_15 : decode cX9_unit 15 = .ok (.aload_n 0, 1) := by decide +kernel
theorem dX9_unit_16 : decode cX9_unit 16 = .ok (.getfield 108, 3) := by decide +kernel
theorem dX9_unit_19 : decode cX9_unit 19 = .ok (.aload_n 0, 1) := by decide +kernel
theorem dX9_unit_20 : decode cX9_unit 20 = .ok (.getfield 288, 3) := by decide +kernel
theorem dX9_unit_23 : decode cX9_unit 23 = .ok (.iconst 1, 1) := by decide +kernel
theorem dX9_unit_24 : decode cX9_unit 24 = .ok (.isub, 1) := by decide +kernel
theorem dX9_unit_25 : decode cX9_unit 25 = .ok (.iaload, 1) := by decide +kernel
theorem dX9_unit_26 : decode cX9_unit 26 = .ok (.bipush 7, 2) := by decide +kernel
theorem dX9_unit_28 : decode cX9_unit 28 = .ok (.if_icmp .lt 7, 3) := by decide +kernel
theorem dX9_unit_31 : decode cX9_unit 31 = .ok (.iconst 1, 1) := by decide +kernel
theorem dX9_unit_32 : decode cX9_unit 32 = .ok (.goto 4, 3) := by decide +kernel
theorem dX9_unit_35 : decode cX9_unit 35 = .ok (.iconst 0, 1) := by decide +kernel
theorem dX9_unit_36 : decode cX9_unit 36 = .ok (.istore_n 1, 1) := by decide +kernel
theorem dX9_unit_37 : decode cX9_unit 37 = .ok (.iload_n 1, 1) := by decide +kernel
theorem dX9_unit_38 : decode cX9_unit 38 = .ok (.ifCond .eq 17, 3) := by decide +kernel
theorem dX9_unit_41 : decode cX9_unit 41 = .ok (.aload_n 0, 1) := by decide +kernel
theorem dX9_unit_42 : decode cX9_unit 42 = .ok (.ldc2_w 315, 3) := by decide +kernel
theorem dX9_unit_45 : decode cX9_unit 45 = .ok (.invokevirtual 223, 3) := by decide +kernel
theorem dX9_unit_48 : decode cX9_unit 48 = .ok (.ifCond .eq 7, 3) := by decide +kernel
theorem dX9_unit_51 : decode cX9_unit 51 = .ok (.iconst 1, 1) := by decide +kernel
theorem dX9_unit_52 : decode cX9_unit 52 = .ok (.goto 4, 3) := by decide +kernel
theorem dX9_unit_55 : decode cX9_unit 55 = .ok (.iconst 0, 1) := by decide +kernel
theorem dX9_unit_56 : decode cX9_unit 56 = .ok (.istore_n 2, 1) := by decide +kernel
theorem dX9_unit_57 : decode cX9_unit 57 = .ok (.aload_n 0, 1) := by decide +kernel
theorem dX9_unit_58 : decode cX9_unit 58 = .ok (.bipush 40, 2) := by decide +kernel
theorem dX9_unit_60 : decode cX9_unit 60 = .ok (.invokevirtual 266, 3) := by decide +kernel
theorem dX9_unit_63 : decode cX9_unit 63 = .ok (.istore_n 3, 1) := by decide +kernel
theorem dX9_unit_64 : decode cX9_unit 64 = .ok (.aload_n 0, 1) := by decide +kernel
theorem dX9_unit_65 : decode cX9_unit 65 = .ok (.invokevirtual 317, 3) := by decide +kernel
theorem dX9_unit_68 : decode cX9_unit 68 = .ok (.istore 4, 2) := by decide +kernel
theorem dX9_unit_70 : decode cX9_unit 70 = .ok (.iload_n 2, 1) := by decide +kernel
theorem dX9_unit_71 : decode cX9_unit 71 = .ok (.ifCond .ne 29, 3) := by decide +kernel
theorem dX9_unit_74 : decode cX9_unit 74 = .ok (.iload 4, 2) := by decide +kernel
theorem dX9_unit_76 : decode cX9_unit 76 = .ok (.ifCond .ne 15, 3) := by decide +kernel
theorem dX9_unit_79 : decode cX9_unit 79 = .ok (.aload_n 0, 1) := by decide +kernel
theorem dX9_unit_80 : decode cX9_unit 80 = .ok (.getfield 27, 3) := by decide +kernel
theorem dX9_unit_83 : decode cX9_unit 83 = .ok (.iconst 3, 1) := by decide +kernel
theorem dX9_unit_84 : decode cX9_unit 84 = .ok (.if_icmp .eq 7, 3) := by decide +kernel
theorem dX9_unit_87 : decode cX9_unit 87 = .ok (.iload_n 3, 1) := by decide +kernel
theorem dX9_unit_88 : decode cX9_unit 88 = .ok (.ifCond .eq 29, 3) := by decide +kernel
theorem dX9_unit_91 : decode cX9_unit 91 = .ok (.aload_n 0, 1) := by decide +kernel
theorem dX9_unit_92 : decode cX9_unit 92 = .ok (.getfield 212, 3) := by decide +kernel
theorem dX9_unit_95 : decode cX9_unit 95 = .ok (.bipush 80, 2) := by decide +kernel
theorem dX9_unit_97 : decode cX9_unit 97 = .ok (.if_icmp .eq 20, 3) := by decide +kernel
theorem dX9_unit_100 : decode cX9_unit 100 = .ok (.iload_n 2, 1) := by decide +kernel
theorem dX9_unit_101 : decode cX9_unit 101 = .ok (.ifCond .ne 7, 3) := by decide +kernel
theorem dX9_unit_104 : decode cX9_unit 104 = .ok (.iload_n 3, 1) := by decide +kernel
theorem dX9_unit_105 : decode cX9_unit 105 = .ok (.ifCond .eq 16, 3) := by decide +kernel
theorem dX9_unit_108 : decode cX9_unit 108 = .ok (.aload_n 0, 1) := by decide +kernel
theorem dX9_unit_109 : decode cX9_unit 109 = .ok (.getfield 291, 3) := by decide +kernel
theorem dX9_unit_112 : decode cX9_unit 112 = .ok (.bipush 7, 2) := by decide +kernel
theorem dX9_unit_114 : decode cX9_unit 114 = .ok (.if_icmp .ne 7, 3) := by decide +kernel
theorem dX9_unit_117 : decode cX9_unit 117 = .ok (.aload_n 0, 1) := by decide +kernel
theorem dX9_unit_118 : decode cX9_unit 118 = .ok (.invokevirtual 59, 3) := by decide +kernel
theorem dX9_unit_121 : decode cX9_unit 121 = .ok (.aload_n 0, 1) := by decide +kernel
theorem dX9_unit_122 : decode cX9_unit 122 = .ok (.invokevirtual 51, 3) := by decide +kernel
theorem dX9_unit_125 : decode cX9_unit 125 = .ok (.ifCond .ne 5, 3) := by decide +kernel
theorem dX9_unit_128 : decode cX9_unit 128 = .ok (.iconst 1, 1) := by decide +kernel
theorem dX9_unit_129 : decode cX9_unit 129 = .ok (.ireturn, 1) := by decide +kernel
theorem dX9_unit_130 : decode cX9_unit 130 = .ok (.aload_n 0, 1) := by decide +kernel
theorem dX9_unit_131 : decode cX9_unit 131 = .ok (.dup, 1) := by decide +kernel
theorem dX9_unit_132 : decode cX9_unit 132 = .ok (.getfield 212, 3) := by decide +kernel
theorem dX9_unit_135 : decode cX9_unit 135 = .ok (.iload_n 2, 1) := by decide +kernel
theorem dX9_unit_136 : decode cX9_unit 136 = .ok (.ifCond .eq 7, 3) := by decide +kernel
theorem dX9_unit_139 : decode cX9_unit 139 = .ok (.iconst 0, 1) := by decide +kernel
theorem dX9_unit_140 : decode cX9_unit 140 = .ok (.goto 4, 3) := by decide +kernel
theorem dX9_unit_143 : decode cX9_unit 143 = .ok (.iconst 1, 1) := by decide +kernel
theorem dX9_unit_144 : decode cX9_unit 144 = .ok (.iadd, 1) := by decide +kernel
theorem dX9_unit_145 : decode cX9_unit 145 = .ok (.putfield 212, 3) := by decide +kernel
theorem dX9_unit_148 : decode cX9_unit 148 = .ok (.iload_n 2, 1) := by decide +kernel
theorem dX9_unit_149 : decode cX9_unit 149 = .ok (.ifCond .ne 7, 3) := by decide +kernel
theorem dX9_unit_152 : decode cX9_unit 152 = .ok (.iload_n 3, 1) := by decide +kernel
theorem dX9_unit_153 : decode cX9_unit 153 = .ok (.ifCond .eq 35, 3) := by decide +kernel
theorem dX9_unit_156 : decode cX9_unit 156 = .ok (.aload_n 0, 1) := by decide +kernel
theorem dX9_unit_157 : decode cX9_unit 157 = .ok (.iload_n 2, 1) := by decide +kernel
theorem dX9_unit_158 : decode cX9_unit 158 = .ok (.ifCond .eq 7, 3) := by decide +kernel
theorem dX9_unit_161 : decode cX9_unit 161 = .ok (.iconst 3, 1) := by decide +kernel
theorem dX9_unit_162 : decode cX9_unit 162 = .ok (.goto 5, 3) := by decide +kernel
theorem dX9_unit_165 : decode cX9_unit 165 = .ok (.bipush 7, 2) := by decide +kernel
theorem dX9_unit_167 : decode cX9_unit 167 = .ok (.bipush 126, 2) := by decide +kernel
theorem dX9_unit_169 : decode cX9_unit 169 = .ok (.invokevirtual 294, 3) := by decide +kernel
theorem dX9_unit_172 : decode cX9_unit 172 = .ok (.aload_n 0, 1) := by decide +kernel
theorem dX9_unit_173 : decode cX9_unit 173 = .ok (.dup, 1) := by decide +kernel
theorem dX9_unit_174 : decode cX9_unit 174 = .ok (.getfield 291, 3) := by decide +kernel
theorem dX9_unit_177 : decode cX9_unit 177 = .ok (.iconst 1, 1) := by decide +kernel
theorem dX9_unit_178 : decode cX9_unit 178 = .ok (.iadd, 1) := by decide +kernel
theorem dX9_unit_179 : decode cX9_unit 179 = .ok (.putfield 291, 3) := by decide +kernel
theorem dX9_unit_182 : decode cX9_unit 182 = .ok (.aload_n 0, 1) := by decide +kernel
theorem dX9_unit_183 : decode cX9_unit 183 = .ok (.invokevirtual 55, 3) := by decide +kernel
theorem dX9_unit_186 : decode cX9_unit 186 = .ok (.iconst 1, 1) := by decide +kernel
theorem dX9_unit_187 : decode cX9_unit 187 = .ok (.ireturn, 1) := by decide +kernel
theorem dX9_unit_188 : decode cX9_unit 188 = .ok (.iload 4, 2) := by decide +kernel
theorem dX9_unit_190 : decode cX9_unit 190 = .ok (.ifCond .ne 10, 3) := by decide +kernel
theorem dX9_unit_193 : decode cX9_unit 193 = .ok (.aload_n 0, 1) := by decide +kernel
theorem dX9_unit_194 : decode cX9_unit 194 = .ok (.getfield 41, 3) := by decide +kernel
theorem dX9_unit_197 : decode cX9_unit 197 = .ok (.goto 7, 3) := by decide +kernel
theorem dX9_unit_200 : decode cX9_unit 200 = .ok (.aload_n 0, 1) := by decide +kernel
theorem dX9_unit_201 : decode cX9_unit 201 = .ok (.invokevirtual 282, 3) := by decide +kernel
theorem dX9_unit_204 : decode cX9_unit 204 = .ok (.istore 5, 2) := by decide +kernel
theorem dX9_unit_206 : decode cX9_unit 206 = .ok (.aload_n 0, 1) := by decide +kernel
theorem dX9_unit_207 : decode cX9_unit 207 = .ok (.invokevirtual 55, 3) := by decide +kernel
theorem dX9_unit_210 : decode cX9_unit 210 = .ok (.iload 4, 2) := by decide +kernel
theorem dX9_unit_212 : decode cX9_unit 212 = .ok (.bipush 98, 2) := by decide +kernel
theorem dX9_unit_214 : decode cX9_unit 214 = .ok (.if_icmp .ne 23, 3) := by decide +kernel
theorem dX9_unit_217 : decode cX9_unit 217 = .ok (.aload_n 0, 1) := by decide +kernel
theorem dX9_unit_218 : decode cX9_unit 218 = .ok (.invokevirtual 282, 3) := by decide +kernel
theorem dX9_unit_221 : decode cX9_unit 221 = .ok (.istore 5, 2) := by decide +kernel
theorem dX9_unit_223 : decode cX9_unit 223 = .ok (.aload_n 0, 1) := by decide +kernel
theorem dX9_unit_224 : decode cX9_unit 224 = .ok (.iload 5, 2) := by decide +kernel
theorem dX9_unit_226 : decode cX9_unit 226 = .ok (.ifCond .lt 7, 3) := by decide +kernel
theorem dX9_unit_229 : decode cX9_unit 229 = .ok (.iconst 1, 1) := by decide +kernel
theorem dX9_unit_230 : decode cX9_unit 230 = .ok (.goto 4, 3) := by decide +kernel
theorem dX9_unit_233 : decode cX9_unit 233 = .ok (.iconst 0, 1) := by decide +kernel
theorem dX9_unit_234 : decode cX9_unit 234 = .ok (.invokevirtual 269, 3) := by decide +kernel
theorem dX9_unit_237 : decode cX9_unit 237 = .ok (.aload_n 0, 1) := by decide +kernel
theorem dX9_unit_238 : decode cX9_unit 238 = .ok (.invokevirtual 51, 3) := by decide +kernel
theorem dX9_unit_241 : decode cX9_unit 241 = .ok (.ifCond .ne 5, 3) := by decide +kernel
theorem dX9_unit_244 : decode cX9_unit 244 = .ok (.iconst 1, 1) := by decide +kernel
theorem dX9_unit_245 : decode cX9_unit 245 = .ok (.ireturn, 1) := by decide +kernel
theorem dX9_unit_246 : decode cX9_unit 246 = .ok (.aload_n 0, 1) := by decide +kernel
theorem dX9_unit_247 : decode cX9_unit 247 = .ok (.iload 4, 2) := by decide +kernel
theorem dX9_unit_249 : decode cX9_unit 249 = .ok (.ifCond .ne 8, 3) := by decide +kernel
theorem dX9_unit_252 : decode cX9_unit 252 = .ok (.bipush 110, 2) := by decide +kernel
theorem dX9_unit_254 : decode cX9_unit 254 = .ok (.goto 5, 3) := by decide +kernel
theorem dX9_unit_257 : decode cX9_unit 257 = .ok (.iload 4, 2) := by decide +kernel
theorem dX9_unit_259 : decode cX9_unit 259 = .ok (.iload 5, 2) := by decide +kernel
theorem dX9_unit_261 : decode cX9_unit 261 = .ok (.invokevirtual 320, 3) := by decide +kernel
theorem dX9_unit_264 : decode cX9_unit 264 = .ok (.iconst 0, 1) := by decide +kernel
theorem dX9_unit_265 : decode cX9_unit 265 = .ok (.ireturn, 1) := by decide +kernel
theorem dX9_rankHere_0 : decode cX9_rankHere 0 = .ok (.aload_n 0, 1) := by decide +kernel
theorem dX9_rankHere_1 : decode cX9_rankHere 1 = .ok (.ldc2_w 323, 3) := by decide +kernel
theorem dX9_rankHere_4 : decode cX9_rankHere 4 = .ok (.invokevirtual 223, 3) := by decide +kernel
theorem dX9_rankHere_7 : decode cX9_rankHere 7 = .ok (.ifCond .eq 5, 3) := by decide +kernel
theorem dX9_rankHere_10 : decode cX9_rankHere 10 = .ok (.iconst 2, 1) := by decide +kernel
theorem dX9_rankHere_11 : decode cX9_rankHere 11 = .ok (.ireturn, 1) := by decide +kernel
theorem dX9_rankHere_12 : decode cX9_rankHere 12 = .ok (.aload_n 0, 1) := by decide +kernel
theorem dX9_rankHere_13 : decode cX9_rankHere 13 = .ok (.ldc2_w 325, 3) := by decide +kernel
theorem dX9_rankHere_16 : decode cX9_rankHere 16 = .ok (.invokevirtual 223, 3) := by decide +kernel
theorem dX9_rankHere_19 : decode cX9_rankHere 19 = .ok (.ifCond .eq 5, 3) := by decide +kernel
theorem dX9_rankHere_22 : decode cX9_rankHere 22 = .ok (.iconst 1, 1) := by decide +kernel
theorem dX9_rankHere_23 : decode cX9_rankHere 23 = .ok (.ireturn, 1) := by decide +kernel
theorem dX9_rankHere_24 : decode cX9_rankHere 24 = .ok (.aload_n 0, 1) := by decide +kernel
theorem dX9_rankHere_25 : decode cX9_rankHere 25 = .ok (.bipush 60, 2) := by decide +kernel
theorem dX9_rankHere_27 : decode cX9_rankHere 27 = .ok (.invokevirtual 266, 3) := by decide +kernel
theorem dX9_rankHere_30 : decode cX9_rankHere 30 = .ok (.ifCond .ne 21, 3) := by decide +kernel
theorem dX9_rankHere_33 : decode cX9_rankHere 33 = .ok (.aload_n 0, 1) := by decide +kernel
theorem dX9_rankHere_34 : decode cX9_rankHere 34 = .ok (.bipush 62, 2) := by decide +kernel
theorem dX9_rankHere_36 : decode cX9_rankHere 36 = .ok (.invokevirtual 266, 3) := by decide +kernel
theorem dX9_rankHere_39 : decode cX9_rankHere 39 = .ok (.ifCond .ne 12, 3) := by decide +kernel
theorem dX9_rankHere_42 : decode cX9_rankHere 42 = .ok (.aload_n 0, 1) := by decide +kernel
theorem dX9_rankHere_43 : decode cX9_rankHere 43 = .ok (.bipush 61, 2) := by decide +kernel
theorem dX9_rankHere_45 : decode cX9_rankHere 45 = .ok (.invokevirtual 266, 3) := by decide +kernel
theorem dX9_rankHere_48 : decode cX9_rankHere 48 = .ok (.ifCond .eq 5, 3) := by decide +kernel
theorem dX9_rankHere_51 : decode cX9_rankHere 51 = .ok (.iconst 4, 1) := by decide +kernel
theorem dX9_rankHere_52 : decode cX9_rankHere 52 = .ok (.ireturn, 1) := by decide +kernel
theorem dX9_rankHere_53 : decode cX9_rankHere 53 = .ok (.aload_n 0, 1) := by decide +kernel
theorem dX9_rankHere_54 : decode cX9_rankHere 54 = .ok (.bipush 43, 2) := by decide +kernel
theorem dX9_rankHere_56 : decode cX9_rankHere 56 = .ok (.invokevirtual 266, 3) := by decide +kernel
theorem dX9_rankHere_59 : decode cX9_rankHere 59 = .ok (.ifCond .ne 12, 3) := by decide +kernel
theorem dX9_rankHere_62 : decode cX9_rankHere 62 = .ok (.aload_n 0, 1) := by decide +kernel
theorem dX9_rankHere_63 : decode cX9_rankHere 63 = .ok (.bipush 45, 2) := by decide +kernel
theorem dX9_rankHere_65 : decode cX9_rankHere 65 = .ok (.invokevirtual 266, 3) := by decide +kernel
theorem dX9_rankHere_68 : decode cX9_rankHere 68 = .ok (.ifCond .eq 5, 3) := by decide +kernel
theorem dX9_rankHere_71 : decode cX9_rankHere 71 = .ok (.iconst 5, 1) := by decide +kernel
theorem dX9_rankHere_72 : decode cX9_rankHere 72 = .ok (.ireturn, 1) := by decide +kernel
theorem dX9_rankHere_73 : decode cX9_rankHere 73 = .ok (.aload_n 0, 1) := by decide +kernel
theorem dX9_rankHere_74 : decode cX9_rankHere 74 = .ok (.bipush 42, 2) := by decide +kernel
theorem dX9_rankHere_76 : decode cX9_rankHere 76 = .ok (.invokevirtual 266, 3) := by decide +kernel
theorem dX9_rankHere_79 : decode cX9_rankHere 79 = .ok (.ifCond .ne 12, 3) := by decide +kernel
theorem dX9_rankHere_82 : decode cX9_rankHere 82 = .ok (.aload_n 0, 1) := by decide +kernel
theorem dX9_rankHere_83 : decode cX9_rankHere 83 = .ok (.bipush 47, 2) := by decide +kernel
theorem dX9_rankHere_85 : decode cX9_rankHere 85 = .ok (.invokevirtual 266, 3) := by decide +kernel
theorem dX9_rankHere_88 : decode cX9_rankHere 88 = .ok (.ifCond .eq 8, 3) := by decide +kernel
theorem dX9_rankHere_91 : decode cX9_rankHere 91 = .ok (.bipush 6, 2) := by decide +kernel
theorem dX9_rankHere_93 : decode cX9_rankHere 93 = .ok (.goto 4, 3) := by decide +kernel
theorem dX9_rankHere_96 : decode cX9_rankHere 96 = .ok (.iconst 0, 1) := by decide +kernel
theorem dX9_rankHere_97 : decode cX9_rankHere 97 = .ok (.ireturn, 1) := by decide +kernel
theorem dX9_isCompared_0 : decode cX9_isCompared 0 = .ok (.aload_n 0, 1) := by decide +kernel
theorem dX9_isCompared_1 : decode cX9_isCompared 1 = .ok (.getfield 288, 3) := by decide +kernel
theorem dX9_isCompared_4 : decode cX9_isCompared 4 = .ok (.iconst 1, 1) := by decide +kernel
theorem dX9_isCompared_5 : decode cX9_isCompared 5 = .ok (.isub, 1) := by decide +kernel
theorem dX9_isCompared_6 : decode cX9_isCompared 6 = .ok (.istore_n 1, 1) := by decide +kernel
theorem dX9_isCompared_7 : decode cX9_isCompared 7 = .ok (.aload_n 0, 1) := by decide +kernel
theorem dX9_isCompared_8 : decode cX9_isCompared 8 = .ok (.getfield 108, 3) := by decide +kernel
theorem dX9_isCompared_11 : decode cX9_isCompared 11 = .ok (.iload_n 1, 1) := by decide +kernel
theorem dX9_isCompared_12 : decode cX9_isCompared 12 = .ok (.iaload, 1) := by decide +kernel
theorem dX9_isCompared_13 : decode cX9_isCompared 13 = .ok (.iconst 5, 1) := by decide +kernel
theorem dX9_isCompared_14 : decode cX9_isCompared 14 = .ok (.if_icmp .eq 14, 3) := by decide +kernel
theorem dX9_isCompared_17 : decode cX9_isCompared 17 = .ok (.aload_n 0, 1) := by decide +kernel
theorem dX9_isCompared_18 : decode cX9_isCompared 18 = .ok (.getfield 108, 3) := by decide +kernel
theorem dX9_isCompared_21 : decode cX9_isCompared 21 = .ok (.iload_n 1, 1) := by decide +kernel
theorem dX9_isCompared_22 : decode cX9_isCompared 22 = .ok (.iaload, 1) := by decide +kernel
theorem dX9_isCompared_23 : decode cX9_isCompared 23 = .ok (.bipush 6, 2) := by decide +kernel
theorem dX9_isCompared_25 : decode cX9_isCompared 25 = .ok (.if_icmp .ne 9, 3) := by decide +kernel
theorem dX9_isCompared_28 : decode cX9_isCompared 28 = .ok (.iinc 1 (-1), 3) := by decide +kernel
theorem dX9_isCompared_31 : decode cX9_isCompared 31 = .ok (.goto (-24), 3) := by decide +kernel
theorem dX9_isCompared_34 : decode cX9_isCompared 34 = .ok (.aload_n 0, 1) := by decide +kernel
theorem dX9_isCompared_35 : decode cX9_isCompared 35 = .ok (.getfield 108, 3) := by decide +kernel
theorem dX9_isCompared_38 : decode cX9_isCompared 38 = .ok (.iload_n 1, 1) := by decide +kernel
theorem dX9_isCompared_39 : decode cX9_isCompared 39 = .ok (.iaload, 1) := by decide +kernel
theorem dX9_isCompared_40 : decode cX9_isCompared 40 = .ok (.iconst 4, 1) := by decide +kernel
theorem dX9_isCompared_41 : decode cX9_isCompared 41 = .ok (.if_icmp .ne 7, 3) := by decide +kernel
theorem dX9_isCompared_44 : decode cX9_isCompared 44 = .ok (.iconst 1, 1) := by decide +kernel
theorem dX9_isCompared_45 : decode cX9_isCompared 45 = .ok (.goto 4, 3) := by decide +kernel
theorem dX9_isCompared_48 : decode cX9_isCompared 48 = .ok (.iconst 0, 1) := by decide +kernel
theorem dX9_isCompared_49 : decode cX9_isCompared 49 = .ok (.ireturn, 1) := by decide +kernel
theorem dX9_behind_0 : decode cX9_behind 0 = .ok (.aload_n 0, 1) := by decide +kernel
theorem dX9_behind_1 : decode cX9_behind 1 = .ok (.invokevirtual 327, 3) := by decide +kernel
theorem dX9_behind_4 : decode cX9_behind 4 = .ok (.istore_n 1, 1) := by decide +kernel
theorem dX9_behind_5 : decode cX9_behind 5 = .ok (.iload_n 1, 1) := by decide +kernel
theorem dX9_behind_6 : decode cX9_behind 6 = .ok (.iconst 4, 1) := by decide +kernel
theorem dX9_behind_7 : decode cX9_behind 7 = .ok (.if_icmp .ne 16, 3) := by decide +kernel
theorem dX9_behind_10 : decode cX9_behind 10 = .ok (.aload_n 0, 1) := by decide +kernel
theorem dX9_behind_11 : decode cX9_behind 11 = .ok (.invokevirtual 330, 3) := by decide +kernel
theorem dX9_behind_14 : decode cX9_behind 14 = .ok (.ifCond .eq 9, 3) := by decide +kernel
theorem dX9_behind_17 : decode cX9_behind 17 = .ok (.aload_n 0, 1) := by decide +kernel
theorem dX9_behind_18 : decode cX9_behind 18 = .ok (.invokevirtual 59, 3) := by decide +kernel
theorem dX9_behind_21 : decode cX9_behind 21 = .ok (.iconst 1, 1) := by decide +kernel
theorem dX9_behind_22 : decode cX9_behind 22 = .ok (.ireturn, 1) := by decide +kernel
theorem dX9_behind_23 : decode cX9_behind 23 = .ok (.aload_n 0, 1) := by decide +kernel
theorem dX9_behind_24 : decode cX9_behind 24 = .ok (.getfield 108, 3) := by decide +kernel
theorem dX9_behind_27 : decode cX9_behind 27 = .ok (.aload_n 0, 1) := by decide +kernel
theorem dX9_behind_28 : decode cX9_behind 28 = .ok (.getfield 288, 3) := by decide +kernel
theorem dX9_behind_31 : decode cX9_behind 31 = .ok (.iconst 1, 1) := by decide +kernel
theorem dX9_behind_32 : decode cX9_behind 32 = .ok (.isub, 1) := by decide +kernel
theorem dX9_behind_33 : decode cX9_behind 33 = .ok (.iaload, 1) := by decide +kernel
theorem dX9_behind_34 : decode cX9_behind 34 = .ok (.bipush 6, 2) := by decide +kernel
theorem dX9_behind_36 : decode cX9_behind 36 = .ok (.if_icmp .gt 68, 3) := by decide +kernel
theorem dX9_behind_39 : decode cX9_behind 39 = .ok (.aload_n 0, 1) := by decide +kernel
theorem dX9_behind_40 : decode cX9_behind 40 = .ok (.getfield 108, 3) := by decide +kernel
theorem dX9_behind_43 : decode cX9_behind 43 = .ok (.aload_n 0, 1) := by decide +kernel
theorem dX9_behind_44 : decode cX9_behind 44 = .ok (.getfield 288, 3) := by decide +kernel
theorem dX9_behind_47 : decode cX9_behind 47 = .ok (.iconst 1, 1) := by decide +kernel
theorem dX9_behind_48 : decode cX9_behind 48 = .ok (.isub, 1) := by decide +kernel
theorem dX9_behind_49 : decode cX9_behind 49 = .ok (.iaload, 1) := by decide +kernel
theorem dX9_behind_50 : decode cX9_behind 50 = .ok (.iload_n 1, 1) := by decide +kernel
theorem dX9_behind_51 : decode cX9_behind 51 = .ok (.if_icmp .lt 53, 3) := by decide +kernel
theorem dX9_behind_54 : decode cX9_behind 54 = .ok (.aload_n 0, 1) := by decide +kernel
theorem dX9_behind_55 : decode cX9_behind 55 = .ok (.dup, 1) := by decide +kernel
theorem dX9_behind_56 : decode cX9_behind 56 = .ok (.getfield 288, 3) := by decide +kernel
theorem dX9_behind_59 : decode cX9_behind 59 = .ok (.iconst 1, 1) := by decide +kernel
theorem dX9_behind_60 : decode cX9_behind 60 = .ok (.isub, 1) := by decide +kernel
theorem dX9_behind_61 : decode cX9_behind 61 = .ok (.putfield 288, 3) := by decide +kernel
theorem dX9_behind_64 : decode cX9_behind 64 = .ok (.aload_n 0, 1) := by decide +kernel
theorem dX9_behind_65 : decode cX9_behind 65 = .ok (.getfield 108, 3) := by decide +kernel
theorem dX9_behind_68 : decode cX9_behind 68 = .ok (.aload_n 0, 1) := by decide +kernel
theorem dX9_behind_69 : decode cX9_behind 69 = .ok (.getfield 288, 3) := by decide +kernel
theorem dX9_behind_72 : decode cX9_behind 72 = .ok (.iaload, 1) := by decide +kernel
theorem dX9_behind_73 : decode cX9_behind 73 = .ok (.iconst 3, 1) := by decide +kernel
theorem dX9_behind_74 : decode cX9_behind 74 = .ok (.if_icmp .ne 13, 3) := by decide +kernel
theorem dX9_behind_77 : decode cX9_behind 77 = .ok (.aload_n 0, 1) := by decide +kernel
theorem dX9_behind_78 : decode cX9_behind 78 = .ok (.dup, 1) := by decide +kernel
theorem dX9_behind_79 : decode cX9_behind 79 = .ok (.getfield 291, 3) := by decide +kernel
theorem dX9_behind_82 : decode cX9_behind 82 = .ok (.iconst 1, 1) := by decide +kernel
theorem dX9_behind_83 : decode cX9_behind 83 = .ok (.isub, 1) := by decide +kernel
theorem dX9_behind_84 : decode cX9_behind 84 = .ok (.putfield 291, 3) := by decide +kernel
theorem dX9_behind_87 : decode cX9_behind 87 = .ok (.aload_n 0, 1) := by decide +kernel
theorem dX9_behind_88 : decode cX9_behind 88 = .ok (.aload_n 0, 1) := by decide +kernel
theorem dX9_behind_89 : decode cX9_behind 89 = .ok (.getfield 111, 3) := by decide +kernel
theorem dX9_behind_92 : decode cX9_behind 92 = .ok (.aload_n 0, 1) := by decide +kernel
theorem dX9_behind_93 : decode cX9_behind 93 = .ok (.getfield 288, 3) := by decide +kernel
theorem dX9_behind_96 : decode cX9_behind 96 = .ok (.iaload, 1) := by decide +kernel
theorem dX9_behind_97 : decode cX9_behind 97 = .ok (.iconst 0, 1) := by decide +kernel
theorem dX9_behind_98 : decode cX9_behind 98 = .ok (.invokevirtual 320, 3) := by decide +kernel
theorem dX9_behind_101 : decode cX9_behind 101 = .ok (.goto (-78), 3) := by decide +kernel
theorem dX9_behind_104 : decode cX9_behind 104 = .ok (.iload_n 1, 1) := by decide +kernel
theorem dX9_behind_105 : decode cX9_behind 105 = .ok (.ifCond .le 42, 3) := by decide +kernel
theorem dX9_behind_108 : decode cX9_behind 108 = .ok (.aload_n 0, 1) := by decide +kernel
theorem dX9_behind_109 : decode cX9_behind 109 = .ok (.iload_n 1, 1) := by decide +kernel
theorem dX9_behind_110 : decode cX9_behind 110 = .ok (.iload_n 1, 1) := by decide +kernel
theorem dX9_behind_111 : decode cX9_behind 111 = .ok (.iconst 2, 1) := by decide +kernel
theorem dX9_behind_112 : decode cX9_behind 112 = .ok (.if_icmp .ne 8, 3) := by decide +kernel
theorem dX9_behind_115 : decode cX9_behind 115 = .ok (.bipush 38, 2) := by decide +kernel
theorem dX9_behind_117 : decode cX9_behind 117 = .ok (.goto 21, 3) := by decide +kernel
theorem dX9_behind_120 : decode cX9_behind 120 = .ok (.iload_n 1, 1) := by decide +kernel
theorem dX9_behind_121 : decode cX9_behind 121 = .ok (.iconst 1, 1) := by decide +kernel
theorem dX9_behind_122 : decode cX9_behind 122 = .ok (.if_icmp .ne 8, 3) := by decide +kernel
theorem dX9_behind_125 : decode cX9_behind 125 = .ok (.bipush 124, 2) := by decide +kernel
theorem dX9_behind_127 : decode cX9_behind 127 = .ok (.goto 11, 3) := by decide +kernel
theorem dX9_behind_130 : decode cX9_behind 130 = .ok (.aload_n 0, 1) := by decide +kernel
theorem dX9_behind_131 : decode cX9_behind 131 = .ok (.aload_n 0, 1) := by decide +kernel
theorem dX9_behind_132 : decode cX9_behind 132 = .ok (.getfield 20, 3) := by decide +kernel
theorem dX9_behind_135 : decode cX9_behind 135 = .ok (.invokevirtual 23, 3) := by decide +kernel
theorem dX9_behind_138 : decode cX9_behind 138 = .ok (.invokevirtual 294, 3) := by decide +kernel
theorem dX9_behind_141 : decode cX9_behind 141 = .ok (.aload_n 0, 1) := by decide +kernel
theorem dX9_behind_142 : decode cX9_behind 142 = .ok (.invokevirtual 55, 3) := by decide +kernel
theorem dX9_behind_145 : decode cX9_behind 145 = .ok (.iconst 1, 1) := by decide +kernel
theorem dX9_behind_146 : decode cX9_behind 146 = .ok (.ireturn, 1) := by decide +kernel
theorem dX9_behind_147 : decode cX9_behind 147 = .ok (.aload_n 0, 1) := by decide +kernel
theorem dX9_behind_148 : decode cX9_behind 148 = .ok (.dup, 1) := by decide +kernel
theorem dX9_behind_149 : decode cX9_behind 149 = .ok (.getfield 288, 3) := by decide +kernel
theorem dX9_behind_152 : decode cX9_behind 152 = .ok (.iconst 1, 1) := by decide +kernel
theorem dX9_behind_153 : decode cX9_behind 153 = .ok (.isub, 1) := by decide +kernel
theorem dX9_behind_154 : decode cX9_behind 154 = .ok (.putfield 288, 3) := by decide +kernel
theorem dX9_behind_157 : decode cX9_behind 157 = .ok (.aload_n 0, 1) := by decide +kernel
theorem dX9_behind_158 : decode cX9_behind 158 = .ok (.getfield 108, 3) := by decide +kernel
theorem dX9_behind_161 : decode cX9_behind 161 = .ok (.aload_n 0, 1) := by decide +kernel
theorem dX9_behind_162 : decode cX9_behind 162 = .ok (.getfield 288, 3) := by decide +kernel
theorem dX9_behind_165 : decode cX9_behind 165 = .ok (.iaload, 1) := by decide +kernel
theorem dX9_behind_166 : decode cX9_behind 166 = .ok (.bipush 7, 2) := by decide +kernel
theorem dX9_behind_168 : decode cX9_behind 168 = .ok (.if_icmp .ne 23, 3) := by decide +kernel
theorem dX9_behind_171 : decode cX9_behind 171 = .ok (.aload_n 0, 1) := by decide +kernel
theorem dX9_behind_172 : decode cX9_behind 172 = .ok (.dup, 1) := by decide +kernel
theorem dX9_behind_173 : decode cX9_behind 173 = .ok (.getfield 291, 3) := by decide +kernel
theorem dX9_behind_176 : decode cX9_behind 176 = .ok (.iconst 1, 1) := by decide +kernel
theorem dX9_behind_177 : decode cX9_behind 177 = .ok (.isub, 1) := by decide +kernel
theorem dX9_behind_178 : decode cX9_behind 178 = .ok (.putfield 291, 3) := by decide +kernel
theorem dX9_behind_181 : decode cX9_behind 181 = .ok (.aload_n 0, 1) := by decide +kernel
theorem dX9_behind_182 : decode cX9_behind 182 = .ok (.aload_n 0, 1) := by decide +kernel
theorem dX9_behind_183 : decode cX9_behind 183 = .ok (.bipush 41, 2) := by decide +kernel
theorem dX9_behind_185 : decode cX9_behind 185 = .ok (.invokevirtual 266, 3) := by decide +kernel
theorem dX9_behind_188 : decode cX9_behind 188 = .ok (.invokevirtual 269, 3) := by decide +kernel
theorem dX9_behind_191 : decode cX9_behind 191 = .ok (.iconst 0, 1) := by decide +kernel
theorem dX9_behind_192 : decode cX9_behind 192 = .ok (.ireturn, 1) := by decide +kernel
theorem dX9_e_0 : decode cX9_e 0 = .ok (.aload_n 0, 1) := by decide +kernel
theorem dX9_e_1 : decode cX9_e 1 = .ok (.iconst 0, 1) := by decide +kernel
theorem dX9_e_2 : decode cX9_e 2 = .ok (.putfield 288, 3) := by decide +kernel
theorem dX9_e_5 : decode cX9_e 5 = .ok (.aload_n 0, 1) := by decide +kernel
theorem dX9_e_6 : decode cX9_e 6 = .ok (.iconst 0, 1) := by decide +kernel
theorem dX9_e_7 : decode cX9_e 7 = .ok (.putfield 291, 3) := by decide +kernel
theorem dX9_e_10 : decode cX9_e 10 = .ok (.aload_n 0, 1) := by decide +kernel
theorem dX9_e_11 : decode cX9_e 11 = .ok (.bipush 8, 2) := by decide +kernel
theorem dX9_e_13 : decode cX9_e 13 = .ok (.iconst 0, 1) := by decide +kernel
theorem dX9_e_14 : decode cX9_e 14 = .ok (.invokevirtual 294, 3) := by decide +kernel
theorem dX9_e_17 : decode cX9_e 17 = .ok (.iconst 1, 1) := by decide +kernel
theorem dX9_e_18 : decode cX9_e 18 = .ok (.istore_n 1, 1) := by decide +kernel
theorem dX9_e_19 : decode cX9_e 19 = .ok (.aload_n 0, 1) := by decide +kernel
theorem dX9_e_20 : decode cX9_e 20 = .ok (.invokevirtual 51, 3) := by decide +kernel
theorem dX9_e_23 : decode cX9_e 23 = .ok (.ifCond .eq 29, 3) := by decide +kernel
theorem dX9_e_26 : decode cX9_e 26 = .ok (.aload_n 0, 1) := by decide +kernel
theorem dX9_e_27 : decode cX9_e 27 = .ok (.getfield 288, 3) := by decide +kernel
theorem dX9_e_30 : decode cX9_e 30 = .ok (.ifCond .le 22, 3) := by decide +kernel
theorem dX9_e_33 : decode cX9_e 33 = .ok (.iload_n 1, 1) := by decide +kernel
theorem dX9_e_34 : decode cX9_e 34 = .ok (.ifCond .eq 10, 3) := by decide +kernel
theorem dX9_e_37 : decode cX9_e 37 = .ok (.aload_n 0, 1) := by decide +kernel
theorem dX9_e_38 : decode cX9_e 38 = .ok (.invokevirtual 297, 3) := by decide +kernel
theorem dX9_e_41 : decode cX9_e 41 = .ok (.goto 7, 3) := by decide +kernel
theorem dX9_e_44 : decode cX9_e 44 = .ok (.aload_n 0, 1) := by decide +kernel
theorem dX9_e_45 : decode cX9_e 45 = .ok (.invokevirtual 300, 3) := by decide +kernel
theorem dX9_e_48 : decode cX9_e 48 = .ok (.istore_n 1, 1) := by decide +kernel
theorem dX9_e_49 : decode cX9_e 49 = .ok (.goto (-30), 3) := by decide +kernel
theorem dX9_e_52 : decode cX9_e 52 = .ok (.return_, 1) := by decide +kernel
theorem dX9_readWhen_0 : decode cX9_readWhen 0 = .ok (.aload_n 0, 1) := by decide +kernel
theorem dX9_readWhen_1 : decode cX9_readWhen 1 = .ok (.aload_n 0, 1) := by decide +kernel
theorem dX9_readWhen_2 : decode cX9_readWhen 2 = .ok (.ldc2_w 277, 3) := by decide +kernel
theorem dX9_readWhen_5 : decode cX9_readWhen 5 = .ok (.invokevirtual 223, 3) := by decide +kernel
theorem dX9_readWhen_8 : decode cX9_readWhen 8 = .ok (.invokevirtual 269, 3) := by decide +kernel
theorem dX9_readWhen_11 : decode cX9_readWhen 11 = .ok (.aload_n 0, 1) := by decide +kernel
theorem dX9_readWhen_12 : decode cX9_readWhen 12 = .ok (.getfield 96, 3) := by decide +kernel
theorem dX9_readWhen_15 : decode cX9_readWhen 15 = .ok (.bipush 44, 2) := by decide +kernel
theorem dX9_readWhen_17 : decode cX9_readWhen 17 = .ok (.iload_n 1, 1) := by decide +kernel
theorem dX9_readWhen_18 : decode cX9_readWhen 18 = .ok (.iadd, 1) := by decide +kernel
theorem dX9_readWhen_19 : decode cX9_readWhen 19 = .ok (.aload_n 0, 1) := by decide +kernel
theorem dX9_readWhen_20 : decode cX9_readWhen 20 = .ok (.getfield 209, 3) := by decide +kernel
theorem dX9_readWhen_23 : decode cX9_readWhen 23 = .ok (.iastore, 1) := by decide +kernel
theorem dX9_readWhen_24 : decode cX9_readWhen 24 = .ok (.aload_n 0, 1) := by decide +kernel
theorem dX9_readWhen_25 : decode cX9_readWhen 25 = .ok (.invokevirtual 51, 3) := by decide +kernel
theorem dX9_readWhen_28 : decode cX9_readWhen 28 = .ok (.ifCond .eq 7, 3) := by decide +kernel
theorem dX9_readWhen_31 : decode cX9_readWhen 31 = .ok (.aload_n 0, 1) := by decide +kernel
theorem dX9_readWhen_32 : decode cX9_readWhen 32 = .ok (.invokevirtual 279, 3) := by decide +kernel
theorem dX9_readWhen_35 : decode cX9_readWhen 35 = .ok (.aload_n 0, 1) := by decide +kernel
theorem dX9_readWhen_36 : decode cX9_readWhen 36 = .ok (.getfield 99, 3) := by decide +kernel
theorem dX9_readWhen_39 : decode cX9_readWhen 39 = .ok (.bipush 44, 2) := by decide +kernel
theorem dX9_readWhen_41 : decode cX9_readWhen 41 = .ok (.iload_n 1, 1) := by decide +kernel
theorem dX9_readWhen_42 : decode cX9_readWhen 42 = .ok (.iadd, 1) := by decide +kernel
theorem dX9_readWhen_43 : decode cX9_readWhen 43 = .ok (.aload_n 0, 1) := by decide +kernel
theorem dX9_readWhen_44 : decode cX9_readWhen 44 = .ok (.getfield 209, 3) := by decide +kernel
theorem dX9_readWhen_47 : decode cX9_readWhen 47 = .ok (.iastore, 1) := by decide +kernel
theorem dX9_readWhen_48 : decode cX9_readWhen 48 = .ok (.return_, 1) := by decide +kernel
theorem dX9_readCounts_0 : decode cX9_readCounts 0 = .ok (.aload_n 0, 1) := by decide +kernel
theorem dX9_readCounts_1 : decode cX9_readCounts 1 = .ok (.getfield 76, 3) := by decide +kernel
theorem dX9_readCounts_4 : decode cX9_readCounts 4 = .ok (.iconst 4, 1) := by decide +kernel
theorem dX9_readCounts_5 : decode cX9_readCounts 5 = .ok (.iaload, 1) := by decide +kernel
theorem dX9_readCounts_6 : decode cX9_readCounts 6 = .ok (.istore_n 1, 1) := by decide +kernel
theorem dX9_readCounts_7 : decode cX9_readCounts 7 = .ok (.aload_n 0, 1) := by decide +kernel
theorem dX9_readCounts_8 : decode cX9_readCounts 8 = .ok (.invokevirtual 282, 3) := by decide +kernel
theorem dX9_readCounts_11 : decode cX9_readCounts 11 = .ok (.istore_n 2, 1) := by decide +kernel
theorem dX9_readCounts_12 : decode cX9_readCounts 12 = .ok (.aload_n 0, 1) := by decide +kernel
theorem dX9_readCounts_13 : decode cX9_readCounts 13 = .ok (.iload_n 2, 1) := by decide +kernel
theorem dX9_readCounts_14 : decode cX9_readCounts 14 = .ok (.ifCond .lt 7, 3) := by decide +kernel
theorem dX9_readCounts_17 : decode cX9_readCounts 17 = .ok (.iconst 1, 1) := by decide +kernel
theorem dX9_readCounts_18 : decode cX9_readCounts 18 = .ok (.goto 4, 3) := by decide +kernel
theorem dX9_readCounts_21 : decode cX9_readCounts 21 = .ok (.iconst 0, 1) := by decide +kernel
theorem dX9_readCounts_22 : decode cX9_readCounts 22 = .ok (.invokevirtual 269, 3) := by decide +kernel
theorem dX9_readCounts_25 : decode cX9_readCounts 25 = .ok (.aload_n 0, 1) := by decide +kernel
theorem dX9_readCounts_26 : decode cX9_readCounts 26 = .ok (.getfield 90, 3) := by decide +kernel
theorem dX9_readCounts_29 : decode cX9_readCounts 29 = .ok (.bipush 44, 2) := by decide +kernel
theorem dX9_readCounts_31 : decode cX9_readCounts 31 = .ok (.iload_n 1, 1) := by decide +kernel
theorem dX9_readCounts_32 : decode cX9_readCounts 32 = .ok (.iadd, 1) := by decide +kernel
theorem dX9_readCounts_33 : decode cX9_readCounts 33 = .ok (.iload_n 2, 1) := by decide +kernel
theorem dX9_readCounts_34 : decode cX9_readCounts 34 = .ok (.iastore, 1) := by decide +kernel
theorem dX9_readCounts_35 : decode cX9_readCounts 35 = .ok (.aload_n 0, 1) := by decide +kernel
theorem dX9_readCounts_36 : decode cX9_readCounts 36 = .ok (.getfield 93, 3) := by decide +kernel
theorem dX9_readCounts_39 : decode cX9_readCounts 39 = .ok (.bipush 44, 2) := by decide +kernel
theorem dX9_readCounts_41 : decode cX9_readCounts 41 = .ok (.iload_n 1, 1) := by decide +kernel
theorem dX9_readCounts_42 : decode cX9_readCounts 42 = .ok (.iadd, 1) := by decide +kernel
theorem dX9_readCounts_43 : decode cX9_readCounts 43 = .ok (.aload_n 0, 1) := by decide +kernel
theorem dX9_readCounts_44 : decode cX9_readCounts 44 = .ok (.iconst 0, 1) := by decide +kernel
theorem dX9_readCounts_45 : decode cX9_readCounts 45 = .ok (.bipush 100, 2) := by decide +kernel
theorem dX9_readCounts_47 : decode cX9_readCounts 47 = .ok (.invokevirtual 273, 3) := by decide +kernel
theorem dX9_readCounts_50 : decode cX9_readCounts 50 = .ok (.iastore, 1) := by decide +kernel
theorem dX9_readCounts_51 : decode cX9_readCounts 51 = .ok (.aload_n 0, 1) := by decide +kernel
theorem dX9_readCounts_52 : decode cX9_readCounts 52 = .ok (.iload_n 1, 1) := by decide +kernel
theorem dX9_readCounts_53 : decode cX9_readCounts 53 = .ok (.invokevirtual 285, 3) := by decide +kernel
theorem dX9_readCounts_56 : decode cX9_readCounts 56 = .ok (.aload_n 0, 1) := by decide +kernel
theorem dX9_readCounts_57 : decode cX9_readCounts 57 = .ok (.invokevirtual 51, 3) := by decide +kernel
theorem dX9_readCounts_60 : decode cX9_readCounts 60 = .ok (.ifCond .eq 13, 3) := by decide +kernel
theorem dX9_readCounts_63 : decode cX9_readCounts 63 = .ok (.aload_n 0, 1) := by decide +kernel
theorem dX9_readCounts_64 : decode cX9_readCounts 64 = .ok (.getfield 76, 3) := by decide +kernel
theorem dX9_readCounts_67 : decode cX9_readCounts 67 = .ok (.iconst 4, 1) := by decide +kernel
theorem dX9_readCounts_68 : decode cX9_readCounts 68 = .ok (.dup2, 1) := by decide +kernel
theorem dX9_readCounts_69 : decode cX9_readCounts 69 = .ok (.iaload, 1) := by decide +kernel
theorem dX9_readCounts_70 : decode cX9_readCounts 70 = .ok (.iconst 1, 1) := by decide +kernel
theorem dX9_readCounts_71 : decode cX9_readCounts 71 = .ok (.iadd, 1) := by decide +kernel
theorem dX9_readCounts_72 : decode cX9_readCounts 72 = .ok (.iastore, 1) := by decide +kernel
theorem dX9_readCounts_73 : decode cX9_readCounts 73 = .ok (.return_, 1) := by decide +kernel
theorem dX9_readEmpty_0 : decode cX9_readEmpty 0 = .ok (.aload_n 0, 1) := by decide +kernel
theorem dX9_readEmpty_1 : decode cX9_readEmpty 1 = .ok (.bipush 10, 2) := by decide +kernel
theorem dX9_readEmpty_3 : decode cX9_readEmpty 3 = .ok (.invokevirtual 285, 3) := by decide +kernel
theorem dX9_readEmpty_6 : decode cX9_readEmpty 6 = .ok (.aload_n 0, 1) := by decide +kernel
theorem dX9_readEmpty_7 : decode cX9_readEmpty 7 = .ok (.getfield 79, 3) := by decide +kernel
theorem dX9_readEmpty_10 : decode cX9_readEmpty 10 = .ok (.iconst 4, 1) := by decide +kernel
theorem dX9_readEmpty_11 : decode cX9_readEmpty 11 = .ok (.iconst 1, 1) := by decide +kernel
theorem dX9_readEmpty_12 : decode cX9_readEmpty 12 = .ok (.bastore, 1) := by decide +kernel
theorem dX9_readEmpty_13 : decode cX9_readEmpty 13 = .ok (.return_, 1) := by decide +kernel
theorem dX9_readNumber_0 : decode cX9_readNumber 0 = .ok (.iload_n 1, 1) := by decide +kernel
theorem dX9_readNumber_1 : decode cX9_readNumber 1 = .ok (.iconst 4, 1) := by decide +kernel
theorem dX9_readNumber_2 : decode cX9_readNumber 2 = .ok (.if_icmp .ge 7, 3) := by decide +kernel
theorem dX9_readNumber_5 : decode cX9_readNumber 5 = .ok (.iconst 1, 1) := by decide +kernel
theorem dX9_readNumber_6 : decode cX9_readNumber 6 = .ok (.goto 4, 3) := by decide +kernel
theorem dX9_readNumber_9 : decode cX9_readNumber 9 = .ok (.iconst 0, 1) := by decide +kernel
theorem dX9_readNumber_10 : decode cX9_readNumber 10 = .ok (.istore_n 2, 1) := by decide +kernel
theorem dX9_readNumber_11 : decode cX9_readNumber 11 = .ok (.iload_n 1, 1) := by decide +kernel
theorem dX9_readNumber_12 : decode cX9_readNumber 12 = .ok (.ifCond .ne 8, 3) := by decide +kernel
theorem dX9_readNumber_15 : decode cX9_readNumber 15 = .ok (.bipush 52, 2) := by decide +kernel
theorem dX9_readNumber_17 : decode cX9_readNumber 17 = .ok (.goto 37, 3) := by decide +kernel
theorem dX9_readNumber_20 : decode cX9_readNumber 20 = .ok (.iload_n 1, 1) := by decide +kernel
theorem dX9_readNumber_21 : decode cX9_readNumber 21 = .ok (.iconst 1, 1) := by decide +kernel
theorem dX9_readNumber_22 : decode cX9_readNumber 22 = .ok (.if_icmp .ne 8, 3) := by decide +kernel
theorem dX9_readNumber_25 : decode cX9_readNumber 25 = .ok (.bipush 104, 2) := by decide +kernel
theorem dX9_readNumber_27 : decode cX9_readNumber 27 = .ok (.goto 27, 3) := by decide +kernel
theorem dX9_readNumber_30 : decode cX9_readNumber 30 = .ok (.iload_n 1, 1) := by decide +kernel
theorem dX9_readNumber_31 : decode cX9_readNumber 31 = .ok (.iconst 2, 1) := by decide +kernel
theorem dX9_readNumber_32 : decode cX9_readNumber 32 = .ok (.if_icmp .ne 8, 3) := by decide +kernel
theorem dX9_readNumber_35 : decode cX9_readNumber 35 = .ok (.bipush 7, 2) := by decide +kernel
theorem dX9_readNumber_37 : decode cX9_readNumber 37 = .ok (.goto 17, 3) := by decide +kernel
theorem dX9_readNumber_40 : decode cX9_readNumber 40 = .ok (.iload_n 1, 1) := by decide +kernel
theorem dX9_readNumber_41 : decode cX9_readNumber 41 = .ok (.iconst 5, 1) := by decide +kernel
theorem dX9_readNumber_42 : decode cX9_readNumber 42 = .ok (.if_icmp .ne 9, 3) := by decide +kernel
theorem dX9_readNumber_45 : decode cX9_readNumber 45 = .ok (.sipush 9999, 3) := by decide +kernel
theorem dX9_readNumber_48 : decode cX9_readNumber 48 = .ok (.goto 6, 3) := by decide +kernel
theorem dX9_readNumber_51 : decode cX9_readNumber 51 = .ok (.sipush 999, 3) := by decide +kernel
theorem dX9_readNumber_54 : decode cX9_readNumber 54 = .ok (.istore_n 3, 1) := by decide +kernel
theorem dX9_readNumber_55 : decode cX9_readNumber 55 = .ok (.aload_n 0, 1) := by decide +kernel
theorem dX9_readNumber_56 : decode cX9_readNumber 56 = .ok (.getfield 62, 3) := by decide +kernel
theorem dX9_readNumber_59 : decode cX9_readNumber 59 = .ok (.bipush 28, 2) := by decide +kernel
theorem dX9_readNumber_61 : decode cX9_readNumber 61 = .ok (.iload_n 1, 1) := by decide +kernel
theorem dX9_readNumber_62 : decode cX9_readNumber 62 = .ok (.iadd, 1) := by decide +kernel
theorem dX9_readNumber_63 : decode cX9_readNumber 63 = .ok (.aload_n 0, 1) := by decide +kernel
theorem dX9_readNumber_64 : decode cX9_readNumber 64 = .ok (.iload_n 2, 1) := by decide +kernel
theorem dX9_readNumber_65 : decode cX9_readNumber 65 = .ok (.iload_n 3, 1) := by decide +kernel
theorem dX9_readNumber_66 : decode cX9_readNumber 66 = .ok (.invokevirtual 273, 3) := by decide +kernel
theorem dX9_readNumber_69 : decode cX9_readNumber 69 = .ok (.iastore, 1) := by decide +kernel
theorem dX9_readNumber_70 : decode cX9_readNumber 70 = .ok (.aload_n 0, 1) := by decide +kernel
theorem dX9_readNumber_71 : decode cX9_readNumber 71 = .ok (.getfield 69, 3) := by decide +kernel
theorem dX9_readNumber_74 : decode cX9_readNumber 74 = .ok (.bipush 28, 2) := by decide +kernel
theorem dX9_readNumber_76 : decode cX9_readNumber 76 = .ok (.iload_n 1, 1) := by decide +kernel
theorem dX9_readNumber_77 : decode cX9_readNumber 77 = .ok (.iadd, 1) := by decide +kernel
theorem dX9_readNumber_78 : decode cX9_readNumber 78 = .ok (.iconst 1, 1) := by decide +kernel
theorem dX9_readNumber_79 : decode cX9_readNumber 79 = .ok (.bastore, 1) := by decide +kernel
theorem dX9_readNumber_80 : decode cX9_readNumber 80 = .ok (.return_, 1) := by decide +kernel
theorem dX9_readLine_0 : decode cX9_readLine 0 = .ok (.aload_n 0, 1) := by decide +kernel
theorem dX9_readLine_1 : decode cX9_readLine 1 = .ok (.ldc2_w 249, 3) := by decide +kernel
theorem dX9_readLine_4 : decode cX9_readLine 4 = .ok (.invokevirtual 223, 3) := by decide +kernel
theorem dX9_readLine_7 : decode cX9_readLine 7 = .ok (.istore_n 1, 1) := by decide +kernel
theorem dX9_readLine_8 : decode cX9_readLine 8 = .ok (.aload_n 0, 1) := by decide +kernel
theorem dX9_readLine_9 : decode cX9_readLine 9 = .ok (.ldc2_w 251, 3) := by decide +kernel
theorem dX9_readLine_12 : decode cX9_readLine 12 = .ok (.invokevirtual 223, 3) := by decide +kernel
theorem dX9_readLine_15 : decode cX9_readLine 15 = .ok (.istore_n 2, 1) := by decide +kernel
theorem dX9_readLine_16 : decode cX9_readLine 16 = .ok (.aload_n 0, 1) := by decide +kernel
theorem dX9_readLine_17 : decode cX9_readLine 17 = .ok (.invokevirtual 253, 3) := by decide +kernel
theorem dX9_readLine_20 : decode cX9_readLine 20 = .ok (.istore_n 3, 1) := by decide +kernel
theorem dX9_readLine_21 : decode cX9_readLine 21 = .ok (.iload_n 1, 1) := by decide +kernel
theorem dX9_readLine_22 : decode cX9_readLine 22 = .ok (.ifCond .eq 22, 3) := by decide +kernel
theorem dX9_readLine_25 : decode cX9_readLine 25 = .ok (.aload_n 0, 1) := by decide +kernel
theorem dX9_readLine_26 : decode cX9_readLine 26 = .ok (.getfield 76, 3) := by decide +kernel
theorem dX9_readLine_29 : decode cX9_readLine 29 = .ok (.iconst 4, 1) := by decide +kernel
theorem dX9_readLine_30 : decode cX9_readLine 30 = .ok (.iaload, 1) := by decide +kernel
theorem dX9_readLine_31 : decode cX9_readLine 31 = .ok (.bipush 10, 2) := by decide +kernel
theorem dX9_readLine_33 : decode cX9_readLine 33 = .ok (.if_icmp .ne 7, 3) := by decide +kernel
theorem dX9_readLine_36 : decode cX9_readLine 36 = .ok (.iconst 1, 1) := by decide +kernel
theorem dX9_readLine_37 : decode cX9_readLine 37 = .ok (.goto 41, 3) := by decide +kernel
theorem dX9_readLine_40 : decode cX9_readLine 40 = .ok (.iconst 0, 1) := by decide +kernel
theorem dX9_readLine_41 : decode cX9_readLine 41 = .ok (.goto 37, 3) := by decide +kernel
theorem dX9_readLine_44 : decode cX9_readLine 44 = .ok (.iload_n 2, 1) := by decide +kernel
theorem dX9_readLine_45 : decode cX9_readLine 45 = .ok (.ifCond .eq 12, 3) := by decide +kernel
theorem dX9_readLine_48 : decode cX9_readLine 48 = .ok (.aload_n 0, 1) := by decide +kernel
theorem dX9_readLine_49 : decode cX9_readLine 49 = .ok (.getfield 79, 3) := by decide +kernel
theorem dX9_readLine_52 : decode cX9_readLine 52 = .ok (.iconst 4, 1) := by decide +kernel
theorem dX9_readLine_53 : decode cX9_readLine 53 = .ok (.baload, 1) := by decide +kernel
theorem dX9_readLine_54 : decode cX9_readLine 54 = .ok (.goto 24, 3) := by decide +kernel
theorem dX9_readLine_57 : decode cX9_readLine 57 = .ok (.iload_n 3, 1) := by decide +kernel
theorem dX9_readLine_58 : decode cX9_readLine 58 = .ok (.ifCond .lt 15, 3) := by decide +kernel
theorem dX9_readLine_61 : decode cX9_readLine 61 = .ok (.aload_n 0, 1) := by decide +kernel
theorem dX9_readLine_62 : decode cX9_readLine 62 = .ok (.getfield 69, 3) := by decide +kernel
theorem dX9_readLine_65 : decode cX9_readLine 65 = .ok (.bipush 28, 2) := by decide +kernel
theorem dX9_readLine_67 : decode cX9_readLine 67 = .ok (.iload_n 3, 1) := by decide +kernel
theorem dX9_readLine_68 : decode cX9_readLine 68 = .ok (.iadd, 1) := by decide +kernel
theorem dX9_readLine_69 : decode cX9_readLine 69 = .ok (.baload, 1) := by decide +kernel
theorem dX9_readLine_70 : decode cX9_readLine 70 = .ok (.ifCond .eq 7, 3) := by decide +kernel
theorem dX9_readLine_73 : decode cX9_readLine 73 = .ok (.iconst 1, 1) := by decide +kernel
theorem dX9_readLine_74 : decode cX9_readLine 74 = .ok (.goto 4, 3) := by decide +kernel
theorem dX9_readLine_77 : decode cX9_readLine 77 = .ok (.iconst 0, 1) := by decide +kernel
theorem dX9_readLine_78 : decode cX9_readLine 78 = .ok (.istore 4, 2) := by decide +kernel
theorem dX9_readLine_80 : decode cX9_readLine 80 = .ok (.iload 4, 2) := by decide +kernel
theorem dX9_readLine_82 : decode cX9_readLine 82 = .ok (.ifCond .eq 7, 3) := by decide +kernel
theorem dX9_readLine_85 : decode cX9_readLine 85 = .ok (.aload_n 0, 1) := by decide +kernel
theorem dX9_readLine_86 : decode cX9_readLine 86 = .ok (.invokevirtual 59, 3) := by decide +kernel
theorem dX9_readLine_89 : decode cX9_readLine 89 = .ok (.aload_n 0, 1) := by decide +kernel
theorem dX9_readLine_90 : decode cX9_readLine 90 = .ok (.invokevirtual 51, 3) := by decide +kernel
theorem dX9_readLine_93 : decode cX9_readLine 93 = .ok (.ifCond .ne 4, 3) := by decide +kernel
theorem dX9_readLine_96 : decode cX9_readLine 96 = .ok (.return_, 1) := by decide +kernel
theorem dX9_readLine_97 : decode cX9_readLine 97 = .ok (.aload_n 0, 1) := by decide +kernel
theorem dX9_readLine_98 : decode cX9_readLine 98 = .ok (.invokevirtual 55, 3) := by decide +kernel
theorem dX9_readLine_101 : decode cX9_readLine 101 = .ok (.iload_n 1, 1) := by decide +kernel
theorem dX9_readLine_102 : decode cX9_readLine 102 = .ok (.ifCond .eq 10, 3) := by decide +kernel
theorem dX9_readLine_105 : decode cX9_readLine 105 = .ok (.aload_n 0, 1) := by decide +kernel
theorem dX9_readLine_106 : decode cX9_readLine 106 = .ok (.invokevirtual 257, 3) := by decide +kernel
theorem dX9_readLine_109 : decode cX9_readLine 109 = .ok (.goto 19, 3) := by decide +kernel
theorem dX9_readLine_112 : decode cX9_readLine 112 = .ok (.iload_n 2, 1) := by decide +kernel
theorem dX9_readLine_113 : decode cX9_readLine 113 = .ok (.ifCond .eq 10, 3) := by decide +kernel
theorem dX9_readLine_116 : decode cX9_readLine 116 = .ok (.aload_n 0, 1) := by decide +kernel
theorem dX9_readLine_117 : decode cX9_readLine 117 = .ok (.invokevirtual 260, 3) := by decide +kernel
theorem dX9_readLine_120 : decode cX9_readLine 120 = .ok (.goto 8, 3) := by decide +kernel
theorem dX9_readLine_123 : decode cX9_readLine 123 = .ok (.aload_n 0, 1) := by decide +kernel
theorem dX9_readLine_124 : decode cX9_readLine 124 = .ok (.iload_n 3, 1) := by decide +kernel
theorem dX9_readLine_125 : decode cX9_readLine 125 = .ok (.invokevirtual 263, 3) := by decide +kernel
theorem dX9_readLine_128 : decode cX9_readLine 128 = .ok (.aload_n 0, 1) := by decide +kernel
theorem dX9_readLine_129 : decode cX9_readLine 129 = .ok (.aload_n 0, 1) := by decide +kernel
theorem dX9_readLine_130 : decode cX9_readLine 130 = .ok (.bipush 59, 2) := by decide +kernel
theorem dX9_readLine_132 : decode cX9_readLine 132 = .ok (.invokevirtual 266, 3) := by decide +kernel
theorem dX9_readLine_135 : decode cX9_readLine 135 = .ok (.invokevirtual 269, 3) := by decide +kernel
theorem dX9_readLine_138 : decode cX9_readLine 138 = .ok (.aload_n 0, 1) := by decide +kernel
theorem dX9_readLine_139 : decode cX9_readLine 139 = .ok (.getfield 73, 3) := by decide +kernel
theorem dX9_readLine_142 : decode cX9_readLine 142 = .ok (.iconst 4, 1) := by decide +kernel
theorem dX9_readLine_143 : decode cX9_readLine 143 = .ok (.dup2, 1) := by decide +kernel
theorem dX9_readLine_144 : decode cX9_readLine 144 = .ok (.iaload, 1) := by decide +kernel
theorem dX9_readLine_145 : decode cX9_readLine 145 = .ok (.iconst 1, 1) := by decide +kernel
theorem dX9_readLine_146 : decode cX9_readLine 146 = .ok (.iadd, 1) := by decide +kernel
theorem dX9_readLine_147 : decode cX9_readLine 147 = .ok (.iastore, 1) := by decide +kernel
theorem dX9_readLine_148 : decode cX9_readLine 148 = .ok (.return_, 1) := by decide +kernel
theorem dX9_lay_0 : decode cX9_lay 0 = .ok (.iconst 0, 1) := by decide +kernel
theorem dX9_lay_1 : decode cX9_lay 1 = .ok (.istore_n 2, 1) := by decide +kernel
theorem dX9_lay_2 : decode cX9_lay 2 = .ok (.iload_n 2, 1) := by decide +kernel
theorem dX9_lay_3 : decode cX9_lay 3 = .ok (.bipush 7, 2) := by decide +kernel
theorem dX9_lay_5 : decode cX9_lay 5 = .ok (.if_icmp .ge 29, 3) := by decide +kernel
theorem dX9_lay_8 : decode cX9_lay 8 = .ok (.aload_n 0, 1) := by decide +kernel
theorem dX9_lay_9 : decode cX9_lay 9 = .ok (.getfield 62, 3) := by decide +kernel
theorem dX9_lay_12 : decode cX9_lay 12 = .ok (.bipush 7, 2) := by decide +kernel
theorem dX9_lay_14 : decode cX9_lay 14 = .ok (.iload_n 1, 1) := by decide +kernel
theorem dX9_lay_15 : decode cX9_lay 15 = .ok (.imul, 1) := by decide +kernel
theorem dX9_lay_16 : decode cX9_lay 16 = .ok (.iload_n 2, 1) := by decide +kernel
theorem dX9_lay_17 : decode cX9_lay 17 = .ok (.iadd, 1) := by decide +kernel
theorem dX9_lay_18 : decode cX9_lay 18 = .ok (.aload_n 0, 1) := by decide +kernel
theorem dX9_lay_19 : decode cX9_lay 19 = .ok (.getfield 62, 3) := by decide +kernel
theorem dX9_lay_22 : decode cX9_lay 22 = .ok (.bipush 28, 2) := by decide +kernel
theorem dX9_lay_24 : decode cX9_lay 24 = .ok (.iload_n 2, 1) := by decide +kernel
theorem dX9_lay_25 : decode cX9_lay 25 = .ok (.iadd, 1) := by decide +kernel
theorem dX9_lay_26 : decode cX9_lay 26 = .ok (.iaload, 1) := by decide +kernel
theorem dX9_lay_27 : decode cX9_lay 27 = .ok (.iastore, 1) := by decide +kernel
theorem dX9_lay_28 : decode cX9_lay 28 = .ok (.iinc 2 1, 3) := by decide +kernel
theorem dX9_lay_31 : decode cX9_lay 31 = .ok (.goto (-29), 3) := by decide +kernel
theorem dX9_lay_34 : decode cX9_lay 34 = .ok (.aload_n 0, 1) := by decide +kernel
theorem dX9_lay_35 : decode cX9_lay 35 = .ok (.getfield 73, 3) := by decide +kernel
theorem dX9_lay_38 : decode cX9_lay 38 = .ok (.iload_n 1, 1) := by decide +kernel
theorem dX9_lay_39 : decode cX9_lay 39 = .ok (.aload_n 0, 1) := by decide +kernel
theorem dX9_lay_40 : decode cX9_lay 40 = .ok (.getfield 73, 3) := by decide +kernel
theorem dX9_lay_43 : decode cX9_lay 43 = .ok (.iconst 4, 1) := by decide +kernel
theorem dX9_lay_44 : decode cX9_lay 44 = .ok (.iaload, 1) := by decide +kernel
theorem dX9_lay_45 : decode cX9_lay 45 = .ok (.iastore, 1) := by decide +kernel
theorem dX9_lay_46 : decode cX9_lay 46 = .ok (.aload_n 0, 1) := by decide +kernel
theorem dX9_lay_47 : decode cX9_lay 47 = .ok (.getfield 76, 3) := by decide +kernel
theorem dX9_lay_50 : decode cX9_lay 50 = .ok (.iload_n 1, 1) := by decide +kernel
theorem dX9_lay_51 : decode cX9_lay 51 = .ok (.aload_n 0, 1) := by decide +kernel
theorem dX9_lay_52 : decode cX9_lay 52 = .ok (.getfield 76, 3) := by decide +kernel
theorem dX9_lay_55 : decode cX9_lay 55 = .ok (.iconst 4, 1) := by decide +kernel
theorem dX9_lay_56 : decode cX9_lay 56 = .ok (.iaload, 1) := by decide +kernel
theorem dX9_lay_57 : decode cX9_lay 57 = .ok (.iastore, 1) := by decide +kernel
theorem dX9_lay_58 : decode cX9_lay 58 = .ok (.aload_n 0, 1) := by decide +kernel
theorem dX9_lay_59 : decode cX9_lay 59 = .ok (.getfield 79, 3) := by decide +kernel
theorem dX9_lay_62 : decode cX9_lay 62 = .ok (.iload_n 1, 1) := by decide +kernel
theorem dX9_lay_63 : decode cX9_lay 63 = .ok (.aload_n 0, 1) := by decide +kernel
theorem dX9_lay_64 : decode cX9_lay 64 = .ok (.getfield 79, 3) := by decide +kernel
theorem dX9_lay_67 : decode cX9_lay 67 = .ok (.iconst 4, 1) := by decide +kernel
theorem dX9_lay_68 : decode cX9_lay 68 = .ok (.baload, 1) := by decide +kernel
theorem dX9_lay_69 : decode cX9_lay 69 = .ok (.bastore, 1) := by decide +kernel
theorem dX9_lay_70 : decode cX9_lay 70 = .ok (.iconst 0, 1) := by decide +kernel
theorem dX9_lay_71 : decode cX9_lay 71 = .ok (.istore_n 2, 1) := by decide +kernel
theorem dX9_lay_72 : decode cX9_lay 72 = .ok (.iload_n 2, 1) := by decide +kernel
theorem dX9_lay_73 : decode cX9_lay 73 = .ok (.bipush 11, 2) := by decide +kernel
theorem dX9_lay_75 : decode cX9_lay 75 = .ok (.if_icmp .ge 89, 3) := by decide +kernel
theorem dX9_lay_78 : decode cX9_lay 78 = .ok (.aload_n 0, 1) := by decide +kernel
theorem dX9_lay_79 : decode cX9_lay 79 = .ok (.getfield 90, 3) := by decide +kernel
theorem dX9_lay_82 : decode cX9_lay 82 = .ok (.bipush 11, 2) := by decide +kernel
theorem dX9_lay_84 : decode cX9_lay 84 = .ok (.iload_n 1, 1) := by decide +kernel
theorem dX9_lay_85 : decode cX9_lay 85 = .ok (.imul, 1) := by decide +kernel
theorem dX9_lay_86 : decode cX9_lay 86 = .ok (.iload_n 2, 1) := by decide +kernel
theorem dX9_lay_87 : decode cX9_lay 87 = .ok (.iadd, 1) := by decide +kernel
theorem dX9_lay_88 : decode cX9_lay 88 = .ok (.aload_n 0, 1) := by decide +kernel
theorem dX9_lay_89 : decode cX9_lay 89 = .ok (.getfield 90, 3) := by decide +kernel
theorem dX9_lay_92 : decode cX9_lay 92 = .ok (.bipush 44, 2) := by decide +kernel
theorem dX9_lay_94 : decode cX9_lay 94 = .ok (.iload_n 2, 1) := by decide +kernel
theorem dX9_lay_95 : decode cX9_lay 95 = .ok (.iadd, 1) := by decide +kernel
theorem dX9_lay_96 : decode cX9_lay 96 = .ok (.iaload, 1) := by decide +kernel
theorem dX9_lay_97 : decode cX9_lay 97 = .ok (.iastore, 1) := by decide +kernel
theorem dX9_lay_98 : decode cX9_lay 98 = .ok (.aload_n 0, 1) := by decide +kernel
theorem dX9_lay_99 : decode cX9_lay 99 = .ok (.getfield 93, 3) := by decide +kernel
theorem dX9_lay_102 : decode cX9_lay 102 = .ok (.bipush 11, 2) := by decide +kernel
theorem dX9_lay_104 : decode cX9_lay 104 = .ok (.iload_n 1, 1) := by decide +kernel
theorem dX9_lay_105 : decode cX9_lay 105 = .ok (.imul, 1) := by decide +kernel
theorem dX9_lay_106 : decode cX9_lay 106 = .ok (.iload_n 2, 1) := by decide +kernel
theorem dX9_lay_107 : decode cX9_lay 107 = .ok (.iadd, 1) := by decide +kernel
theorem dX9_lay_108 : decode cX9_lay 108 = .ok (.aload_n 0, 1) := by decide +kernel
theorem dX9_lay_109 : decode cX9_lay 109 = .ok (.getfield 93, 3) := by decide +kernel
theorem dX9_lay_112 : decode cX9_lay 112 = .ok (.bipush 44, 2) := by decide +kernel
theorem dX9_lay_114 : decode cX9_lay 114 = .ok (.iload_n 2, 1) := by decide +kernel
theorem dX9_lay_115 : decode cX9_lay 115 = .ok (.iadd, 1) := by decide +kernel
theorem dX9_lay_116 : decode cX9_lay 116 = .ok (.iaload, 1) := by decide +kernel
theorem dX9_lay_117 : decode cX9_lay 117 = .ok (.iastore, 1) := by decide +kernel
theorem dX9_lay_118 : decode cX9_lay 118 = .ok (.aload_n 0, 1) := by decide +kernel
theorem dX9_lay_119 : decode cX9_lay 119 = .ok (.getfield 96, 3) := by decide +kernel
theorem dX9_lay_122 : decode cX9_lay 122 = .ok (.bipush 11, 2) := by decide +kernel
theorem dX9_lay_124 : decode cX9_lay 124 = .ok (.iload_n 1, 1) := by decide +kernel
theorem dX9_lay_125 : decode cX9_lay 125 = .ok (.imul, 1) := by decide +kernel
theorem dX9_lay_126 : decode cX9_lay 126 = .ok (.iload_n 2, 1) := by decide +kernel
theorem dX9_lay_127 : decode cX9_lay 127 = .ok (.iadd, 1) := by decide +kernel
theorem dX9_lay_128 : decode cX9_lay 128 = .ok (.aload_n 0, 1) := by decide +kernel
theorem dX9_lay_129 : decode cX9_lay 129 = .ok (.getfield 96, 3) := by decide +kernel
theorem dX9_lay_132 : decode cX9_lay 132 = .ok (.bipush 44, 2) := by decide +kernel
theorem dX9_lay_134 : decode cX9_lay 134 = .ok (.iload_n 2, 1) := by decide +kernel
theorem dX9_lay_135 : decode cX9_lay 135 = .ok (.iadd, 1) := by decide +kernel
theorem dX9_lay_136 : decode cX9_lay 136 = .ok (.iaload, 1) := by decide +kernel
theorem dX9_lay_137 : decode cX9_lay 137 = .ok (.iastore, 1) := by decide +kernel
theorem dX9_lay_138 : decode cX9_lay 138 = .ok (.aload_n 0, 1) := by decide +kernel
theorem dX9_lay_139 : decode cX9_lay 139 = .ok (.getfield 99, 3) := by decide +kernel
theorem dX9_lay_142 : decode cX9_lay 142 = .ok (.bipush 11, 2) := by decide +kernel
theorem dX9_lay_144 : decode cX9_lay 144 = .ok (.iload_n 1, 1) := by decide +kernel
theorem dX9_lay_145 : decode cX9_lay 145 = .ok (.imul, 1) := by decide +kernel
theorem dX9_lay_146 : decode cX9_lay 146 = .ok (.iload_n 2, 1) := by decide +kernel
theorem dX9_lay_147 : decode cX9_lay 147 = .ok (.iadd, 1) := by decide +kernel
theorem dX9_lay_148 : decode cX9_lay 148 = .ok (.aload_n 0, 1) := by decide +kernel
theorem dX9_lay_149 : decode cX9_lay 149 = .ok (.getfield 99, 3) := by decide +kernel
theorem dX9_lay_152 : decode cX9_lay 152 = .ok (.bipush 44, 2) := by decide +kernel
theorem dX9_lay_154 : decode cX9_lay 154 = .ok (.iload_n 2, 1) := by decide +kernel
theorem dX9_lay_155 : decode cX9_lay 155 = .ok (.iadd, 1) := by decide +kernel
theorem dX9_lay_156 : decode cX9_lay 156 = .ok (.iaload, 1) := by decide +kernel
theorem dX9_lay_157 : decode cX9_lay 157 = .ok (.iastore, 1) := by decide +kernel
theorem dX9_lay_158 : decode cX9_lay 158 = .ok (.iinc 2 1, 3) := by decide +kernel
theorem dX9_lay_161 : decode cX9_lay 161 = .ok (.goto (-89), 3) := by decide +kernel
theorem dX9_lay_164 : decode cX9_lay 164 = .ok (.iconst 0, 1) := by decide +kernel
theorem dX9_lay_165 : decode cX9_lay 165 = .ok (.istore_n 2, 1) := by decide +kernel
theorem dX9_lay_166 : decode cX9_lay 166 = .ok (.iload_n 2, 1) := by decide +kernel
theorem dX9_lay_167 : decode cX9_lay 167 = .ok (.aload_n 0, 1) := by decide +kernel
theorem dX9_lay_168 : decode cX9_lay 168 = .ok (.getfield 209, 3) := by decide +kernel
theorem dX9_lay_171 : decode cX9_lay 171 = .ok (.if_icmp .ge 53, 3) := by decide +kernel
theorem dX9_lay_174 : decode cX9_lay 174 = .ok (.aload_n 0, 1) := by decide +kernel
theorem dX9_lay_175 : decode cX9_lay 175 = .ok (.getfield 102, 3) := by decide +kernel
theorem dX9_lay_178 : decode cX9_lay 178 = .ok (.sipush 900, 3) := by decide +kernel
theorem dX9_lay_181 : decode cX9_lay 181 = .ok (.iload_n 1, 1) := by decide +kernel
theorem dX9_lay_182 : decode cX9_lay 182 = .ok (.imul, 1) := by decide +kernel
theorem dX9_lay_183 : decode cX9_lay 183 = .ok (.iload_n 2, 1) := by decide +kernel
theorem dX9_lay_184 : decode cX9_lay 184 = .ok (.iadd, 1) := by decide +kernel
theorem dX9_lay_185 : decode cX9_lay 185 = .ok (.aload_n 0, 1) := by decide +kernel
theorem dX9_lay_186 : decode cX9_lay 186 = .ok (.getfield 102, 3) := by decide +kernel
theorem dX9_lay_189 : decode cX9_lay 189 = .ok (.sipush 3600, 3) := by decide +kernel
theorem dX9_lay_192 : decode cX9_lay 192 = .ok (.iload_n 2, 1) := by decide +kernel
theorem dX9_lay_193 : decode cX9_lay 193 = .ok (.iadd, 1) := by decide +kernel
theorem dX9_lay_194 : decode cX9_lay 194 = .ok (.iaload, 1) := by decide +kernel
theorem dX9_lay_195 : decode cX9_lay 195 = .ok (.iastore, 1) := by decide +kernel
theorem dX9_lay_196 : decode cX9_lay 196 = .ok (.aload_n 0, 1) := by decide +kernel
theorem dX9_lay_197 : decode cX9_lay 197 = .ok (.getfield 105, 3) := by decide +kernel
theorem dX9_lay_200 : decode cX9_lay 200 = .ok (.sipush 900, 3) := by decide +kernel
theorem dX9_lay_203 : decode cX9_lay 203 = .ok (.iload_n 1, 1) := by decide +kernel
theorem dX9_lay_204 : decode cX9_lay 204 = .ok (.imul, 1) := by decide +kernel
theorem dX9_lay_205 : decode cX9_lay 205 = .ok (.iload_n 2, 1) := by decide +kernel
theorem dX9_lay_206 : decode cX9_lay 206 = .ok (.iadd, 1) := by decide +kernel
theorem dX9_lay_207 : decode cX9_lay 207 = .ok (.aload_n 0, 1) := by decide +kernel
theorem dX9_lay_208 : decode cX9_lay 208 = .ok (.getfield 105, 3) := by decide +kernel
theorem dX9_lay_211 : decode cX9_lay 211 = .ok (.sipush 3600, 3) := by decide +kernel
theorem dX9_lay_214 : decode cX9_lay 214 = .ok (.iload_n 2, 1) := by decide +kernel
theorem dX9_lay_215 : decode cX9_lay 215 = .ok (.iadd, 1) := by decide +kernel
theorem dX9_lay_216 : decode cX9_lay 216 = .ok (.iaload, 1) := by decide +kernel
theorem dX9_lay_217 : decode cX9_lay 217 = .ok (.iastore, 1) := by decide +kernel
theorem dX9_lay_218 : decode cX9_lay 218 = .ok (.iinc 2 1, 3) := by decide +kernel
theorem dX9_lay_221 : decode cX9_lay 221 = .ok (.goto (-55), 3) := by decide +kernel
theorem dX9_lay_224 : decode cX9_lay 224 = .ok (.return_, 1) := by decide +kernel
theorem dX9_act_0 : decode cX9_act 0 = .ok (.iload_n 1, 1) := by decide +kernel
theorem dX9_act_1 : decode cX9_act 1 = .ok (.invokestatic 200, 3) := by decide +kernel
theorem dX9_act_4 : decode cX9_act 4 = .ok (.ifCond .ne 6, 3) := by decide +kernel
theorem dX9_act_7 : decode cX9_act 7 = .ok (.bipush (-2), 2) := by decide +kernel
theorem dX9_act_9 : decode cX9_act 9 = .ok (.ireturn, 1) := by decide +kernel
theorem dX9_act_10 : decode cX9_act 10 = .ok (.aload_n 0, 1) := by decide +kernel
theorem dX9_act_11 : decode cX9_act 11 = .ok (.iconst 0, 1) := by decide +kernel
theorem dX9_act_12 : decode cX9_act 12 = .ok (.putfield 11, 3) := by decide +kernel
theorem dX9_act_15 : decode cX9_act 15 = .ok (.aload_n 0, 1) := by decide +kernel
theorem dX9_act_16 : decode cX9_act 16 = .ok (.iconst (-1), 1) := by decide +kernel
theorem dX9_act_17 : decode cX9_act 17 = .ok (.putfield 14, 3) := by decide +kernel
theorem dX9_act_20 : decode cX9_act 20 = .ok (.aload_n 0, 1) := by decide +kernel
theorem dX9_act_21 : decode cX9_act 21 = .ok (.aload_n 0, 1) := by decide +kernel
theorem dX9_act_22 : decode cX9_act 22 = .ok (.getfield 203, 3) := by decide +kernel
theorem dX9_act_25 : decode cX9_act 25 = .ok (.putfield 1, 3) := by decide +kernel
theorem dX9_act_28 : decode cX9_act 28 = .ok (.iconst 0, 1) := by decide +kernel
theorem dX9_act_29 : decode cX9_act 29 = .ok (.istore_n 2, 1) := by decide +kernel
theorem dX9_act_30 : decode cX9_act 30 = .ok (.iload_n 2, 1) := by decide +kernel
theorem dX9_act_31 : decode cX9_act 31 = .ok (.aload_n 0, 1) := by decide +kernel
theorem dX9_act_32 : decode cX9_act 32 = .ok (.getfield 1, 3) := by decide +kernel
theorem dX9_act_35 : decode cX9_act 35 = .ok (.if_icmp .ge 21, 3) := by decide +kernel
theorem dX9_act_38 : decode cX9_act 38 = .ok (.aload_n 0, 1) := by decide +kernel
theorem dX9_act_39 : decode cX9_act 39 = .ok (.getfield 7, 3) := by decide +kernel
theorem dX9_act_42 : decode cX9_act 42 = .ok (.iload_n 2, 1) := by decide +kernel
theorem dX9_act_43 : decode cX9_act 43 = .ok (.aload_n 0, 1) := by decide +kernel
theorem dX9_act_44 : decode cX9_act 44 = .ok (.getfield 87, 3) := by decide +kernel
theorem dX9_act_47 : decode cX9_act 47 = .ok (.iload_n 2, 1) := by decide +kernel
theorem dX9_act_48 : decode cX9_act 48 = .ok (.baload, 1) := by decide +kernel
theorem dX9_act_49 : decode cX9_act 49 = .ok (.bastore, 1) := by decide +kernel
theorem dX9_act_50 : decode cX9_act 50 = .ok (.iinc 2 1, 3) := by decide +kernel
theorem dX9_act_53 : decode cX9_act 53 = .ok (.goto (-23), 3) := by decide +kernel
theorem dX9_act_56 : decode cX9_act 56 = .ok (.aload_n 0, 1) := by decide +kernel
theorem dX9_act_57 : decode cX9_act 57 = .ok (.iconst 0, 1) := by decide +kernel
theorem dX9_act_58 : decode cX9_act 58 = .ok (.putfield 203, 3) := by decide +kernel
theorem dX9_act_61 : decode cX9_act 61 = .ok (.aload_n 0, 1) := by decide +kernel
theorem dX9_act_62 : decode cX9_act 62 = .ok (.iconst 0, 1) := by decide +kernel
theorem dX9_act_63 : decode cX9_act 63 = .ok (.putfield 17, 3) := by decide +kernel
theorem dX9_act_66 : decode cX9_act 66 = .ok (.aload_n 0, 1) := by decide +kernel
theorem dX9_act_67 : decode cX9_act 67 = .ok (.iconst 4, 1) := by decide +kernel
theorem dX9_act_68 : decode cX9_act 68 = .ok (.putfield 206, 3) := by decide +kernel
theorem dX9_act_71 : decode cX9_act 71 = .ok (.aload_n 0, 1) := by decide +kernel
theorem dX9_act_72 : decode cX9_act 72 = .ok (.aload_n 0, 1) := by decide +kernel
theorem dX9_act_73 : decode cX9_act 73 = .ok (.getfield 206, 3) := by decide +kernel
theorem dX9_act_76 : decode cX9_act 76 = .ok (.invokevirtual 196, 3) := by decide +kernel
theorem dX9_act_79 : decode cX9_act 79 = .ok (.aload_n 0, 1) := by decide +kernel
theorem dX9_act_80 : decode cX9_act 80 = .ok (.iconst 0, 1) := by decide +kernel
theorem dX9_act_81 : decode cX9_act 81 = .ok (.putfield 209, 3) := by decide +kernel
theorem dX9_act_84 : decode cX9_act 84 = .ok (.aload_n 0, 1) := by decide +kernel
theorem dX9_act_85 : decode cX9_act 85 = .ok (.iconst 0, 1) := by decide +kernel
theorem dX9_act_86 : decode cX9_act 86 = .ok (.putfield 212, 3) := by decide +kernel
theorem dX9_act_89 : decode cX9_act 89 = .ok (.aload_n 0, 1) := by decide +kernel
theorem dX9_act_90 : decode cX9_act 90 = .ok (.invokevirtual 55, 3) := by decide +kernel
theorem dX9_act_93 : decode cX9_act 93 = .ok (.aload_n 0, 1) := by decide +kernel
theorem dX9_act_94 : decode cX9_act 94 = .ok (.invokevirtual 51, 3) := by decide +kernel
theorem dX9_act_97 : decode cX9_act 97 = .ok (.ifCond .eq 17, 3) := by decide +kernel
theorem dX9_act_100 : decode cX9_act 100 = .ok (.aload_n 0, 1) := by decide +kernel
theorem dX9_act_101 : decode cX9_act 101 = .ok (.getfield 27, 3) := by decide +kernel
theorem dX9_act_104 : decode cX9_act 104 = .ok (.ifCond .eq 10, 3) := by decide +kernel
theorem dX9_act_107 : decode cX9_act 107 = .ok (.aload_n 0, 1) := by decide +kernel
theorem dX9_act_108 : decode cX9_act 108 = .ok (.invokevirtual 215, 3) := by decide +kernel
theorem dX9_act_111 : decode cX9_act 111 = .ok (.goto (-18), 3) := by decide +kernel
theorem dX9_act_114 : decode cX9_act 114 = .ok (.aload_n 0, 1) := by decide +kernel
theorem dX9_act_115 : decode cX9_act 115 = .ok (.invokevirtual 51, 3) := by decide +kernel
theorem dX9_act_118 : decode cX9_act 118 = .ok (.ifCond .ne 5, 3) := by decide +kernel
theorem dX9_act_121 : decode cX9_act 121 = .ok (.iconst (-1), 1) := by decide +kernel
theorem dX9_act_122 : decode cX9_act 122 = .ok (.ireturn, 1) := by decide +kernel
theorem dX9_act_123 : decode cX9_act 123 = .ok (.aload_n 0, 1) := by decide +kernel
theorem dX9_act_124 : decode cX9_act 124 = .ok (.iload_n 1, 1) := by decide +kernel
theorem dX9_act_125 : decode cX9_act 125 = .ok (.invokevirtual 218, 3) := by decide +kernel
theorem dX9_act_128 : decode cX9_act 128 = .ok (.aload_n 0, 1) := by decide +kernel
theorem dX9_act_129 : decode cX9_act 129 = .ok (.getfield 73, 3) := by decide +kernel
theorem dX9_act_132 : decode cX9_act 132 = .ok (.iload_n 1, 1) := by decide +kernel
theorem dX9_act_133 : decode cX9_act 133 = .ok (.iaload, 1) := by decide +kernel
theorem dX9_act_134 : decode cX9_act 134 = .ok (.ireturn, 1) := by decide +kernel
theorem dX9_counts_0 : decode cX9_counts 0 = .ok (.aload_n 0, 1) := by decide +kernel
theorem dX9_counts_1 : decode cX9_counts 1 = .ok (.getfield 123, 3) := by decide +kernel
theorem dX9_counts_4 : decode cX9_counts 4 = .ok (.iload_n 1, 1) := by decide +kernel
theorem dX9_counts_5 : decode cX9_counts 5 = .ok (.iaload, 1) := by decide +kernel
theorem dX9_counts_6 : decode cX9_counts 6 = .ok (.iload_n 2, 1) := by decide +kernel
theorem dX9_counts_7 : decode cX9_counts 7 = .ok (.if_icmp .ne 48, 3) := by decide +kernel
theorem dX9_counts_10 : decode cX9_counts 10 = .ok (.aload_n 0, 1) := by decide +kernel
theorem dX9_counts_11 : decode cX9_counts 11 = .ok (.getfield 126, 3) := by decide +kernel
theorem dX9_counts_14 : decode cX9_counts 14 = .ok (.iload_n 1, 1) := by decide +kernel
theorem dX9_counts_15 : decode cX9_counts 15 = .ok (.iaload, 1) := by decide +kernel
theorem dX9_counts_16 : decode cX9_counts 16 = .ok (.iload_n 3, 1) := by decide +kernel
theorem dX9_counts_17 : decode cX9_counts 17 = .ok (.if_icmp .ne 38, 3) := by decide +kernel
theorem dX9_counts_20 : decode cX9_counts 20 = .ok (.aload_n 0, 1) := by decide +kernel
theorem dX9_counts_21 : decode cX9_counts 21 = .ok (.getfield 138, 3) := by decide +kernel
theorem dX9_counts_24 : decode cX9_counts 24 = .ok (.iload_n 1, 1) := by decide +kernel
theorem dX9_counts_25 : decode cX9_counts 25 = .ok (.iaload, 1) := by decide +kernel
theorem dX9_counts_26 : decode cX9_counts 26 = .ok (.iload 4, 2) := by decide +kernel
theorem dX9_counts_28 : decode cX9_counts 28 = .ok (.if_icmp .gt 27, 3) := by decide +kernel
theorem dX9_counts_31 : decode cX9_counts 31 = .ok (.aload_n 0, 1) := by decide +kernel
theorem dX9_counts_32 : decode cX9_counts 32 = .ok (.getfield 141, 3) := by decide +kernel
theorem dX9_counts_35 : decode cX9_counts 35 = .ok (.iload_n 1, 1) := by decide +kernel
theorem dX9_counts_36 : decode cX9_counts 36 = .ok (.iaload, 1) := by decide +kernel
theorem dX9_counts_37 : decode cX9_counts 37 = .ok (.ifCond .lt 14, 3) := by decide +kernel
theorem dX9_counts_40 : decode cX9_counts 40 = .ok (.aload_n 0, 1) := by decide +kernel
theorem dX9_counts_41 : decode cX9_counts 41 = .ok (.getfield 141, 3) := by decide +kernel
theorem dX9_counts_44 : decode cX9_counts 44 = .ok (.iload_n 1, 1) := by decide +kernel
theorem dX9_counts_45 : decode cX9_counts 45 = .ok (.iaload, 1) := by decide +kernel
theorem dX9_counts_46 : decode cX9_counts 46 = .ok (.iload 4, 2) := by decide +kernel
theorem dX9_counts_48 : decode cX9_counts 48 = .ok (.if_icmp .le 7, 3) := by decide +kernel
theorem dX9_counts_51 : decode cX9_counts 51 = .ok (.iconst 1, 1) := by decide +kernel
theorem dX9_counts_52 : decode cX9_counts 52 = .ok (.goto 4, 3) := by decide +kernel
theorem dX9_counts_55 : decode cX9_counts 55 = .ok (.iconst 0, 1) := by decide +kernel
theorem dX9_counts_56 : decode cX9_counts 56 = .ok (.ireturn, 1) := by decide +kernel
theorem dX9_bitsOf_0 : decode cX9_bitsOf 0 = .ok (.iconst 0, 1) := by decide +kernel
theorem dX9_bitsOf_1 : decode cX9_bitsOf 1 = .ok (.istore_n 1, 1) := by decide +kernel
theorem dX9_bitsOf_2 : decode cX9_bitsOf 2 = .ok (.iconst 0, 1) := by decide +kernel
theorem dX9_bitsOf_3 : decode cX9_bitsOf 3 = .ok (.istore_n 2, 1) := by decide +kernel
theorem dX9_bitsOf_4 : decode cX9_bitsOf 4 = .ok (.iload_n 2, 1) := by decide +kernel
theorem dX9_bitsOf_5 : decode cX9_bitsOf 5 = .ok (.bipush 10, 2) := by decide +kernel
theorem dX9_bitsOf_7 : decode cX9_bitsOf 7 = .ok (.if_icmp .ge 17, 3) := by decide +kernel
theorem dX9_bitsOf_10 : decode cX9_bitsOf 10 = .ok (.iload_n 1, 1) := by decide +kernel
theorem dX9_bitsOf_11 : decode cX9_bitsOf 11 = .ok (.iload_n 0, 1) := by decide +kernel
theorem dX9_bitsOf_12 : decode cX9_bitsOf 12 = .ok (.iload_n 2, 1) := by decide +kernel
theorem dX9_bitsOf_13 : decode cX9_bitsOf 13 = .ok (.ishr, 1) := by decide +kernel
theorem dX9_bitsOf_14 : decode cX9_bitsOf 14 = .ok (.iconst 1, 1) := by decide +kernel
theorem dX9_bitsOf_15 : decode cX9_bitsOf 15 = .ok (.iand, 1) := by decide +kernel
theorem dX9_bitsOf_16 : decode cX9_bitsOf 16 = .ok (.iadd, 1) := by decide +kernel
theorem dX9_bitsOf_17 : decode cX9_bitsOf 17 = .ok (.istore_n 1, 1) := by decide +kernel
theorem dX9_bitsOf_18 : decode cX9_bitsOf 18 = .ok (.iinc 2 1, 3) := by decide +kernel
theorem dX9_bitsOf_21 : decode cX9_bitsOf 21 = .ok (.goto (-17), 3) := by decide +kernel
theorem dX9_bitsOf_24 : decode cX9_bitsOf 24 = .ok (.iload_n 1, 1) := by decide +kernel
theorem dX9_bitsOf_25 : decode cX9_bitsOf 25 = .ok (.ireturn, 1) := by decide +kernel
def f_X9_isWord (a0 : Nat) (v1 : Int64) (h : Hp) : Option (Int32 × Hp) :=
  (getI h (some a0) 8 8).bind fun x1 =>
  b1 ((if x1 = (2 : Int32) then
      (getJ h (some a0) 8 10).bind fun x7 =>
      if (lg_cmp x7 v1) = (0 : Int32) then
        some (1, h)
      else
        some (0, h)
    else
      some (0, h) : Option (Int32 × Hp))) fun w10 h11 =>
  (zok w10).bind fun z13 =>
  some (w10, h11)
set_option maxHeartbeats 4000000 in
theorem t_X9_isWord (E : En) (d : Nat) {mc ms : Nat} {a0 : Nat} {v1 : Int64} {h h' : Hp} {r : Int32} {K : Option Vv → Hp → Prop} (hf : f_X9_isWord a0 v1 h = some (r, h')) (hk : K (some (vi r)) h') : MC E m_X9_isWord (d + 0) mc ms [vq (some a0), vl v1] h K := by
  unfold f_X9_isWord at hf
  show MW E m_X9_isWord (d + 0) mc ms 0 [some (vq (some a0)), some (vl v1), none] [] h K
  refine mw_aload_n (x := (some a0)) dX9_isWord_0 rfl ?_
  obtain ⟨x1, e2, hf⟩ := ob hf
  refine ml_getI dX9_isWord_1 fl_RX9_27 rfl e2 ?_
  refine mw_iconst (v := 2) dX9_isWord_4 (by decide) ?_
  obtain ⟨w10, h11, r12, hf⟩ := ob1 hf
  have J15 : MW E m_X9_isWord (d + 0) mc ms 22 [none, none, none] [vi w10] h11 K := by
    obtain ⟨z13, e14, hf⟩ := ob hf
    obtain ⟨rfl, rfl⟩ := y1 hf
    exact mw_ireturn dX9_isWord_22 rfl (zok_of e14) hk
  refine mw_icmp_ne (tgt := 21) dX9_isWord_5 rfl (fun c3 => ?_) (fun c3 => ?_)
  · rw [if_neg c3] at r12
    refine mw_iconst (v := 0) dX9_isWord_21 (by decide) ?_
    obtain ⟨rfl, rfl⟩ := y1 r12
    exact MW.sub (subL_n (subL_n (subL_n subL_nil))) J15
  · rw [if_pos c3] at r12
    refine mw_aload_n (x := (some a0)) dX9_isWord_8 rfl ?_
    obtain ⟨x7, e8, r12⟩ := ob r12
    refine ml_getJ dX9_isWord_9 fl_RX9_34 rfl e8 ?_
    refine mw_lload_n (x := v1) dX9_isWord_12 rfl ?_
    refine mw_lcmp dX9_isWord_13 ?_
    refine mw_if_ne (tgt := 21) dX9_isWord_14 rfl (fun c9 => ?_) (fun c9 => ?_)
    · rw [if_neg c9] at r12
      refine mw_iconst (v := 0) dX9_isWord_21 (by decide) ?_
      obtain ⟨rfl, rfl⟩ := y1 r12
      exact MW.sub (subL_n (subL_n (subL_n subL_nil))) J15
    · rw [if_pos c9] at r12
      refine mw_iconst (v := 1) dX9_isWord_17 (by decide) ?_
      refine mw_goto (tgt := 22) dX9_isWord_18 rfl ?_
      obtain ⟨rfl, rfl⟩ := y1 r12
      exact MW.sub (subL_n (subL_n (subL_n subL_nil))) J15
def f_X9_numberHere (a0 : Nat) (h : Hp) : Option (Int32 × Hp) :=
  (rc h (some a0) 8).bind fun g3 =>
  b1 (f_X9_isWord g3 512802253683 h) fun x5 h1 =>
  b1 ((if x5 = (0 : Int32) then
      (rc h1 (some a0) 8).bind fun g45 =>
      b1 (f_X9_isWord g45 1650549611 h1) fun x47 h43 =>
      if x47 = (0 : Int32) then
        (rc h43 (some a0) 8).bind fun g51 =>
        b1 (f_X9_isWord g51 1684109683 h43) fun x53 h49 =>
        if x53 = (0 : Int32) then
          (rc h49 (some a0) 8).bind fun g57 =>
          b1 (f_X9_isWord g57 426952976750 h49) fun x59 h55 =>
          if x59 = (0 : Int32) then
            (rc h55 (some a0) 8).bind fun g63 =>
            b1 (f_X9_isWord g63 1818326117 h55) fun x65 h61 =>
            if x65 = (0 : Int32) then
              (rc h61 (some a0) 8).bind fun g69 =>
              b1 (f_X9_isWord g69 1937010544 h61) fun x71 h67 =>
              if x71 = (0 : Int32) then
                (rc h67 (some a0) 8).bind fun g75 =>
                b1 (f_X9_isWord g75 7597137600480375668 h67) fun x77 h73 =>
                if x77 = (0 : Int32) then
                  some ((-1), h73)
                else
                  some (6, h73)
              else
                some (5, h67)
            else
              some (4, h61)
          else
            some (3, h55)
        else
          some (2, h49)
      else
        some (1, h43)
    else
      some (0, h1) : Option (Int32 × Hp))) fun w79 h80 =>
  some (w79, h80)
set_option maxHeartbeats 4000000 in
theorem t_X9_numberHere (E : En) (d : Nat) {mc ms : Nat} {a0 : Nat} {h h' : Hp} {r : Int32} {K : Option Vv → Hp → Prop} (hf : f_X9_numberHere a0 h = some (r, h')) (hk : K (some (vi r)) h') : MC E m_X9_numberHere (d + 1) mc ms [vq (some a0)] h K := by
  unfold f_X9_numberHere at hf
  show MW E m_X9_numberHere (d + 1) mc ms 0 [some (vq (some a0))] [] h K
  refine mw_aload_n (x := (some a0)) dX9_numberHere_0 rfl ?_
  refine mw_ldc2 dX9_numberHere_1 kc_RX9_221 ?_
  obtain ⟨g3, e4, hf⟩ := ob hf
  obtain ⟨x5, h1, e2, hf⟩ := ob1 hf
  refine ml_callV (ci := 8) (mc' := 0) (ms' := 0) [vl 512802253683] dX9_numberHere_4 mk_X9_isWord lk_RX9_223 im_X9_isWord se_X9_isWord (by decide) e4 rfl (Nat.le_of_ble_eq_true rfl) (Nat.le_of_ble_eq_true rfl) (t_X9_isWord E _ e2 isR_rfl) ?_
  obtain ⟨w79, h80, r81, hf⟩ := ob1 hf
  have J82 : MW E m_X9_numberHere (d + 1) mc ms 100 [none] [vi w79] h80 K := by
    obtain ⟨rfl, rfl⟩ := y1 hf
    exact mw_ireturn dX9_numberHere_100 rfl rfl hk
  refine mw_if_eq (tgt := 14) dX9_numberHere_7 rfl (fun c6 => ?_) (fun c6 => ?_)
  · rw [if_pos c6] at r81
    refine mw_aload_n (x := (some a0)) dX9_numberHere_14 rfl ?_
    refine mw_ldc2 dX9_numberHere_15 kc_RX9_227 ?_
    obtain ⟨g45, e46, r81⟩ := ob r81
    obtain ⟨x47, h43, e44, r81⟩ := ob1 r81
    refine ml_callV (ci := 8) (mc' := 0) (ms' := 0) [vl 1650549611] dX9_numberHere_18 mk_X9_isWord lk_RX9_223 im_X9_isWord se_X9_isWord (by decide) e46 rfl (Nat.le_of_ble_eq_true rfl) (Nat.le_of_ble_eq_true rfl) (t_X9_isWord E _ e44 isR_rfl) ?_
    refine mw_if_eq (tgt := 28) dX9_numberHere_21 rfl (fun c48 => ?_) (fun c48 => ?_)
    · rw [if_pos c48] at r81
      refine mw_aload_n (x := (some a0)) dX9_numberHere_28 rfl ?_
      refine mw_ldc2 dX9_numberHere_29 kc_RX9_229 ?_
      obtain ⟨g51, e52, r81⟩ := ob r81
      obtain ⟨x53, h49, e50, r81⟩ := ob1 r81
      refine ml_callV (ci := 8) (mc' := 0) (ms' := 0) [vl 1684109683] dX9_numberHere_32 mk_X9_isWord lk_RX9_223 im_X9_isWord se_X9_isWord (by decide) e52 rfl (Nat.le_of_ble_eq_true rfl) (Nat.le_of_ble_eq_true rfl) (t_X9_isWord E _ e50 isR_rfl) ?_
      refine mw_if_eq (tgt := 42) dX9_numberHere_35 rfl (fun c54 => ?_) (fun c54 => ?_)
      · rw [if_pos c54] at r81
        refine mw_aload_n (x := (some a0)) dX9_numberHere_42 rfl ?_
        refine mw_ldc2 dX9_numberHere_43 kc_RX9_231 ?_
        obtain ⟨g57, e58, r81⟩ := ob r81
        obtain ⟨x59, h55, e56, r81⟩ := ob1 r81
        refine ml_callV (ci := 8) (mc' := 0) (ms' := 0) [vl 426952976750] dX9_numberHere_46 mk_X9_isWord lk_RX9_223 im_X9_isWord se_X9_isWord (by decide) e58 rfl (Nat.le_of_ble_eq_true rfl) (Nat.le_of_ble_eq_true rfl) (t_X9_isWord E _ e56 isR_rfl) ?_
        refine mw_if_eq (tgt := 56) dX9_numberHere_49 rfl (fun c60 => ?_) (fun c60 => ?_)
        · rw [if_pos c60] at r81
          refine mw_aload_n (x := (some a0)) dX9_numberHere_56 rfl ?_
          refine mw_ldc2 dX9_numberHere_57 kc_RX9_233 ?_
          obtain ⟨g63, e64, r81⟩ := ob r81
          obtain ⟨x65, h61, e62, r81⟩ := ob1 r81
          refine ml_callV (ci := 8) (mc' := 0) (ms' := 0) [vl 1818326117] dX9_numberHere_60 mk_X9_isWord lk_RX9_223 im_X9_isWord se_X9_isWord (by decide) e64 rfl (Nat.le_of_ble_eq_true rfl) (Nat.le_of_ble_eq_true rfl) (t_X9_isWord E _ e62 isR_rfl) ?_
          refine mw_if_eq (tgt := 70) dX9_numberHere_63 rfl (fun c66 => ?_) (fun c66 => ?_)
          · rw [if_pos c66] at r81
            refine mw_aload_n (x := (some a0)) dX9_numberHere_70 rfl ?_
            refine mw_ldc2 dX9_numberHere_71 kc_RX9_235 ?_
            obtain ⟨g69, e70, r81⟩ := ob r81
            obtain ⟨x71, h67, e68, r81⟩ := ob1 r81
            refine ml_callV (ci := 8) (mc' := 0) (ms' := 0) [vl 1937010544] dX9_numberHere_74 mk_X9_isWord lk_RX9_223 im_X9_isWord se_X9_isWord (by decide) e70 rfl (Nat.le_of_ble_eq_true rfl) (Nat.le_of_ble_eq_true rfl) (t_X9_isWord E _ e68 isR_rfl) ?_
            refine mw_if_eq (tgt := 84) dX9_numberHere_77 rfl (fun c72 => ?_) (fun c72 => ?_)
            · rw [if_pos c72] at r81
              refine mw_aload_n (x := (some a0)) dX9_numberHere_84 rfl ?_
              refine mw_ldc2 dX9_numberHere_85 kc_RX9_237 ?_
              obtain ⟨g75, e76, r81⟩ := ob r81
              obtain ⟨x77, h73, e74, r81⟩ := ob1 r81
              refine ml_callV (ci := 8) (mc' := 0) (ms' := 0) [vl 7597137600480375668] dX9_numberHere_88 mk_X9_isWord lk_RX9_223 im_X9_isWord se_X9_isWord (by decide) e76 rfl (Nat.le_of_ble_eq_true rfl) (Nat.le_of_ble_eq_true rfl) (t_X9_isWord E _ e74 isR_rfl) ?_
              refine mw_if_eq (tgt := 99) dX9_numberHere_91 rfl (fun c78 => ?_) (fun c78 => ?_)
              · rw [if_pos c78] at r81
                refine mw_iconst (v := (-1)) dX9_numberHere_99 (by decide) ?_
                obtain ⟨rfl, rfl⟩ := y1 r81
                exact MW.sub (subL_n subL_nil) J82
              · rw [if_neg c78] at r81
                refine mw_bipush (v := 6) dX9_numberHere_94 (by decide) ?_
                refine mw_goto (tgt := 100) dX9_numberHere_96 rfl ?_
                obtain ⟨rfl, rfl⟩ := y1 r81
                exact MW.sub (subL_n subL_nil) J82
            · rw [if_neg c72] at r81
              refine mw_iconst (v := 5) dX9_numberHere_80 (by decide) ?_
              refine mw_goto (tgt := 100) dX9_numberHere_81 rfl ?_
              obtain ⟨rfl, rfl⟩ := y1 r81
              exact MW.sub (subL_n subL_nil) J82
          · rw [if_neg c66] at r81
            refine mw_iconst (v := 4) dX9_numberHere_66 (by decide) ?_
            refine mw_goto (tgt := 100) dX9_numberHere_67 rfl ?_
            obtain ⟨rfl, rfl⟩ := y1 r81
            exact MW.sub (subL_n subL_nil) J82
        · rw [if_neg c60] at r81
          refine mw_iconst (v := 3) dX9_numberHere_52 (by decide) ?_
          refine mw_goto (tgt := 100) dX9_numberHere_53 rfl ?_
          obtain ⟨rfl, rfl⟩ := y1 r81
          exact MW.sub (subL_n subL_nil) J82
      · rw [if_neg c54] at r81
        refine mw_iconst (v := 2) dX9_numberHere_38 (by decide) ?_
        refine mw_goto (tgt := 100) dX9_numberHere_39 rfl ?_
        obtain ⟨rfl, rfl⟩ := y1 r81
        exact MW.sub (subL_n subL_nil) J82
    · rw [if_neg c48] at r81
      refine mw_iconst (v := 1) dX9_numberHere_24 (by decide) ?_
      refine mw_goto (tgt := 100) dX9_numberHere_25 rfl ?_
      obtain ⟨rfl, rfl⟩ := y1 r81
      exact MW.sub (subL_n subL_nil) J82
  · rw [if_neg c6] at r81
    refine mw_iconst (v := 0) dX9_numberHere_10 (by decide) ?_
    refine mw_goto (tgt := 100) dX9_numberHere_11 rfl ?_
    obtain ⟨rfl, rfl⟩ := y1 r81
    exact MW.sub (subL_n subL_nil) J82
def f_X9_fails (a0 : Nat) (v1 : Int32) (v2 : Int32) (h : Hp) : Option (Hp) :=
  (getI h (some a0) 8 4).bind fun x1 =>
  if x1 ≤ (0 : Int32) then
    (putI h (some a0) 8 4 v1).bind fun h4 =>
    (putI h4 (some a0) 8 5 v2).bind fun h6 =>
    some h6
  else
    some h
set_option maxHeartbeats 4000000 in
theorem t_X9_fails (E : En) (d : Nat) {mc ms : Nat} {a0 : Nat} {v1 : Int32} {v2 : Int32} {h h' : Hp} {K : Option Vv → Hp → Prop} (hf : f_X9_fails a0 v1 v2 h = some h') (hk : K none h') : MC E m_X9_fails (d + 0) mc ms [vq (some a0), vi v1, vi v2] h K := by
  unfold f_X9_fails at hf
  show MW E m_X9_fails (d + 0) mc ms 0 [some (vq (some a0)), some (vi v1), some (vi v2)] [] h K
  refine mw_aload_n (x := (some a0)) dX9_fails_0 rfl ?_
  obtain ⟨x1, e2, hf⟩ := ob hf
  refine ml_getI dX9_fails_1 fl_RX9_11 rfl e2 ?_
  refine mw_if_le (tgt := 8) dX9_fails_4 rfl (fun c3 => ?_) (fun c3 => ?_)
  · rw [if_pos c3] at hf
    refine mw_aload_n (x := (some a0)) dX9_fails_8 rfl ?_
    refine mw_iload_n (x := v1) dX9_fails_9 rfl ?_
    obtain ⟨h4, e5, hf⟩ := ob hf
    refine ml_putI dX9_fails_10 fl_RX9_11 (Or.inl rfl) rfl rfl e5 ?_
    refine mw_aload_n (x := (some a0)) dX9_fails_13 rfl ?_
    refine mw_iload_n (x := v2) dX9_fails_14 rfl ?_
    obtain ⟨h6, e7, hf⟩ := ob hf
    refine ml_putI dX9_fails_15 fl_RX9_14 (Or.inl rfl) rfl rfl e7 ?_
    obtain rfl := y0 hf
    exact mw_return dX9_fails_18 rfl hk
  · rw [if_neg c3] at hf
    obtain rfl := y0 hf
    exact mw_return dX9_fails_7 rfl hk
def f_X9_wrong (a0 : Nat) (h : Hp) : Option (Hp) :=
  (getI h (some a0) 8 8).bind fun x1 =>
  b1 ((if x1 = (1 : Int32) then
      some (1, h)
    else
      some (2, h) : Option (Int32 × Hp))) fun w4 h5 =>
  (getI h5 (some a0) 8 6).bind fun x7 =>
  (rc h5 (some a0) 8).bind fun g11 =>
  (f_X9_fails g11 w4 x7 h5).bind fun h9 =>
  some h9
set_option maxHeartbeats 4000000 in
theorem t_X9_wrong (E : En) (d : Nat) {mc ms : Nat} {a0 : Nat} {h h' : Hp} {K : Option Vv → Hp → Prop} (hf : f_X9_wrong a0 h = some h') (hk : K none h') : MC E m_X9_wrong (d + 1) mc ms [vq (some a0)] h K := by
  unfold f_X9_wrong at hf
  show MW E m_X9_wrong (d + 1) mc ms 0 [some (vq (some a0))] [] h K
  refine mw_aload_n (x := (some a0)) dX9_wrong_0 rfl ?_
  refine mw_aload_n (x := (some a0)) dX9_wrong_1 rfl ?_
  obtain ⟨x1, e2, hf⟩ := ob hf
  refine ml_getI dX9_wrong_2 fl_RX9_27 rfl e2 ?_
  refine mw_iconst (v := 1) dX9_wrong_5 (by decide) ?_
  obtain ⟨w4, h5, r6, hf⟩ := ob1 hf
  have J13 : MW E m_X9_wrong (d + 1) mc ms 14 [some (vq (some a0))] [vi w4, vq (some a0)] h5 K := by
    refine mw_aload_n (x := (some a0)) dX9_wrong_14 rfl ?_
    obtain ⟨x7, e8, hf⟩ := ob hf
    refine ml_getI dX9_wrong_15 fl_RX9_20 rfl e8 ?_
    obtain ⟨g11, e12, hf⟩ := ob hf
    obtain ⟨h9, e10, hf⟩ := ob hf
    refine ml_callV (ci := 8) (mc' := 0) (ms' := 0) [vi w4, vi x7] dX9_wrong_18 mk_X9_fails lk_RX9_47 im_X9_fails se_X9_fails (by decide) e12 rfl (Nat.le_of_ble_eq_true rfl) (Nat.le_of_ble_eq_true rfl) (t_X9_fails E _ e10 isR_rfl) ?_
    obtain rfl := y0 hf
    exact mw_return dX9_wrong_21 rfl hk
  refine mw_icmp_ne (tgt := 13) dX9_wrong_6 rfl (fun c3 => ?_) (fun c3 => ?_)
  · rw [if_neg c3] at r6
    refine mw_iconst (v := 2) dX9_wrong_13 (by decide) ?_
    obtain ⟨rfl, rfl⟩ := y1 r6
    exact MW.sub (subL_s subL_nil) J13
  · rw [if_pos c3] at r6
    refine mw_iconst (v := 1) dX9_wrong_9 (by decide) ?_
    refine mw_goto (tgt := 14) dX9_wrong_10 rfl ?_
    obtain ⟨rfl, rfl⟩ := y1 r6
    exact MW.sub (subL_s subL_nil) J13
def f_X9_kindHere (a0 : Nat) (h : Hp) : Option (Int32 × Hp) :=
  (rc h (some a0) 8).bind fun g3 =>
  b1 (f_X9_isWord g3 1650553701 h) fun x5 h1 =>
  b1 ((if x5 = (0 : Int32) then
      (rc h1 (some a0) 8).bind fun g33 =>
      b1 (f_X9_isWord g33 8031718527715601765 h1) fun x35 h31 =>
      if x35 = (0 : Int32) then
        (rc h31 (some a0) 8).bind fun g39 =>
        b1 (f_X9_isWord g39 495555732851 h31) fun x41 h37 =>
        if x41 = (0 : Int32) then
          (rc h37 (some a0) 8).bind fun g45 =>
          b1 (f_X9_isWord g45 128034610242924 h37) fun x47 h43 =>
          if x47 = (0 : Int32) then
            (rc h43 (some a0) 8).bind fun g51 =>
            b1 (f_X9_isWord g51 422776305011 h43) fun x53 h49 =>
            if x53 = (0 : Int32) then
              some ((-1), h49)
            else
              some (4, h49)
          else
            some (3, h43)
        else
          some (2, h37)
      else
        some (1, h31)
    else
      some (0, h1) : Option (Int32 × Hp))) fun w55 h56 =>
  some (w55, h56)
set_option maxHeartbeats 4000000 in
theorem t_X9_kindHere (E : En) (d : Nat) {mc ms : Nat} {a0 : Nat} {h h' : Hp} {r : Int32} {K : Option Vv → Hp → Prop} (hf : f_X9_kindHere a0 h = some (r, h')) (hk : K (some (vi r)) h') : MC E m_X9_kindHere (d + 1) mc ms [vq (some a0)] h K := by
  unfold f_X9_kindHere at hf
  show MW E m_X9_kindHere (d + 1) mc ms 0 [some (vq (some a0))] [] h K
  refine mw_aload_n (x := (some a0)) dX9_kindHere_0 rfl ?_
  refine mw_ldc2 dX9_kindHere_1 kc_RX9_239 ?_
  obtain ⟨g3, e4, hf⟩ := ob hf
  obtain ⟨x5, h1, e2, hf⟩ := ob1 hf
  refine ml_callV (ci := 8) (mc' := 0) (ms' := 0) [vl 1650553701] dX9_kindHere_4 mk_X9_isWord lk_RX9_223 im_X9_isWord se_X9_isWord (by decide) e4 rfl (Nat.le_of_ble_eq_true rfl) (Nat.le_of_ble_eq_true rfl) (t_X9_isWord E _ e2 isR_rfl) ?_
  obtain ⟨w55, h56, r57, hf⟩ := ob1 hf
  have J58 : MW E m_X9_kindHere (d + 1) mc ms 71 [none] [vi w55] h56 K := by
    obtain ⟨rfl, rfl⟩ := y1 hf
    exact mw_ireturn dX9_kindHere_71 rfl rfl hk
  refine mw_if_eq (tgt := 14) dX9_kindHere_7 rfl (fun c6 => ?_) (fun c6 => ?_)
  · rw [if_pos c6] at r57
    refine mw_aload_n (x := (some a0)) dX9_kindHere_14 rfl ?_
    refine mw_ldc2 dX9_kindHere_15 kc_RX9_241 ?_
    obtain ⟨g33, e34, r57⟩ := ob r57
    obtain ⟨x35, h31, e32, r57⟩ := ob1 r57
    refine ml_callV (ci := 8) (mc' := 0) (ms' := 0) [vl 8031718527715601765] dX9_kindHere_18 mk_X9_isWord lk_RX9_223 im_X9_isWord se_X9_isWord (by decide) e34 rfl (Nat.le_of_ble_eq_true rfl) (Nat.le_of_ble_eq_true rfl) (t_X9_isWord E _ e32 isR_rfl) ?_
    refine mw_if_eq (tgt := 28) dX9_kindHere_21 rfl (fun c36 => ?_) (fun c36 => ?_)
    · rw [if_pos c36] at r57
      refine mw_aload_n (x := (some a0)) dX9_kindHere_28 rfl ?_
      refine mw_ldc2 dX9_kindHere_29 kc_RX9_243 ?_
      obtain ⟨g39, e40, r57⟩ := ob r57
      obtain ⟨x41, h37, e38, r57⟩ := ob1 r57
      refine ml_callV (ci := 8) (mc' := 0) (ms' := 0) [vl 495555732851] dX9_kindHere_32 mk_X9_isWord lk_RX9_223 im_X9_isWord se_X9_isWord (by decide) e40 rfl (Nat.le_of_ble_eq_true rfl) (Nat.le_of_ble_eq_true rfl) (t_X9_isWord E _ e38 isR_rfl) ?_
      refine mw_if_eq (tgt := 42) dX9_kindHere_35 rfl (fun c42 => ?_) (fun c42 => ?_)
      · rw [if_pos c42] at r57
        refine mw_aload_n (x := (some a0)) dX9_kindHere_42 rfl ?_
        refine mw_ldc2 dX9_kindHere_43 kc_RX9_245 ?_
        obtain ⟨g45, e46, r57⟩ := ob r57
        obtain ⟨x47, h43, e44, r57⟩ := ob1 r57
        refine ml_callV (ci := 8) (mc' := 0) (ms' := 0) [vl 128034610242924] dX9_kindHere_46 mk_X9_isWord lk_RX9_223 im_X9_isWord se_X9_isWord (by decide) e46 rfl (Nat.le_of_ble_eq_true rfl) (Nat.le_of_ble_eq_true rfl) (t_X9_isWord E _ e44 isR_rfl) ?_
        refine mw_if_eq (tgt := 56) dX9_kindHere_49 rfl (fun c48 => ?_) (fun c48 => ?_)
        · rw [if_pos c48] at r57
          refine mw_aload_n (x := (some a0)) dX9_kindHere_56 rfl ?_
          refine mw_ldc2 dX9_kindHere_57 kc_RX9_247 ?_
          obtain ⟨g51, e52, r57⟩ := ob r57
          obtain ⟨x53, h49, e50, r57⟩ := ob1 r57
          refine ml_callV (ci := 8) (mc' := 0) (ms' := 0) [vl 422776305011] dX9_kindHere_60 mk_X9_isWord lk_RX9_223 im_X9_isWord se_X9_isWord (by decide) e52 rfl (Nat.le_of_ble_eq_true rfl) (Nat.le_of_ble_eq_true rfl) (t_X9_isWord E _ e50 isR_rfl) ?_
          refine mw_if_eq (tgt := 70) dX9_kindHere_63 rfl (fun c54 => ?_) (fun c54 => ?_)
          · rw [if_pos c54] at r57
            refine mw_iconst (v := (-1)) dX9_kindHere_70 (by decide) ?_
            obtain ⟨rfl, rfl⟩ := y1 r57
            exact MW.sub (subL_n subL_nil) J58
          · rw [if_neg c54] at r57
            refine mw_iconst (v := 4) dX9_kindHere_66 (by decide) ?_
            refine mw_goto (tgt := 71) dX9_kindHere_67 rfl ?_
            obtain ⟨rfl, rfl⟩ := y1 r57
            exact MW.sub (subL_n subL_nil) J58
        · rw [if_neg c48] at r57
          refine mw_iconst (v := 3) dX9_kindHere_52 (by decide) ?_
          refine mw_goto (tgt := 71) dX9_kindHere_53 rfl ?_
          obtain ⟨rfl, rfl⟩ := y1 r57
          exact MW.sub (subL_n subL_nil) J58
      · rw [if_neg c42] at r57
        refine mw_iconst (v := 2) dX9_kindHere_38 (by decide) ?_
        refine mw_goto (tgt := 71) dX9_kindHere_39 rfl ?_
        obtain ⟨rfl, rfl⟩ := y1 r57
        exact MW.sub (subL_n subL_nil) J58
    · rw [if_neg c36] at r57
      refine mw_iconst (v := 1) dX9_kindHere_24 (by decide) ?_
      refine mw_goto (tgt := 71) dX9_kindHere_25 rfl ?_
      obtain ⟨rfl, rfl⟩ := y1 r57
      exact MW.sub (subL_n subL_nil) J58
  · rw [if_neg c6] at r57
    refine mw_iconst (v := 0) dX9_kindHere_10 (by decide) ?_
    refine mw_goto (tgt := 71) dX9_kindHere_11 rfl ?_
    obtain ⟨rfl, rfl⟩ := y1 r57
    exact MW.sub (subL_n subL_nil) J58
def f_X9_must (a0 : Nat) (v1 : Int32) (h : Hp) : Option (Hp) :=
  (rc h (some a0) 8).bind fun g3 =>
  b1 (f_X9_isGood g3 h) fun x5 h1 =>
  if x5 = (0 : Int32) then
    some h1
  else
    Option.bind ((if v1 = (0 : Int32) then
        (rc h1 (some a0) 8).bind fun g18 =>
        (f_X9_wrong g18 h1).bind fun h16 =>
        some h16
      else
        (rc h1 (some a0) 8).bind fun g22 =>
        (f_X9_next g22 h1).bind fun h20 =>
        some h20 : Option (Hp))) fun h24 =>
    some h24
set_option maxHeartbeats 4000000 in
theorem t_X9_must (E : En) (d : Nat) {mc ms : Nat} {a0 : Nat} {v1 : Int32} {h h' : Hp} {K : Option Vv → Hp → Prop} (hf : f_X9_must a0 v1 h = some h') (hk : K none h') : MC E m_X9_must (d + 2) mc ms [vq (some a0), vi v1] h K := by
  unfold f_X9_must at hf
  show MW E m_X9_must (d + 2) mc ms 0 [some (vq (some a0)), some (vi v1)] [] h K
  refine mw_aload_n (x := (some a0)) dX9_must_0 rfl ?_
  obtain ⟨g3, e4, hf⟩ := ob hf
  obtain ⟨x5, h1, e2, hf⟩ := ob1 hf
  refine ml_callV (ci := 8) (mc' := 0) (ms' := 0) [] dX9_must_1 mk_X9_isGood lk_RX9_51 im_X9_isGood se_X9_isGood (by decide) e4 rfl (Nat.le_of_ble_eq_true rfl) (Nat.le_of_ble_eq_true rfl) (t_X9_isGood E _ e2 isR_rfl) ?_
  refine mw_if_ne (tgt := 8) dX9_must_4 rfl (fun c6 => ?_) (fun c6 => ?_)
  · rw [if_neg c6] at hf
    refine mw_iload_n (x := v1) dX9_must_8 rfl ?_
    obtain ⟨h24, r25, hf⟩ := ob hf
    have J26 : MW E m_X9_must (d + 2) mc ms 23 [none, none] [] h24 K := by
      obtain rfl := y0 hf
      exact mw_return dX9_must_23 rfl hk
    refine mw_if_eq (tgt := 19) dX9_must_9 rfl (fun c7 => ?_) (fun c7 => ?_)
    · rw [if_pos c7] at r25
      refine mw_aload_n (x := (some a0)) dX9_must_19 rfl ?_
      obtain ⟨g18, e19, r25⟩ := ob r25
      obtain ⟨h16, e17, r25⟩ := ob r25
      refine ml_callV (ci := 8) (mc' := 0) (ms' := 0) [] dX9_must_20 mk_X9_wrong lk_RX9_59 im_X9_wrong se_X9_wrong (by decide) e19 rfl (Nat.le_of_ble_eq_true rfl) (Nat.le_of_ble_eq_true rfl) (t_X9_wrong E _ e17 isR_rfl) ?_
      obtain rfl := y0 r25
      exact MW.sub (subL_n (subL_n subL_nil)) J26
    · rw [if_neg c7] at r25
      refine mw_aload_n (x := (some a0)) dX9_must_12 rfl ?_
      obtain ⟨g22, e23, r25⟩ := ob r25
      obtain ⟨h20, e21, r25⟩ := ob r25
      refine ml_callV (ci := 8) (mc' := 0) (ms' := 0) [] dX9_must_13 mk_X9_next lk_RX9_55 im_X9_next se_X9_next (by decide) e23 rfl (Nat.le_of_ble_eq_true rfl) (Nat.le_of_ble_eq_true rfl) (t_X9_next E _ e21 isR_rfl) ?_
      refine mw_goto (tgt := 23) dX9_must_16 rfl ?_
      obtain rfl := y0 r25
      exact MW.sub (subL_n (subL_n subL_nil)) J26
  · rw [if_pos c6] at hf
    obtain rfl := y0 hf
    exact mw_return dX9_must_7 rfl hk
def f_X9_numeral (a0 : Nat) (v1 : Int32) (v2 : Int32) (h : Hp) : Option (Int32 × Hp) :=
  (rc h (some a0) 8).bind fun g3 =>
  b1 (f_X9_isGood g3 h) fun x5 h1 =>
  if x5 = (0 : Int32) then
    some (v1, h1)
  else
    (getI h1 (some a0) 8 8).bind fun x7 =>
    Option.bind ((if x7 = (3 : Int32) then
        some h1
      else
        (rc h1 (some a0) 8).bind fun g16 =>
        (f_X9_wrong g16 h1).bind fun h14 =>
        some h14 : Option (Hp))) fun h18 =>
    (rc h18 (some a0) 8).bind fun g22 =>
    b1 (f_X9_isGood g22 h18) fun x24 h20 =>
    Option.bind ((if x24 = (0 : Int32) then
        some h20
      else
        (getI h20 (some a0) 8 9).bind fun x44 =>
        if x44 < v1 then
          (getI h20 (some a0) 8 6).bind fun x47 =>
          (rc h20 (some a0) 8).bind fun g51 =>
          (f_X9_fails g51 (4 : Int32) x47 h20).bind fun h49 =>
          some h49
        else
          (getI h20 (some a0) 8 9).bind fun x53 =>
          if x53 ≤ v2 then
            some h20
          else
            (getI h20 (some a0) 8 6).bind fun x56 =>
            (rc h20 (some a0) 8).bind fun g60 =>
            (f_X9_fails g60 (4 : Int32) x56 h20).bind fun h58 =>
            some h58 : Option (Hp))) fun h62 =>
    (getI h62 (some a0) 8 9).bind fun x64 =>
    (rc h62 (some a0) 8).bind fun g68 =>
    b1 (f_X9_isGood g68 h62) fun x70 h66 =>
    Option.bind ((if x70 = (0 : Int32) then
        some h66
      else
        (rc h66 (some a0) 8).bind fun g78 =>
        (f_X9_next g78 h66).bind fun h76 =>
        some h76 : Option (Hp))) fun h80 =>
    (rc h80 (some a0) 8).bind fun g84 =>
    b1 (f_X9_isGood g84 h80) fun x86 h82 =>
    b1 ((if x86 = (0 : Int32) then
        some (v1, h82)
      else
        some (x64, h82) : Option (Int32 × Hp))) fun w88 h89 =>
    some (w88, h89)
set_option maxHeartbeats 4000000 in
theorem t_X9_numeral (E : En) (d : Nat) {mc ms : Nat} {a0 : Nat} {v1 : Int32} {v2 : Int32} {h h' : Hp} {r : Int32} {K : Option Vv → Hp → Prop} (hf : f_X9_numeral a0 v1 v2 h = some (r, h')) (hk : K (some (vi r)) h') : MC E m_X9_numeral (d + 2) mc ms [vq (some a0), vi v1, vi v2] h K := by
  unfold f_X9_numeral at hf
  show MW E m_X9_numeral (d + 2) mc ms 0 [some (vq (some a0)), some (vi v1), some (vi v2), none] [] h K
  refine mw_aload_n (x := (some a0)) dX9_numeral_0 rfl ?_
  obtain ⟨g3, e4, hf⟩ := ob hf
  obtain ⟨x5, h1, e2, hf⟩ := ob1 hf
  refine ml_callV (ci := 8) (mc' := 0) (ms' := 0) [] dX9_numeral_1 mk_X9_isGood lk_RX9_51 im_X9_isGood se_X9_isGood (by decide) e4 rfl (Nat.le_of_ble_eq_true rfl) (Nat.le_of_ble_eq_true rfl) (t_X9_isGood E _ e2 isR_rfl) ?_
  refine mw_if_ne (tgt := 9) dX9_numeral_4 rfl (fun c6 => ?_) (fun c6 => ?_)
  · rw [if_neg c6] at hf
    refine mw_aload_n (x := (some a0)) dX9_numeral_9 rfl ?_
    obtain ⟨x7, e8, hf⟩ := ob hf
    refine ml_getI dX9_numeral_10 fl_RX9_27 rfl e8 ?_
    refine mw_iconst (v := 3) dX9_numeral_13 (by decide) ?_
    obtain ⟨h18, r19, hf⟩ := ob hf
    have J91 : MW E m_X9_numeral (d + 2) mc ms 21 [some (vq (some a0)), some (vi v1), some (vi v2), none] [] h18 K := by
      refine mw_aload_n (x := (some a0)) dX9_numeral_21 rfl ?_
      obtain ⟨g22, e23, hf⟩ := ob hf
      obtain ⟨x24, h20, e21, hf⟩ := ob1 hf
      refine ml_callV (ci := 8) (mc' := 0) (ms' := 0) [] dX9_numeral_22 mk_X9_isGood lk_RX9_51 im_X9_isGood se_X9_isGood (by decide) e23 rfl (Nat.le_of_ble_eq_true rfl) (Nat.le_of_ble_eq_true rfl) (t_X9_isGood E _ e21 isR_rfl) ?_
      obtain ⟨h62, r63, hf⟩ := ob hf
      have J92 : MW E m_X9_numeral (d + 2) mc ms 53 [some (vq (some a0)), some (vi v1), none, none] [] h62 K := by
        refine mw_aload_n (x := (some a0)) dX9_numeral_53 rfl ?_
        obtain ⟨x64, e65, hf⟩ := ob hf
        refine ml_getI dX9_numeral_54 fl_RX9_41 rfl e65 ?_
        refine mw_istore_n dX9_numeral_57 (by decide) rfl ?_
        refine mw_aload_n (x := (some a0)) dX9_numeral_58 rfl ?_
        obtain ⟨g68, e69, hf⟩ := ob hf
        obtain ⟨x70, h66, e67, hf⟩ := ob1 hf
        refine ml_callV (ci := 8) (mc' := 0) (ms' := 0) [] dX9_numeral_59 mk_X9_isGood lk_RX9_51 im_X9_isGood se_X9_isGood (by decide) e69 rfl (Nat.le_of_ble_eq_true rfl) (Nat.le_of_ble_eq_true rfl) (t_X9_isGood E _ e67 isR_rfl) ?_
        obtain ⟨h80, r81, hf⟩ := ob hf
        have J93 : MW E m_X9_numeral (d + 2) mc ms 69 [some (vq (some a0)), some (vi v1), none, some (vi x64)] [] h80 K := by
          refine mw_aload_n (x := (some a0)) dX9_numeral_69 rfl ?_
          obtain ⟨g84, e85, hf⟩ := ob hf
          obtain ⟨x86, h82, e83, hf⟩ := ob1 hf
          refine ml_callV (ci := 8) (mc' := 0) (ms' := 0) [] dX9_numeral_70 mk_X9_isGood lk_RX9_51 im_X9_isGood se_X9_isGood (by decide) e85 rfl (Nat.le_of_ble_eq_true rfl) (Nat.le_of_ble_eq_true rfl) (t_X9_isGood E _ e83 isR_rfl) ?_
          obtain ⟨w88, h89, r90, hf⟩ := ob1 hf
          have J94 : MW E m_X9_numeral (d + 2) mc ms 81 [none, none, none, none] [vi w88] h89 K := by
            obtain ⟨rfl, rfl⟩ := y1 hf
            exact mw_ireturn dX9_numeral_81 rfl rfl hk
          refine mw_if_eq (tgt := 80) dX9_numeral_73 rfl (fun c87 => ?_) (fun c87 => ?_)
          · rw [if_pos c87] at r90
            refine mw_iload_n (x := v1) dX9_numeral_80 rfl ?_
            obtain ⟨rfl, rfl⟩ := y1 r90
            exact MW.sub (subL_n (subL_n (subL_n (subL_n subL_nil)))) J94
          · rw [if_neg c87] at r90
            refine mw_iload_n (x := x64) dX9_numeral_76 rfl ?_
            refine mw_goto (tgt := 81) dX9_numeral_77 rfl ?_
            obtain ⟨rfl, rfl⟩ := y1 r90
            exact MW.sub (subL_n (subL_n (subL_n (subL_n subL_nil)))) J94
        refine mw_if_eq (tgt := 69) dX9_numeral_62 rfl (fun c71 => ?_) (fun c71 => ?_)
        · rw [if_pos c71] at r81
          obtain rfl := y0 r81
          exact MW.sub (subL_s (subL_s (subL_n (subL_s subL_nil)))) J93
        · rw [if_neg c71] at r81
          refine mw_aload_n (x := (some a0)) dX9_numeral_65 rfl ?_
          obtain ⟨g78, e79, r81⟩ := ob r81
          obtain ⟨h76, e77, r81⟩ := ob r81
          refine ml_callV (ci := 8) (mc' := 0) (ms' := 0) [] dX9_numeral_66 mk_X9_next lk_RX9_55 im_X9_next se_X9_next (by decide) e79 rfl (Nat.le_of_ble_eq_true rfl) (Nat.le_of_ble_eq_true rfl) (t_X9_next E _ e77 isR_rfl) ?_
          obtain rfl := y0 r81
          exact MW.sub (subL_s (subL_s (subL_n (subL_s subL_nil)))) J93
      refine mw_if_eq (tgt := 53) dX9_numeral_25 rfl (fun c25 => ?_) (fun c25 => ?_)
      · rw [if_pos c25] at r63
        obtain rfl := y0 r63
        exact MW.sub (subL_s (subL_s (subL_n (subL_n subL_nil)))) J92
      · rw [if_neg c25] at r63
        refine mw_aload_n (x := (some a0)) dX9_numeral_28 rfl ?_
        obtain ⟨x44, e45, r63⟩ := ob r63
        refine ml_getI dX9_numeral_29 fl_RX9_41 rfl e45 ?_
        refine mw_iload_n (x := v1) dX9_numeral_32 rfl ?_
        refine mw_icmp_lt (tgt := 44) dX9_numeral_33 rfl (fun c46 => ?_) (fun c46 => ?_)
        · rw [if_pos c46] at r63
          refine mw_aload_n (x := (some a0)) dX9_numeral_44 rfl ?_
          refine mw_iconst (v := 4) dX9_numeral_45 (by decide) ?_
          refine mw_aload_n (x := (some a0)) dX9_numeral_46 rfl ?_
          obtain ⟨x47, e48, r63⟩ := ob r63
          refine ml_getI dX9_numeral_47 fl_RX9_20 rfl e48 ?_
          obtain ⟨g51, e52, r63⟩ := ob r63
          obtain ⟨h49, e50, r63⟩ := ob r63
          refine ml_callV (ci := 8) (mc' := 0) (ms' := 0) [vi (4 : Int32), vi x47] dX9_numeral_50 mk_X9_fails lk_RX9_47 im_X9_fails se_X9_fails (by decide) e52 rfl (Nat.le_of_ble_eq_true rfl) (Nat.le_of_ble_eq_true rfl) (t_X9_fails E _ e50 isR_rfl) ?_
          obtain rfl := y0 r63
          exact MW.sub (subL_s (subL_s (subL_n (subL_n subL_nil)))) J92
        · rw [if_neg c46] at r63
          refine mw_aload_n (x := (some a0)) dX9_numeral_36 rfl ?_
          obtain ⟨x53, e54, r63⟩ := ob r63
          refine ml_getI dX9_numeral_37 fl_RX9_41 rfl e54 ?_
          refine mw_iload_n (x := v2) dX9_numeral_40 rfl ?_
          refine mw_icmp_le (tgt := 53) dX9_numeral_41 rfl (fun c55 => ?_) (fun c55 => ?_)
          · rw [if_pos c55] at r63
            obtain rfl := y0 r63
            exact MW.sub (subL_s (subL_s (subL_n (subL_n subL_nil)))) J92
          · rw [if_neg c55] at r63
            refine mw_aload_n (x := (some a0)) dX9_numeral_44 rfl ?_
            refine mw_iconst (v := 4) dX9_numeral_45 (by decide) ?_
            refine mw_aload_n (x := (some a0)) dX9_numeral_46 rfl ?_
            obtain ⟨x56, e57, r63⟩ := ob r63
            refine ml_getI dX9_numeral_47 fl_RX9_20 rfl e57 ?_
            obtain ⟨g60, e61, r63⟩ := ob r63
            obtain ⟨h58, e59, r63⟩ := ob r63
            refine ml_callV (ci := 8) (mc' := 0) (ms' := 0) [vi (4 : Int32), vi x56] dX9_numeral_50 mk_X9_fails lk_RX9_47 im_X9_fails se_X9_fails (by decide) e61 rfl (Nat.le_of_ble_eq_true rfl) (Nat.le_of_ble_eq_true rfl) (t_X9_fails E _ e59 isR_rfl) ?_
            obtain rfl := y0 r63
            exact MW.sub (subL_s (subL_s (subL_n (subL_n subL_nil)))) J92
    refine mw_icmp_eq (tgt := 21) dX9_numeral_14 rfl (fun c9 => ?_) (fun c9 => ?_)
    · rw [if_pos c9] at r19
      obtain rfl := y0 r19
      exact MW.sub (subL_s (subL_s (subL_s (subL_n subL_nil)))) J91
    · rw [if_neg c9] at r19
      refine mw_aload_n (x := (some a0)) dX9_numeral_17 rfl ?_
      obtain ⟨g16, e17, r19⟩ := ob r19
      obtain ⟨h14, e15, r19⟩ := ob r19
      refine ml_callV (ci := 8) (mc' := 0) (ms' := 0) [] dX9_numeral_18 mk_X9_wrong lk_RX9_59 im_X9_wrong se_X9_wrong (by decide) e17 rfl (Nat.le_of_ble_eq_true rfl) (Nat.le_of_ble_eq_true rfl) (t_X9_wrong E _ e15 isR_rfl) ?_
      obtain rfl := y0 r19
      exact MW.sub (subL_s (subL_s (subL_s (subL_n subL_nil)))) J91
  · rw [if_pos c6] at hf
    refine mw_iload_n (x := v1) dX9_numeral_7 rfl ?_
    obtain ⟨rfl, rfl⟩ := y1 hf
    exact mw_ireturn dX9_numeral_8 rfl rfl hk
def f_X9_put (a0 : Nat) (v1 : Int32) (v2 : Int32) (h : Hp) : Option (Hp) :=
  (getQ h (some a0) 8 20).bind fun x1 =>
  (getI h (some a0) 8 29).bind fun x3 =>
  (wrI h x1 x3 v1).bind fun h5 =>
  (getQ h5 (some a0) 8 21).bind fun x7 =>
  (getI h5 (some a0) 8 29).bind fun x9 =>
  (wrI h5 x7 x9 v2).bind fun h11 =>
  (getI h11 (some a0) 8 29).bind fun x13 =>
  (putI h11 (some a0) 8 29 (x13 + (1 : Int32))).bind fun h15 =>
  some h15
set_option maxHeartbeats 4000000 in
theorem t_X9_put (E : En) (d : Nat) {mc ms : Nat} {a0 : Nat} {v1 : Int32} {v2 : Int32} {h h' : Hp} {K : Option Vv → Hp → Prop} (hf : f_X9_put a0 v1 v2 h = some h') (hk : K none h') : MC E m_X9_put (d + 0) mc ms [vq (some a0), vi v1, vi v2] h K := by
  unfold f_X9_put at hf
  show MW E m_X9_put (d + 0) mc ms 0 [some (vq (some a0)), some (vi v1), some (vi v2)] [] h K
  refine mw_aload_n (x := (some a0)) dX9_put_0 rfl ?_
  obtain ⟨x1, e2, hf⟩ := ob hf
  refine ml_getQ dX9_put_1 fl_RX9_108 rfl e2 ?_
  refine mw_aload_n (x := (some a0)) dX9_put_4 rfl ?_
  obtain ⟨x3, e4, hf⟩ := ob hf
  refine ml_getI dX9_put_5 fl_RX9_288 rfl e4 ?_
  refine mw_iload_n (x := v1) dX9_put_8 rfl ?_
  obtain ⟨h5, e6, hf⟩ := ob hf
  refine ml_iast dX9_put_9 e6 ?_
  refine mw_aload_n (x := (some a0)) dX9_put_10 rfl ?_
  obtain ⟨x7, e8, hf⟩ := ob hf
  refine ml_getQ dX9_put_11 fl_RX9_111 rfl e8 ?_
  refine mw_aload_n (x := (some a0)) dX9_put_14 rfl ?_
  obtain ⟨x9, e10, hf⟩ := ob hf
  refine ml_getI dX9_put_15 fl_RX9_288 rfl e10 ?_
  refine mw_iload_n (x := v2) dX9_put_18 rfl ?_
  obtain ⟨h11, e12, hf⟩ := ob hf
  refine ml_iast dX9_put_19 e12 ?_
  refine mw_aload_n (x := (some a0)) dX9_put_20 rfl ?_
  refine mw_dupq dX9_put_21 ?_
  obtain ⟨x13, e14, hf⟩ := ob hf
  refine ml_getI dX9_put_22 fl_RX9_288 rfl e14 ?_
  refine mw_iconst (v := 1) dX9_put_25 (by decide) ?_
  refine mw_iadd dX9_put_26 ?_
  obtain ⟨h15, e16, hf⟩ := ob hf
  refine ml_putI dX9_put_27 fl_RX9_288 (Or.inl rfl) rfl rfl e16 ?_
  obtain rfl := y0 hf
  exact mw_return dX9_put_30 rfl hk
def f_X9_is (a0 : Nat) (v1 : Int32) (h : Hp) : Option (Int32 × Hp) :=
  (getI h (some a0) 8 8).bind fun x1 =>
  b1 ((if x1 = (4 : Int32) then
      (getI h (some a0) 8 6).bind fun x12 =>
      (rc h (some a0) 8).bind fun g16 =>
      b1 (f_X9_sign g16 x12 h) fun x18 h14 =>
      if x18 = v1 then
        some (1, h14)
      else
        some (0, h14)
    else
      some (0, h) : Option (Int32 × Hp))) fun w20 h21 =>
  (zok w20).bind fun z23 =>
  some (w20, h21)
set_option maxHeartbeats 4000000 in
theorem t_X9_is (E : En) (d : Nat) {mc ms : Nat} {a0 : Nat} {v1 : Int32} {h h' : Hp} {r : Int32} {K : Option Vv → Hp → Prop} (hf : f_X9_is a0 v1 h = some (r, h')) (hk : K (some (vi r)) h') : MC E m_X9_is (d + 1) mc ms [vq (some a0), vi v1] h K := by
  unfold f_X9_is at hf
  show MW E m_X9_is (d + 1) mc ms 0 [some (vq (some a0)), some (vi v1)] [] h K
  refine mw_aload_n (x := (some a0)) dX9_is_0 rfl ?_
  obtain ⟨x1, e2, hf⟩ := ob hf
  refine ml_getI dX9_is_1 fl_RX9_27 rfl e2 ?_
  refine mw_iconst (v := 4) dX9_is_4 (by decide) ?_
  obtain ⟨w20, h21, r22, hf⟩ := ob1 hf
  have J25 : MW E m_X9_is (d + 1) mc ms 25 [none, none] [vi w20] h21 K := by
    obtain ⟨z23, e24, hf⟩ := ob hf
    obtain ⟨rfl, rfl⟩ := y1 hf
    exact mw_ireturn dX9_is_25 rfl (zok_of e24) hk
  refine mw_icmp_ne (tgt := 24) dX9_is_5 rfl (fun c3 => ?_) (fun c3 => ?_)
  · rw [if_neg c3] at r22
    refine mw_iconst (v := 0) dX9_is_24 (by decide) ?_
    obtain ⟨rfl, rfl⟩ := y1 r22
    exact MW.sub (subL_n (subL_n subL_nil)) J25
  · rw [if_pos c3] at r22
    refine mw_aload_n (x := (some a0)) dX9_is_8 rfl ?_
    refine mw_aload_n (x := (some a0)) dX9_is_9 rfl ?_
    obtain ⟨x12, e13, r22⟩ := ob r22
    refine ml_getI dX9_is_10 fl_RX9_20 rfl e13 ?_
    obtain ⟨g16, e17, r22⟩ := ob r22
    obtain ⟨x18, h14, e15, r22⟩ := ob1 r22
    refine ml_callV (ci := 8) (mc' := 0) (ms' := 0) [vi x12] dX9_is_13 mk_X9_sign lk_RX9_23 im_X9_sign se_X9_sign (by decide) e17 rfl (Nat.le_of_ble_eq_true rfl) (Nat.le_of_ble_eq_true rfl) (t_X9_sign E _ e15 isR_rfl) ?_
    refine mw_iload_n (x := v1) dX9_is_16 rfl ?_
    refine mw_icmp_ne (tgt := 24) dX9_is_17 rfl (fun c19 => ?_) (fun c19 => ?_)
    · rw [if_neg c19] at r22
      refine mw_iconst (v := 0) dX9_is_24 (by decide) ?_
      obtain ⟨rfl, rfl⟩ := y1 r22
      exact MW.sub (subL_n (subL_n subL_nil)) J25
    · rw [if_pos c19] at r22
      refine mw_iconst (v := 1) dX9_is_20 (by decide) ?_
      refine mw_goto (tgt := 25) dX9_is_21 rfl ?_
      obtain ⟨rfl, rfl⟩ := y1 r22
      exact MW.sub (subL_n (subL_n subL_nil)) J25
def f_X9_wordHere (a0 : Nat) (h : Hp) : Option (Int32 × Hp) :=
  (rc h (some a0) 8).bind fun g3 =>
  b1 (f_X9_kindHere g3 h) fun x5 h1 =>
  if x5 < (0 : Int32) then
    (rc h1 (some a0) 8).bind fun g9 =>
    b1 (f_X9_isWord g9 448546566771 h1) fun x11 h7 =>
    if x11 = (0 : Int32) then
      (rc h7 (some a0) 8).bind fun g15 =>
      b1 (f_X9_isWord g15 500086104428 h7) fun x17 h13 =>
      if x17 = (0 : Int32) then
        (rc h13 (some a0) 8).bind fun g21 =>
        b1 (f_X9_isWord g21 2003133803 h13) fun x23 h19 =>
        if x23 = (0 : Int32) then
          (rc h19 (some a0) 8).bind fun g27 =>
          b1 (f_X9_isWord g27 482854658917 h19) fun x29 h25 =>
          if x29 = (0 : Int32) then
            (rc h25 (some a0) 8).bind fun g33 =>
            b1 (f_X9_isWord g33 1952805485 h25) fun x35 h31 =>
            if x35 = (0 : Int32) then
              (rc h31 (some a0) 8).bind fun g39 =>
              b1 (f_X9_isWord g39 448310438260 h31) fun x41 h37 =>
              b1 ((if x41 = (0 : Int32) then
                  some (0, h37)
                else
                  some (98, h37) : Option (Int32 × Hp))) fun w43 h44 =>
              some (w43, h44)
            else
              some (114, h31)
          else
            some (112, h25)
        else
          some (119, h19)
      else
        some (116, h13)
    else
      some (104, h7)
  else
    some (107, h1)
set_option maxHeartbeats 4000000 in
theorem t_X9_wordHere (E : En) (d : Nat) {mc ms : Nat} {a0 : Nat} {h h' : Hp} {r : Int32} {K : Option Vv → Hp → Prop} (hf : f_X9_wordHere a0 h = some (r, h')) (hk : K (some (vi r)) h') : MC E m_X9_wordHere (d + 2) mc ms [vq (some a0)] h K := by
  unfold f_X9_wordHere at hf
  show MW E m_X9_wordHere (d + 2) mc ms 0 [some (vq (some a0))] [] h K
  refine mw_aload_n (x := (some a0)) dX9_wordHere_0 rfl ?_
  obtain ⟨g3, e4, hf⟩ := ob hf
  obtain ⟨x5, h1, e2, hf⟩ := ob1 hf
  refine ml_callV (ci := 8) (mc' := 0) (ms' := 0) [] dX9_wordHere_1 mk_X9_kindHere lk_RX9_282 im_X9_kindHere se_X9_kindHere (by decide) e4 rfl (Nat.le_of_ble_eq_true rfl) (Nat.le_of_ble_eq_true rfl) (t_X9_kindHere E _ e2 isR_rfl) ?_
  refine mw_if_lt (tgt := 10) dX9_wordHere_4 rfl (fun c6 => ?_) (fun c6 => ?_)
  · rw [if_pos c6] at hf
    refine mw_aload_n (x := (some a0)) dX9_wordHere_10 rfl ?_
    refine mw_ldc2 dX9_wordHere_11 kc_RX9_303 ?_
    obtain ⟨g9, e10, hf⟩ := ob hf
    obtain ⟨x11, h7, e8, hf⟩ := ob1 hf
    refine ml_callV (ci := 8) (mc' := 0) (ms' := 0) [vl 448546566771] dX9_wordHere_14 mk_X9_isWord lk_RX9_223 im_X9_isWord se_X9_isWord (by decide) e10 rfl (Nat.le_of_ble_eq_true rfl) (Nat.le_of_ble_eq_true rfl) (t_X9_isWord E _ e8 isR_rfl) ?_
    refine mw_if_eq (tgt := 23) dX9_wordHere_17 rfl (fun c12 => ?_) (fun c12 => ?_)
    · rw [if_pos c12] at hf
      refine mw_aload_n (x := (some a0)) dX9_wordHere_23 rfl ?_
      refine mw_ldc2 dX9_wordHere_24 kc_RX9_305 ?_
      obtain ⟨g15, e16, hf⟩ := ob hf
      obtain ⟨x17, h13, e14, hf⟩ := ob1 hf
      refine ml_callV (ci := 8) (mc' := 0) (ms' := 0) [vl 500086104428] dX9_wordHere_27 mk_X9_isWord lk_RX9_223 im_X9_isWord se_X9_isWord (by decide) e16 rfl (Nat.le_of_ble_eq_true rfl) (Nat.le_of_ble_eq_true rfl) (t_X9_isWord E _ e14 isR_rfl) ?_
      refine mw_if_eq (tgt := 36) dX9_wordHere_30 rfl (fun c18 => ?_) (fun c18 => ?_)
      · rw [if_pos c18] at hf
        refine mw_aload_n (x := (some a0)) dX9_wordHere_36 rfl ?_
        refine mw_ldc2 dX9_wordHere_37 kc_RX9_307 ?_
        obtain ⟨g21, e22, hf⟩ := ob hf
        obtain ⟨x23, h19, e20, hf⟩ := ob1 hf
        refine ml_callV (ci := 8) (mc' := 0) (ms' := 0) [vl 2003133803] dX9_wordHere_40 mk_X9_isWord lk_RX9_223 im_X9_isWord se_X9_isWord (by decide) e22 rfl (Nat.le_of_ble_eq_true rfl) (Nat.le_of_ble_eq_true rfl) (t_X9_isWord E _ e20 isR_rfl) ?_
        refine mw_if_eq (tgt := 49) dX9_wordHere_43 rfl (fun c24 => ?_) (fun c24 => ?_)
        · rw [if_pos c24] at hf
          refine mw_aload_n (x := (some a0)) dX9_wordHere_49 rfl ?_
          refine mw_ldc2 dX9_wordHere_50 kc_RX9_309 ?_
          obtain ⟨g27, e28, hf⟩ := ob hf
          obtain ⟨x29, h25, e26, hf⟩ := ob1 hf
          refine ml_callV (ci := 8) (mc' := 0) (ms' := 0) [vl 482854658917] dX9_wordHere_53 mk_X9_isWord lk_RX9_223 im_X9_isWord se_X9_isWord (by decide) e28 rfl (Nat.le_of_ble_eq_true rfl) (Nat.le_of_ble_eq_true rfl) (t_X9_isWord E _ e26 isR_rfl) ?_
          refine mw_if_eq (tgt := 62) dX9_wordHere_56 rfl (fun c30 => ?_) (fun c30 => ?_)
          · rw [if_pos c30] at hf
            refine mw_aload_n (x := (some a0)) dX9_wordHere_62 rfl ?_
            refine mw_ldc2 dX9_wordHere_63 kc_RX9_311 ?_
            obtain ⟨g33, e34, hf⟩ := ob hf
            obtain ⟨x35, h31, e32, hf⟩ := ob1 hf
            refine ml_callV (ci := 8) (mc' := 0) (ms' := 0) [vl 1952805485] dX9_wordHere_66 mk_X9_isWord lk_RX9_223 im_X9_isWord se_X9_isWord (by decide) e34 rfl (Nat.le_of_ble_eq_true rfl) (Nat.le_of_ble_eq_true rfl) (t_X9_isWord E _ e32 isR_rfl) ?_
            refine mw_if_eq (tgt := 75) dX9_wordHere_69 rfl (fun c36 => ?_) (fun c36 => ?_)
            · rw [if_pos c36] at hf
              refine mw_aload_n (x := (some a0)) dX9_wordHere_75 rfl ?_
              refine mw_ldc2 dX9_wordHere_76 kc_RX9_313 ?_
              obtain ⟨g39, e40, hf⟩ := ob hf
              obtain ⟨x41, h37, e38, hf⟩ := ob1 hf
              refine ml_callV (ci := 8) (mc' := 0) (ms' := 0) [vl 448310438260] dX9_wordHere_79 mk_X9_isWord lk_RX9_223 im_X9_isWord se_X9_isWord (by decide) e40 rfl (Nat.le_of_ble_eq_true rfl) (Nat.le_of_ble_eq_true rfl) (t_X9_isWord E _ e38 isR_rfl) ?_
              obtain ⟨w43, h44, r45, hf⟩ := ob1 hf
              have J46 : MW E m_X9_wordHere (d + 2) mc ms 91 [none] [vi w43] h44 K := by
                obtain ⟨rfl, rfl⟩ := y1 hf
                exact mw_ireturn dX9_wordHere_91 rfl rfl hk
              refine mw_if_eq (tgt := 90) dX9_wordHere_82 rfl (fun c42 => ?_) (fun c42 => ?_)
              · rw [if_pos c42] at r45
                refine mw_iconst (v := 0) dX9_wordHere_90 (by decide) ?_
                obtain ⟨rfl, rfl⟩ := y1 r45
                exact MW.sub (subL_n subL_nil) J46
              · rw [if_neg c42] at r45
                refine mw_bipush (v := 98) dX9_wordHere_85 (by decide) ?_
                refine mw_goto (tgt := 91) dX9_wordHere_87 rfl ?_
                obtain ⟨rfl, rfl⟩ := y1 r45
                exact MW.sub (subL_n subL_nil) J46
            · rw [if_neg c36] at hf
              refine mw_bipush (v := 114) dX9_wordHere_72 (by decide) ?_
              obtain ⟨rfl, rfl⟩ := y1 hf
              exact mw_ireturn dX9_wordHere_74 rfl rfl hk
          · rw [if_neg c30] at hf
            refine mw_bipush (v := 112) dX9_wordHere_59 (by decide) ?_
            obtain ⟨rfl, rfl⟩ := y1 hf
            exact mw_ireturn dX9_wordHere_61 rfl rfl hk
        · rw [if_neg c24] at hf
          refine mw_bipush (v := 119) dX9_wordHere_46 (by decide) ?_
          obtain ⟨rfl, rfl⟩ := y1 hf
          exact mw_ireturn dX9_wordHere_48 rfl rfl hk
      · rw [if_neg c18] at hf
        refine mw_bipush (v := 116) dX9_wordHere_33 (by decide) ?_
        obtain ⟨rfl, rfl⟩ := y1 hf
        exact mw_ireturn dX9_wordHere_35 rfl rfl hk
    · rw [if_neg c12] at hf
      refine mw_bipush (v := 104) dX9_wordHere_20 (by decide) ?_
      obtain ⟨rfl, rfl⟩ := y1 hf
      exact mw_ireturn dX9_wordHere_22 rfl rfl hk
  · rw [if_neg c6] at hf
    refine mw_bipush (v := 107) dX9_wordHere_7 (by decide) ?_
    obtain ⟨rfl, rfl⟩ := y1 hf
    exact mw_ireturn dX9_wordHere_9 rfl rfl hk
def f_X9_step (a0 : Nat) (v1 : Int32) (v2 : Int32) (h : Hp) : Option (Hp) :=
  (getQ h (some a0) 8 18).bind fun x1 =>
  (getI h (some a0) 8 26).bind fun x3 =>
  (wrI h x1 ((3600 : Int32) + x3) v1).bind fun h5 =>
  (getQ h5 (some a0) 8 19).bind fun x7 =>
  (getI h5 (some a0) 8 26).bind fun x9 =>
  (wrI h5 x7 ((3600 : Int32) + x9) v2).bind fun h11 =>
  (getI h11 (some a0) 8 26).bind fun x13 =>
  (putI h11 (some a0) 8 26 (x13 + (1 : Int32))).bind fun h15 =>
  some h15
set_option maxHeartbeats 4000000 in
theorem t_X9_step (E : En) (d : Nat) {mc ms : Nat} {a0 : Nat} {v1 : Int32} {v2 : Int32} {h h' : Hp} {K : Option Vv → Hp → Prop} (hf : f_X9_step a0 v1 v2 h = some h') (hk : K none h') : MC E m_X9_step (d + 0) mc ms [vq (some a0), vi v1, vi v2] h K := by
  unfold f_X9_step at hf
  show MW E m_X9_step (d + 0) mc ms 0 [some (vq (some a0)), some (vi v1), some (vi v2)] [] h K
  refine mw_aload_n (x := (some a0)) dX9_step_0 rfl ?_
  obtain ⟨x1, e2, hf⟩ := ob hf
  refine ml_getQ dX9_step_1 fl_RX9_102 rfl e2 ?_
  refine mw_sipush (v := 3600) dX9_step_4 (by decide) ?_
  refine mw_aload_n (x := (some a0)) dX9_step_7 rfl ?_
  obtain ⟨x3, e4, hf⟩ := ob hf
  refine ml_getI dX9_step_8 fl_RX9_209 rfl e4 ?_
  refine mw_iadd dX9_step_11 ?_
  refine mw_iload_n (x := v1) dX9_step_12 rfl ?_
  obtain ⟨h5, e6, hf⟩ := ob hf
  refine ml_iast dX9_step_13 e6 ?_
  refine mw_aload_n (x := (some a0)) dX9_step_14 rfl ?_
  obtain ⟨x7, e8, hf⟩ := ob hf
  refine ml_getQ dX9_step_15 fl_RX9_105 rfl e8 ?_
  refine mw_sipush (v := 3600) dX9_step_18 (by decide) ?_
  refine mw_aload_n (x := (some a0)) dX9_step_21 rfl ?_
  obtain ⟨x9, e10, hf⟩ := ob hf
  refine ml_getI dX9_step_22 fl_RX9_209 rfl e10 ?_
  refine mw_iadd dX9_step_25 ?_
  refine mw_iload_n (x := v2) dX9_step_26 rfl ?_
  obtain ⟨h11, e12, hf⟩ := ob hf
  refine ml_iast dX9_step_27 e12 ?_
  refine mw_aload_n (x := (some a0)) dX9_step_28 rfl ?_
  refine mw_dupq dX9_step_29 ?_
  obtain ⟨x13, e14, hf⟩ := ob hf
  refine ml_getI dX9_step_30 fl_RX9_209 rfl e14 ?_
  refine mw_iconst (v := 1) dX9_step_33 (by decide) ?_
  refine mw_iadd dX9_step_34 ?_
  obtain ⟨h15, e16, hf⟩ := ob hf
  refine ml_putI dX9_step_35 fl_RX9_209 (Or.inl rfl) rfl rfl e16 ?_
  obtain rfl := y0 hf
  exact mw_return dX9_step_38 rfl hk
def f_X9_unit (a0 : Nat) (h : Hp) : Option (Int32 × Hp) :=
  (getQ h (some a0) 8 20).bind fun x1 =>
  (getI h (some a0) 8 29).bind fun x3 =>
  (rdI h x1 10 (x3 - (1 : Int32))).bind fun x5 =>
  b1 ((if x5 ≤ (3 : Int32) then
      some (1, h)
    else
      (getQ h (some a0) 8 20).bind fun x15 =>
      (getI h (some a0) 8 29).bind fun x17 =>
      (rdI h x15 10 (x17 - (1 : Int32))).bind fun x19 =>
      if x19 < (7 : Int32) then
        some (0, h)
      else
        some (1, h) : Option (Int32 × Hp))) fun w22 h23 =>
  b1 ((if w22 = (0 : Int32) then
      some (0, h23)
    else
      (rc h23 (some a0) 8).bind fun g34 =>
      b1 (f_X9_isWord g34 7237492 h23) fun x36 h32 =>
      if x36 = (0 : Int32) then
        some (0, h32)
      else
        some (1, h32) : Option (Int32 × Hp))) fun w38 h39 =>
  (rc h39 (some a0) 8).bind fun g43 =>
  b1 (f_X9_is g43 (40 : Int32) h39) fun x45 h41 =>
  (rc h41 (some a0) 8).bind fun g48 =>
  b1 (f_X9_wordHere g48 h41) fun x50 h46 =>
  Option.bind ((if w38 = (0 : Int32) then
      if x50 = (0 : Int32) then
        (getI h46 (some a0) 8 8).bind fun x186 =>
        if x186 = (3 : Int32) then
          (getI h46 (some a0) 8 27).bind fun x189 =>
          if x189 = (80 : Int32) then
            (rc h46 (some a0) 8).bind fun g194 =>
            (f_X9_wrong g194 h46).bind fun h192 =>
            some h192
          else
            if w38 = (0 : Int32) then
              if x45 = (0 : Int32) then
                some h46
              else
                (getI h46 (some a0) 8 28).bind fun x205 =>
                if x205 = (7 : Int32) then
                  (rc h46 (some a0) 8).bind fun g210 =>
                  (f_X9_wrong g210 h46).bind fun h208 =>
                  some h208
                else
                  some h46
            else
              (getI h46 (some a0) 8 28).bind fun x197 =>
              if x197 = (7 : Int32) then
                (rc h46 (some a0) 8).bind fun g202 =>
                (f_X9_wrong g202 h46).bind fun h200 =>
                some h200
              else
                some h46
        else
          if x45 = (0 : Int32) then
            (rc h46 (some a0) 8).bind fun g215 =>
            (f_X9_wrong g215 h46).bind fun h213 =>
            some h213
          else
            (getI h46 (some a0) 8 27).bind fun x217 =>
            if x217 = (80 : Int32) then
              (rc h46 (some a0) 8).bind fun g222 =>
              (f_X9_wrong g222 h46).bind fun h220 =>
              some h220
            else
              if w38 = (0 : Int32) then
                if x45 = (0 : Int32) then
                  some h46
                else
                  (getI h46 (some a0) 8 28).bind fun x233 =>
                  if x233 = (7 : Int32) then
                    (rc h46 (some a0) 8).bind fun g238 =>
                    (f_X9_wrong g238 h46).bind fun h236 =>
                    some h236
                  else
                    some h46
              else
                (getI h46 (some a0) 8 28).bind fun x225 =>
                if x225 = (7 : Int32) then
                  (rc h46 (some a0) 8).bind fun g230 =>
                  (f_X9_wrong g230 h46).bind fun h228 =>
                  some h228
                else
                  some h46
      else
        (getI h46 (some a0) 8 27).bind fun x163 =>
        if x163 = (80 : Int32) then
          (rc h46 (some a0) 8).bind fun g168 =>
          (f_X9_wrong g168 h46).bind fun h166 =>
          some h166
        else
          if w38 = (0 : Int32) then
            if x45 = (0 : Int32) then
              some h46
            else
              (getI h46 (some a0) 8 28).bind fun x179 =>
              if x179 = (7 : Int32) then
                (rc h46 (some a0) 8).bind fun g184 =>
                (f_X9_wrong g184 h46).bind fun h182 =>
                some h182
              else
                some h46
          else
            (getI h46 (some a0) 8 28).bind fun x171 =>
            if x171 = (7 : Int32) then
              (rc h46 (some a0) 8).bind fun g176 =>
              (f_X9_wrong g176 h46).bind fun h174 =>
              some h174
            else
              some h46
    else
      if w38 = (0 : Int32) then
        if x45 = (0 : Int32) then
          some h46
        else
          (getI h46 (some a0) 8 28).bind fun x155 =>
          if x155 = (7 : Int32) then
            (rc h46 (some a0) 8).bind fun g160 =>
            (f_X9_wrong g160 h46).bind fun h158 =>
            some h158
          else
            some h46
      else
        (getI h46 (some a0) 8 28).bind fun x147 =>
        if x147 = (7 : Int32) then
          (rc h46 (some a0) 8).bind fun g152 =>
          (f_X9_wrong g152 h46).bind fun h150 =>
          some h150
        else
          some h46 : Option (Hp))) fun h240 =>
  (rc h240 (some a0) 8).bind fun g244 =>
  b1 (f_X9_isGood g244 h240) fun x246 h242 =>
  if x246 = (0 : Int32) then
    some (1, h242)
  else
    (getI h242 (some a0) 8 27).bind fun x248 =>
    b1 ((if w38 = (0 : Int32) then
        some (1, h242)
      else
        some (0, h242) : Option (Int32 × Hp))) fun w251 h252 =>
    (putI h252 (some a0) 8 27 (x248 + w251)).bind fun h254 =>
    if w38 = (0 : Int32) then
      if x45 = (0 : Int32) then
        b1 ((if x50 = (0 : Int32) then
            (getI h254 (some a0) 8 9).bind fun x287 =>
            some (x287, h254)
          else
            (rc h254 (some a0) 8).bind fun g284 =>
            b1 (f_X9_kindHere g284 h254) fun x286 h282 =>
            some (x286, h282) : Option (Int32 × Hp))) fun w289 h290 =>
        (rc h290 (some a0) 8).bind fun g294 =>
        (f_X9_next g294 h290).bind fun h292 =>
        b1 ((if x50 = (98 : Int32) then
            (rc h292 (some a0) 8).bind fun g312 =>
            b1 (f_X9_kindHere g312 h292) fun x314 h310 =>
            b1 ((if x314 < (0 : Int32) then
                some (0, h310)
              else
                some (1, h310) : Option (Int32 × Hp))) fun w316 h317 =>
            (rc h317 (some a0) 8).bind fun g321 =>
            (f_X9_must g321 w316 h317).bind fun h319 =>
            some (x314, h319)
          else
            some (w289, h292) : Option (Int32 × Hp))) fun w323 h324 =>
        (rc h324 (some a0) 8).bind fun g328 =>
        b1 (f_X9_isGood g328 h324) fun x330 h326 =>
        if x330 = (0 : Int32) then
          some (1, h326)
        else
          b1 ((if x50 = (0 : Int32) then
              some (110, h326)
            else
              some (x50, h326) : Option (Int32 × Hp))) fun w333 h334 =>
          (rc h334 (some a0) 8).bind fun g338 =>
          (f_X9_step g338 w333 w323 h334).bind fun h336 =>
          some (0, h336)
      else
        b1 ((if w38 = (0 : Int32) then
            some (7, h254)
          else
            some (3, h254) : Option (Int32 × Hp))) fun w341 h342 =>
        (rc h342 (some a0) 8).bind fun g346 =>
        (f_X9_put g346 w341 (126 : Int32) h342).bind fun h344 =>
        (getI h344 (some a0) 8 28).bind fun x348 =>
        (putI h344 (some a0) 8 28 (x348 + (1 : Int32))).bind fun h350 =>
        (rc h350 (some a0) 8).bind fun g354 =>
        (f_X9_next g354 h350).bind fun h352 =>
        some (1, h352)
    else
      b1 ((if w38 = (0 : Int32) then
          some (7, h254)
        else
          some (3, h254) : Option (Int32 × Hp))) fun w258 h259 =>
      (rc h259 (some a0) 8).bind fun g263 =>
      (f_X9_put g263 w258 (126 : Int32) h259).bind fun h261 =>
      (getI h261 (some a0) 8 28).bind fun x265 =>
      (putI h261 (some a0) 8 28 (x265 + (1 : Int32))).bind fun h267 =>
      (rc h267 (some a0) 8).bind fun g271 =>
      (f_X9_next g271 h267).bind fun h269 =>
      some (1, h269)
set_option maxHeartbeats 4000000 in
theorem t_X9_unit (E : En) (d : Nat) {mc ms : Nat} {a0 : Nat} {h h' : Hp} {r : Int32} {K : Option Vv → Hp → Prop} (hf : f_X9_unit a0 h = some (r, h')) (hk : K (some (vi r)) h') : MC E m_X9_unit (d + 3) mc ms [vq (some a0)] h K := by
  unfold f_X9_unit at hf
  show MW E m_X9_unit (d + 3) mc ms 0 [some (vq (some a0)), none, none, none, none, none] [] h K
  refine mw_aload_n (x := (some a0)) dX9_unit_0 rfl ?_
  obtain ⟨x1, e2, hf⟩ := ob hf
  refine ml_getQ dX9_unit_1 fl_RX9_108 rfl e2 ?_
  refine mw_aload_n (x := (some a0)) dX9_unit_4 rfl ?_
  obtain ⟨x3, e4, hf⟩ := ob hf
  refine ml_getI dX9_unit_5 fl_RX9_288 rfl e4 ?_
  refine mw_iconst (v := 1) dX9_unit_8 (by decide) ?_
  refine mw_isub dX9_unit_9 ?_
  obtain ⟨x5, e6, hf⟩ := ob hf
  refine ml_iald dX9_unit_10 e6 ?_
  refine mw_iconst (v := 3) dX9_unit_11 (by decide) ?_
  obtain ⟨w22, h23, r24, hf⟩ := ob1 hf
  have J356 : MW E m_X9_unit (d + 3) mc ms 36 [some (vq (some a0)), none, none, none, none, none] [vi w22] h23 K := by
    refine mw_istore_n dX9_unit_36 (by decide) rfl ?_
    refine mw_iload_n (x := w22) dX9_unit_37 rfl ?_
    obtain ⟨w38, h39, r40, hf⟩ := ob1 hf
    have J357 : MW E m_X9_unit (d + 3) mc ms 56 [some (vq (some a0)), none, none, none, none, none] [vi w38] h39 K := by
      refine mw_istore_n dX9_unit_56 (by decide) rfl ?_
      refine mw_aload_n (x := (some a0)) dX9_unit_57 rfl ?_
      refine mw_bipush (v := 40) dX9_unit_58 (by decide) ?_
      obtain ⟨g43, e44, hf⟩ := ob hf
      obtain ⟨x45, h41, e42, hf⟩ := ob1 hf
      refine ml_callV (ci := 8) (mc' := 0) (ms' := 0) [vi (40 : Int32)] dX9_unit_60 mk_X9_is lk_RX9_266 im_X9_is se_X9_is (by decide) e44 rfl (Nat.le_of_ble_eq_true rfl) (Nat.le_of_ble_eq_true rfl) (t_X9_is E _ e42 isR_rfl) ?_
      refine mw_istore_n dX9_unit_63 (by decide) rfl ?_
      refine mw_aload_n (x := (some a0)) dX9_unit_64 rfl ?_
      obtain ⟨g48, e49, hf⟩ := ob hf
      obtain ⟨x50, h46, e47, hf⟩ := ob1 hf
      refine ml_callV (ci := 8) (mc' := 0) (ms' := 0) [] dX9_unit_65 mk_X9_wordHere lk_RX9_317 im_X9_wordHere se_X9_wordHere (by decide) e49 rfl (Nat.le_of_ble_eq_true rfl) (Nat.le_of_ble_eq_true rfl) (t_X9_wordHere E _ e47 isR_rfl) ?_
      refine mw_istore dX9_unit_68 (by decide) rfl ?_
      refine mw_iload_n (x := w38) dX9_unit_70 rfl ?_
      obtain ⟨h240, r241, hf⟩ := ob hf
      have J358 : MW E m_X9_unit (d + 3) mc ms 121 [some (vq (some a0)), none, some (vi w38), some (vi x45), some (vi x50), none] [] h240 K := by
        refine mw_aload_n (x := (some a0)) dX9_unit_121 rfl ?_
        obtain ⟨g244, e245, hf⟩ := ob hf
        obtain ⟨x246, h242, e243, hf⟩ := ob1 hf
        refine ml_callV (ci := 8) (mc' := 0) (ms' := 0) [] dX9_unit_122 mk_X9_isGood lk_RX9_51 im_X9_isGood se_X9_isGood (by decide) e245 rfl (Nat.le_of_ble_eq_true rfl) (Nat.le_of_ble_eq_true rfl) (t_X9_isGood E _ e243 isR_rfl) ?_
        refine mw_if_ne (tgt := 130) dX9_unit_125 rfl (fun c247 => ?_) (fun c247 => ?_)
        · rw [if_neg c247] at hf
          refine mw_aload_n (x := (some a0)) dX9_unit_130 rfl ?_
          refine mw_dupq dX9_unit_131 ?_
          obtain ⟨x248, e249, hf⟩ := ob hf
          refine ml_getI dX9_unit_132 fl_RX9_212 rfl e249 ?_
          refine mw_iload_n (x := w38) dX9_unit_135 rfl ?_
          obtain ⟨w251, h252, r253, hf⟩ := ob1 hf
          have J359 : MW E m_X9_unit (d + 3) mc ms 144 [some (vq (some a0)), none, some (vi w38), some (vi x45), some (vi x50), none] [vi w251, vi x248, vq (some a0)] h252 K := by
            refine mw_iadd dX9_unit_144 ?_
            obtain ⟨h254, e255, hf⟩ := ob hf
            refine ml_putI dX9_unit_145 fl_RX9_212 (Or.inl rfl) rfl rfl e255 ?_
            refine mw_iload_n (x := w38) dX9_unit_148 rfl ?_
            refine mw_if_ne (tgt := 156) dX9_unit_149 rfl (fun c256 => ?_) (fun c256 => ?_)
            · rw [if_neg c256] at hf
              refine mw_aload_n (x := (some a0)) dX9_unit_156 rfl ?_
              refine mw_iload_n (x := w38) dX9_unit_157 rfl ?_
              obtain ⟨w258, h259, r260, hf⟩ := ob1 hf
              have J360 : MW E m_X9_unit (d + 3) mc ms 167 [some (vq (some a0)), none, none, none, none, none] [vi w258, vq (some a0)] h259 K := by
                refine mw_bipush (v := 126) dX9_unit_167 (by decide) ?_
                obtain ⟨g263, e264, hf⟩ := ob hf
                obtain ⟨h261, e262, hf⟩ := ob hf
                refine ml_callV (ci := 8) (mc' := 0) (ms' := 0) [vi w258, vi (126 : Int32)] dX9_unit_169 mk_X9_put lk_RX9_294 im_X9_put se_X9_put (by decide) e264 rfl (Nat.le_of_ble_eq_true rfl) (Nat.le_of_ble_eq_true rfl) (t_X9_put E _ e262 isR_rfl) ?_
                refine mw_aload_n (x := (some a0)) dX9_unit_172 rfl ?_
                refine mw_dupq dX9_unit_173 ?_
                obtain ⟨x265, e266, hf⟩ := ob hf
                refine ml_getI dX9_unit_174 fl_RX9_291 rfl e266 ?_
                refine mw_iconst (v := 1) dX9_unit_177 (by decide) ?_
                refine mw_iadd dX9_unit_178 ?_
                obtain ⟨h267, e268, hf⟩ := ob hf
                refine ml_putI dX9_unit_179 fl_RX9_291 (Or.inl rfl) rfl rfl e268 ?_
                refine mw_aload_n (x := (some a0)) dX9_unit_182 rfl ?_
                obtain ⟨g271, e272, hf⟩ := ob hf
                obtain ⟨h269, e270, hf⟩ := ob hf
                refine ml_callV (ci := 8) (mc' := 0) (ms' := 0) [] dX9_unit_183 mk_X9_next lk_RX9_55 im_X9_next se_X9_next (by decide) e272 rfl (Nat.le_of_ble_eq_true rfl) (Nat.le_of_ble_eq_true rfl) (t_X9_next E _ e270 isR_rfl) ?_
                refine mw_iconst (v := 1) dX9_unit_186 (by decide) ?_
                obtain ⟨rfl, rfl⟩ := y1 hf
                exact mw_ireturn dX9_unit_187 rfl rfl hk
              refine mw_if_eq (tgt := 165) dX9_unit_158 rfl (fun c257 => ?_) (fun c257 => ?_)
              · rw [if_pos c257] at r260
                refine mw_bipush (v := 7) dX9_unit_165 (by decide) ?_
                obtain ⟨rfl, rfl⟩ := y1 r260
                exact MW.sub (subL_s (subL_n (subL_n (subL_n (subL_n (subL_n subL_nil)))))) J360
              · rw [if_neg c257] at r260
                refine mw_iconst (v := 3) dX9_unit_161 (by decide) ?_
                refine mw_goto (tgt := 167) dX9_unit_162 rfl ?_
                obtain ⟨rfl, rfl⟩ := y1 r260
                exact MW.sub (subL_s (subL_n (subL_n (subL_n (subL_n (subL_n subL_nil)))))) J360
            · rw [if_pos c256] at hf
              refine mw_iload_n (x := x45) dX9_unit_152 rfl ?_
              refine mw_if_eq (tgt := 188) dX9_unit_153 rfl (fun c273 => ?_) (fun c273 => ?_)
              · rw [if_pos c273] at hf
                refine mw_iload (x := x50) dX9_unit_188 rfl ?_
                obtain ⟨w289, h290, r291, hf⟩ := ob1 hf
                have J361 : MW E m_X9_unit (d + 3) mc ms 204 [some (vq (some a0)), none, none, none, some (vi x50), none] [vi w289] h290 K := by
                  refine mw_istore dX9_unit_204 (by decide) rfl ?_
                  refine mw_aload_n (x := (some a0)) dX9_unit_206 rfl ?_
                  obtain ⟨g294, e295, hf⟩ := ob hf
                  obtain ⟨h292, e293, hf⟩ := ob hf
                  refine ml_callV (ci := 8) (mc' := 0) (ms' := 0) [] dX9_unit_207 mk_X9_next lk_RX9_55 im_X9_next se_X9_next (by decide) e295 rfl (Nat.le_of_ble_eq_true rfl) (Nat.le_of_ble_eq_true rfl) (t_X9_next E _ e293 isR_rfl) ?_
                  refine mw_iload (x := x50) dX9_unit_210 rfl ?_
                  refine mw_bipush (v := 98) dX9_unit_212 (by decide) ?_
                  obtain ⟨w323, h324, r325, hf⟩ := ob1 hf
                  have J362 : MW E m_X9_unit (d + 3) mc ms 237 [some (vq (some a0)), none, none, none, some (vi x50), some (vi w323)] [] h324 K := by
                    refine mw_aload_n (x := (some a0)) dX9_unit_237 rfl ?_
                    obtain ⟨g328, e329, hf⟩ := ob hf
                    obtain ⟨x330, h326, e327, hf⟩ := ob1 hf
                    refine ml_callV (ci := 8) (mc' := 0) (ms' := 0) [] dX9_unit_238 mk_X9_isGood lk_RX9_51 im_X9_isGood se_X9_isGood (by decide) e329 rfl (Nat.le_of_ble_eq_true rfl) (Nat.le_of_ble_eq_true rfl) (t_X9_isGood E _ e327 isR_rfl) ?_
                    refine mw_if_ne (tgt := 246) dX9_unit_241 rfl (fun c331 => ?_) (fun c331 => ?_)
                    · rw [if_neg c331] at hf
                      refine mw_aload_n (x := (some a0)) dX9_unit_246 rfl ?_
                      refine mw_iload (x := x50) dX9_unit_247 rfl ?_
                      obtain ⟨w333, h334, r335, hf⟩ := ob1 hf
                      have J363 : MW E m_X9_unit (d + 3) mc ms 259 [none, none, none, none, none, some (vi w323)] [vi w333, vq (some a0)] h334 K := by
                        refine mw_iload (x := w323) dX9_unit_259 rfl ?_
                        obtain ⟨g338, e339, hf⟩ := ob hf
                        obtain ⟨h336, e337, hf⟩ := ob hf
                        refine ml_callV (ci := 8) (mc' := 0) (ms' := 0) [vi w333, vi w323] dX9_unit_261 mk_X9_step lk_RX9_320 im_X9_step se_X9_step (by decide) e339 rfl (Nat.le_of_ble_eq_true rfl) (Nat.le_of_ble_eq_true rfl) (t_X9_step E _ e337 isR_rfl) ?_
                        refine mw_iconst (v := 0) dX9_unit_264 (by decide) ?_
                        obtain ⟨rfl, rfl⟩ := y1 hf
                        exact mw_ireturn dX9_unit_265 rfl rfl hk
                      refine mw_if_ne (tgt := 257) dX9_unit_249 rfl (fun c332 => ?_) (fun c332 => ?_)
                      · rw [if_neg c332] at r335
                        refine mw_iload (x := x50) dX9_unit_257 rfl ?_
                        obtain ⟨rfl, rfl⟩ := y1 r335
                        exact MW.sub (subL_n (subL_n (subL_n (subL_n (subL_n (subL_s subL_nil)))))) J363
                      · rw [if_pos c332] at r335
                        refine mw_bipush (v := 110) dX9_unit_252 (by decide) ?_
                        refine mw_goto (tgt := 259) dX9_unit_254 rfl ?_
                        obtain ⟨rfl, rfl⟩ := y1 r335
                        exact MW.sub (subL_n (subL_n (subL_n (subL_n (subL_n (subL_s subL_nil)))))) J363
                    · rw [if_pos c331] at hf
                      refine mw_iconst (v := 1) dX9_unit_244 (by decide) ?_
                      obtain ⟨rfl, rfl⟩ := y1 hf
                      exact mw_ireturn dX9_unit_245 rfl rfl hk
                  refine mw_icmp_ne (tgt := 237) dX9_unit_214 rfl (fun c296 => ?_) (fun c296 => ?_)
                  · rw [if_neg c296] at r325
                    obtain ⟨rfl, rfl⟩ := y1 r325
                    exact MW.sub (subL_s (subL_n (subL_n (subL_n (subL_s (subL_s subL_nil)))))) J362
                  · rw [if_pos c296] at r325
                    refine mw_aload_n (x := (some a0)) dX9_unit_217 rfl ?_
                    obtain ⟨g312, e313, r325⟩ := ob r325
                    obtain ⟨x314, h310, e311, r325⟩ := ob1 r325
                    refine ml_callV (ci := 8) (mc' := 0) (ms' := 0) [] dX9_unit_218 mk_X9_kindHere lk_RX9_282 im_X9_kindHere se_X9_kindHere (by decide) e313 rfl (Nat.le_of_ble_eq_true rfl) (Nat.le_of_ble_eq_true rfl) (t_X9_kindHere E _ e311 isR_rfl) ?_
                    refine mw_istore dX9_unit_221 (by decide) rfl ?_
                    refine mw_aload_n (x := (some a0)) dX9_unit_223 rfl ?_
                    refine mw_iload (x := x314) dX9_unit_224 rfl ?_
                    obtain ⟨w316, h317, r318, r325⟩ := ob1 r325
                    have J364 : MW E m_X9_unit (d + 3) mc ms 234 [some (vq (some a0)), none, none, none, some (vi x50), some (vi x314)] [vi w316, vq (some a0)] h317 K := by
                      obtain ⟨g321, e322, r325⟩ := ob r325
                      obtain ⟨h319, e320, r325⟩ := ob r325
                      refine ml_callV (ci := 8) (mc' := 0) (ms' := 0) [vi w316] dX9_unit_234 mk_X9_must lk_RX9_269 im_X9_must se_X9_must (by decide) e322 rfl (Nat.le_of_ble_eq_true rfl) (Nat.le_of_ble_eq_true rfl) (t_X9_must E _ e320 isR_rfl) ?_
                      obtain ⟨rfl, rfl⟩ := y1 r325
                      exact MW.sub (subL_s (subL_n (subL_n (subL_n (subL_s (subL_s subL_nil)))))) J362
                    refine mw_if_lt (tgt := 233) dX9_unit_226 rfl (fun c315 => ?_) (fun c315 => ?_)
                    · rw [if_pos c315] at r318
                      refine mw_iconst (v := 0) dX9_unit_233 (by decide) ?_
                      obtain ⟨rfl, rfl⟩ := y1 r318
                      exact MW.sub (subL_s (subL_n (subL_n (subL_n (subL_s (subL_s subL_nil)))))) J364
                    · rw [if_neg c315] at r318
                      refine mw_iconst (v := 1) dX9_unit_229 (by decide) ?_
                      refine mw_goto (tgt := 234) dX9_unit_230 rfl ?_
                      obtain ⟨rfl, rfl⟩ := y1 r318
                      exact MW.sub (subL_s (subL_n (subL_n (subL_n (subL_s (subL_s subL_nil)))))) J364
                refine mw_if_ne (tgt := 200) dX9_unit_190 rfl (fun c274 => ?_) (fun c274 => ?_)
                · rw [if_neg c274] at r291
                  refine mw_aload_n (x := (some a0)) dX9_unit_200 rfl ?_
                  obtain ⟨g284, e285, r291⟩ := ob r291
                  obtain ⟨x286, h282, e283, r291⟩ := ob1 r291
                  refine ml_callV (ci := 8) (mc' := 0) (ms' := 0) [] dX9_unit_201 mk_X9_kindHere lk_RX9_282 im_X9_kindHere se_X9_kindHere (by decide) e285 rfl (Nat.le_of_ble_eq_true rfl) (Nat.le_of_ble_eq_true rfl) (t_X9_kindHere E _ e283 isR_rfl) ?_
                  obtain ⟨rfl, rfl⟩ := y1 r291
                  exact MW.sub (subL_s (subL_n (subL_n (subL_n (subL_s (subL_n subL_nil)))))) J361
                · rw [if_pos c274] at r291
                  refine mw_aload_n (x := (some a0)) dX9_unit_193 rfl ?_
                  obtain ⟨x287, e288, r291⟩ := ob r291
                  refine ml_getI dX9_unit_194 fl_RX9_41 rfl e288 ?_
                  refine mw_goto (tgt := 204) dX9_unit_197 rfl ?_
                  obtain ⟨rfl, rfl⟩ := y1 r291
                  exact MW.sub (subL_s (subL_n (subL_n (subL_n (subL_s (subL_n subL_nil)))))) J361
              · rw [if_neg c273] at hf
                refine mw_aload_n (x := (some a0)) dX9_unit_156 rfl ?_
                refine mw_iload_n (x := w38) dX9_unit_157 rfl ?_
                obtain ⟨w341, h342, r343, hf⟩ := ob1 hf
                have J365 : MW E m_X9_unit (d + 3) mc ms 167 [some (vq (some a0)), none, none, none, none, none] [vi w341, vq (some a0)] h342 K := by
                  refine mw_bipush (v := 126) dX9_unit_167 (by decide) ?_
                  obtain ⟨g346, e347, hf⟩ := ob hf
                  obtain ⟨h344, e345, hf⟩ := ob hf
                  refine ml_callV (ci := 8) (mc' := 0) (ms' := 0) [vi w341, vi (126 : Int32)] dX9_unit_169 mk_X9_put lk_RX9_294 im_X9_put se_X9_put (by decide) e347 rfl (Nat.le_of_ble_eq_true rfl) (Nat.le_of_ble_eq_true rfl) (t_X9_put E _ e345 isR_rfl) ?_
                  refine mw_aload_n (x := (some a0)) dX9_unit_172 rfl ?_
                  refine mw_dupq dX9_unit_173 ?_
                  obtain ⟨x348, e349, hf⟩ := ob hf
                  refine ml_getI dX9_unit_174 fl_RX9_291 rfl e349 ?_
                  refine mw_iconst (v := 1) dX9_unit_177 (by decide) ?_
                  refine mw_iadd dX9_unit_178 ?_
                  obtain ⟨h350, e351, hf⟩ := ob hf
                  refine ml_putI dX9_unit_179 fl_RX9_291 (Or.inl rfl) rfl rfl e351 ?_
                  refine mw_aload_n (x := (some a0)) dX9_unit_182 rfl ?_
                  obtain ⟨g354, e355, hf⟩ := ob hf
                  obtain ⟨h352, e353, hf⟩ := ob hf
                  refine ml_callV (ci := 8) (mc' := 0) (ms' := 0) [] dX9_unit_183 mk_X9_next lk_RX9_55 im_X9_next se_X9_next (by decide) e355 rfl (Nat.le_of_ble_eq_true rfl) (Nat.le_of_ble_eq_true rfl) (t_X9_next E _ e353 isR_rfl) ?_
                  refine mw_iconst (v := 1) dX9_unit_186 (by decide) ?_
                  obtain ⟨rfl, rfl⟩ := y1 hf
                  exact mw_ireturn dX9_unit_187 rfl rfl hk
                refine mw_if_eq (tgt := 165) dX9_unit_158 rfl (fun c340 => ?_) (fun c340 => ?_)
                · rw [if_pos c340] at r343
                  refine mw_bipush (v := 7) dX9_unit_165 (by decide) ?_
                  obtain ⟨rfl, rfl⟩ := y1 r343
                  exact MW.sub (subL_s (subL_n (subL_n (subL_n (subL_n (subL_n subL_nil)))))) J365
                · rw [if_neg c340] at r343
                  refine mw_iconst (v := 3) dX9_unit_161 (by decide) ?_
                  refine mw_goto (tgt := 167) dX9_unit_162 rfl ?_
                  obtain ⟨rfl, rfl⟩ := y1 r343
                  exact MW.sub (subL_s (subL_n (subL_n (subL_n (subL_n (subL_n subL_nil)))))) J365
          refine mw_if_eq (tgt := 143) dX9_unit_136 rfl (fun c250 => ?_) (fun c250 => ?_)
          · rw [if_pos c250] at r253
            refine mw_iconst (v := 1) dX9_unit_143 (by decide) ?_
            obtain ⟨rfl, rfl⟩ := y1 r253
            exact MW.sub (subL_s (subL_n (subL_s (subL_s (subL_s (subL_n subL_nil)))))) J359
          · rw [if_neg c250] at r253
            refine mw_iconst (v := 0) dX9_unit_139 (by decide) ?_
            refine mw_goto (tgt := 144) dX9_unit_140 rfl ?_
            obtain ⟨rfl, rfl⟩ := y1 r253
            exact MW.sub (subL_s (subL_n (subL_s (subL_s (subL_s (subL_n subL_nil)))))) J359
        · rw [if_pos c247] at hf
          refine mw_iconst (v := 1) dX9_unit_128 (by decide) ?_
          obtain ⟨rfl, rfl⟩ := y1 hf
          exact mw_ireturn dX9_unit_129 rfl rfl hk
      refine mw_if_ne (tgt := 100) dX9_unit_71 rfl (fun c51 => ?_) (fun c51 => ?_)
      · rw [if_neg c51] at r241
        refine mw_iload_n (x := w38) dX9_unit_100 rfl ?_
        refine mw_if_ne (tgt := 108) dX9_unit_101 rfl (fun c146 => ?_) (fun c146 => ?_)
        · rw [if_neg c146] at r241
          refine mw_aload_n (x := (some a0)) dX9_unit_108 rfl ?_
          obtain ⟨x147, e148, r241⟩ := ob r241
          refine ml_getI dX9_unit_109 fl_RX9_291 rfl e148 ?_
          refine mw_bipush (v := 7) dX9_unit_112 (by decide) ?_
          refine mw_icmp_ne (tgt := 121) dX9_unit_114 rfl (fun c149 => ?_) (fun c149 => ?_)
          · rw [if_neg c149] at r241
            obtain rfl := y0 r241
            exact MW.sub (subL_s (subL_n (subL_s (subL_s (subL_s (subL_n subL_nil)))))) J358
          · rw [if_pos c149] at r241
            refine mw_aload_n (x := (some a0)) dX9_unit_117 rfl ?_
            obtain ⟨g152, e153, r241⟩ := ob r241
            obtain ⟨h150, e151, r241⟩ := ob r241
            refine ml_callV (ci := 8) (mc' := 0) (ms' := 0) [] dX9_unit_118 mk_X9_wrong lk_RX9_59 im_X9_wrong se_X9_wrong (by decide) e153 rfl (Nat.le_of_ble_eq_true rfl) (Nat.le_of_ble_eq_true rfl) (t_X9_wrong E _ e151 isR_rfl) ?_
            obtain rfl := y0 r241
            exact MW.sub (subL_s (subL_n (subL_s (subL_s (subL_s (subL_n subL_nil)))))) J358
        · rw [if_pos c146] at r241
          refine mw_iload_n (x := x45) dX9_unit_104 rfl ?_
          refine mw_if_eq (tgt := 121) dX9_unit_105 rfl (fun c154 => ?_) (fun c154 => ?_)
          · rw [if_pos c154] at r241
            obtain rfl := y0 r241
            exact MW.sub (subL_s (subL_n (subL_s (subL_s (subL_s (subL_n subL_nil)))))) J358
          · rw [if_neg c154] at r241
            refine mw_aload_n (x := (some a0)) dX9_unit_108 rfl ?_
            obtain ⟨x155, e156, r241⟩ := ob r241
            refine ml_getI dX9_unit_109 fl_RX9_291 rfl e156 ?_
            refine mw_bipush (v := 7) dX9_unit_112 (by decide) ?_
            refine mw_icmp_ne (tgt := 121) dX9_unit_114 rfl (fun c157 => ?_) (fun c157 => ?_)
            · rw [if_neg c157] at r241
              obtain rfl := y0 r241
              exact MW.sub (subL_s (subL_n (subL_s (subL_s (subL_s (subL_n subL_nil)))))) J358
            · rw [if_pos c157] at r241
              refine mw_aload_n (x := (some a0)) dX9_unit_117 rfl ?_
              obtain ⟨g160, e161, r241⟩ := ob r241
              obtain ⟨h158, e159, r241⟩ := ob r241
              refine ml_callV (ci := 8) (mc' := 0) (ms' := 0) [] dX9_unit_118 mk_X9_wrong lk_RX9_59 im_X9_wrong se_X9_wrong (by decide) e161 rfl (Nat.le_of_ble_eq_true rfl) (Nat.le_of_ble_eq_true rfl) (t_X9_wrong E _ e159 isR_rfl) ?_
              obtain rfl := y0 r241
              exact MW.sub (subL_s (subL_n (subL_s (subL_s (subL_s (subL_n subL_nil)))))) J358
      · rw [if_pos c51] at r241
        refine mw_iload (x := x50) dX9_unit_74 rfl ?_
        refine mw_if_ne (tgt := 91) dX9_unit_76 rfl (fun c162 => ?_) (fun c162 => ?_)
        · rw [if_neg c162] at r241
          refine mw_aload_n (x := (some a0)) dX9_unit_91 rfl ?_
          obtain ⟨x163, e164, r241⟩ := ob r241
          refine ml_getI dX9_unit_92 fl_RX9_212 rfl e164 ?_
          refine mw_bipush (v := 80) dX9_unit_95 (by decide) ?_
          refine mw_icmp_eq (tgt := 117) dX9_unit_97 rfl (fun c165 => ?_) (fun c165 => ?_)
          · rw [if_pos c165] at r241
            refine mw_aload_n (x := (some a0)) dX9_unit_117 rfl ?_
            obtain ⟨g168, e169, r241⟩ := ob r241
            obtain ⟨h166, e167, r241⟩ := ob r241
            refine ml_callV (ci := 8) (mc' := 0) (ms' := 0) [] dX9_unit_118 mk_X9_wrong lk_RX9_59 im_X9_wrong se_X9_wrong (by decide) e169 rfl (Nat.le_of_ble_eq_true rfl) (Nat.le_of_ble_eq_true rfl) (t_X9_wrong E _ e167 isR_rfl) ?_
            obtain rfl := y0 r241
            exact MW.sub (subL_s (subL_n (subL_s (subL_s (subL_s (subL_n subL_nil)))))) J358
          · rw [if_neg c165] at r241
            refine mw_iload_n (x := w38) dX9_unit_100 rfl ?_
            refine mw_if_ne (tgt := 108) dX9_unit_101 rfl (fun c170 => ?_) (fun c170 => ?_)
            · rw [if_neg c170] at r241
              refine mw_aload_n (x := (some a0)) dX9_unit_108 rfl ?_
              obtain ⟨x171, e172, r241⟩ := ob r241
              refine ml_getI dX9_unit_109 fl_RX9_291 rfl e172 ?_
              refine mw_bipush (v := 7) dX9_unit_112 (by decide) ?_
              refine mw_icmp_ne (tgt := 121) dX9_unit_114 rfl (fun c173 => ?_) (fun c173 => ?_)
              · rw [if_neg c173] at r241
                obtain rfl := y0 r241
                exact MW.sub (subL_s (subL_n (subL_s (subL_s (subL_s (subL_n subL_nil)))))) J358
              · rw [if_pos c173] at r241
                refine mw_aload_n (x := (some a0)) dX9_unit_117 rfl ?_
                obtain ⟨g176, e177, r241⟩ := ob r241
                obtain ⟨h174, e175, r241⟩ := ob r241
                refine ml_callV (ci := 8) (mc' := 0) (ms' := 0) [] dX9_unit_118 mk_X9_wrong lk_RX9_59 im_X9_wrong se_X9_wrong (by decide) e177 rfl (Nat.le_of_ble_eq_true rfl) (Nat.le_of_ble_eq_true rfl) (t_X9_wrong E _ e175 isR_rfl) ?_
                obtain rfl := y0 r241
                exact MW.sub (subL_s (subL_n (subL_s (subL_s (subL_s (subL_n subL_nil)))))) J358
            · rw [if_pos c170] at r241
              refine mw_iload_n (x := x45) dX9_unit_104 rfl ?_
              refine mw_if_eq (tgt := 121) dX9_unit_105 rfl (fun c178 => ?_) (fun c178 => ?_)
              · rw [if_pos c178] at r241
                obtain rfl := y0 r241
                exact MW.sub (subL_s (subL_n (subL_s (subL_s (subL_s (subL_n subL_nil)))))) J358
              · rw [if_neg c178] at r241
                refine mw_aload_n (x := (some a0)) dX9_unit_108 rfl ?_
                obtain ⟨x179, e180, r241⟩ := ob r241
                refine ml_getI dX9_unit_109 fl_RX9_291 rfl e180 ?_
                refine mw_bipush (v := 7) dX9_unit_112 (by decide) ?_
                refine mw_icmp_ne (tgt := 121) dX9_unit_114 rfl (fun c181 => ?_) (fun c181 => ?_)
                · rw [if_neg c181] at r241
                  obtain rfl := y0 r241
                  exact MW.sub (subL_s (subL_n (subL_s (subL_s (subL_s (subL_n subL_nil)))))) J358
                · rw [if_pos c181] at r241
                  refine mw_aload_n (x := (some a0)) dX9_unit_117 rfl ?_
                  obtain ⟨g184, e185, r241⟩ := ob r241
                  obtain ⟨h182, e183, r241⟩ := ob r241
                  refine ml_callV (ci := 8) (mc' := 0) (ms' := 0) [] dX9_unit_118 mk_X9_wrong lk_RX9_59 im_X9_wrong se_X9_wrong (by decide) e185 rfl (Nat.le_of_ble_eq_true rfl) (Nat.le_of_ble_eq_true rfl) (t_X9_wrong E _ e183 isR_rfl) ?_
                  obtain rfl := y0 r241
                  exact MW.sub (subL_s (subL_n (subL_s (subL_s (subL_s (subL_n subL_nil)))))) J358
        · rw [if_pos c162] at r241
          refine mw_aload_n (x := (some a0)) dX9_unit_79 rfl ?_
          obtain ⟨x186, e187, r241⟩ := ob r241
          refine ml_getI dX9_unit_80 fl_RX9_27 rfl e187 ?_
          refine mw_iconst (v := 3) dX9_unit_83 (by decide) ?_
          refine mw_icmp_eq (tgt := 91) dX9_unit_84 rfl (fun c188 => ?_) (fun c188 => ?_)
          · rw [if_pos c188] at r241
            refine mw_aload_n (x := (some a0)) dX9_unit_91 rfl ?_
            obtain ⟨x189, e190, r241⟩ := ob r241
            refine ml_getI dX9_unit_92 fl_RX9_212 rfl e190 ?_
            refine mw_bipush (v := 80) dX9_unit_95 (by decide) ?_
            refine mw_icmp_eq (tgt := 117) dX9_unit_97 rfl (fun c191 => ?_) (fun c191 => ?_)
            · rw [if_pos c191] at r241
              refine mw_aload_n (x := (some a0)) dX9_unit_117 rfl ?_
              obtain ⟨g194, e195, r241⟩ := ob r241
              obtain ⟨h192, e193, r241⟩ := ob r241
              refine ml_callV (ci := 8) (mc' := 0) (ms' := 0) [] dX9_unit_118 mk_X9_wrong lk_RX9_59 im_X9_wrong se_X9_wrong (by decide) e195 rfl (Nat.le_of_ble_eq_true rfl) (Nat.le_of_ble_eq_true rfl) (t_X9_wrong E _ e193 isR_rfl) ?_
              obtain rfl := y0 r241
              exact MW.sub (subL_s (subL_n (subL_s (subL_s (subL_s (subL_n subL_nil)))))) J358
            · rw [if_neg c191] at r241
              refine mw_iload_n (x := w38) dX9_unit_100 rfl ?_
              refine mw_if_ne (tgt := 108) dX9_unit_101 rfl (fun c196 => ?_) (fun c196 => ?_)
              · rw [if_neg c196] at r241
                refine mw_aload_n (x := (some a0)) dX9_unit_108 rfl ?_
                obtain ⟨x197, e198, r241⟩ := ob r241
                refine ml_getI dX9_unit_109 fl_RX9_291 rfl e198 ?_
                refine mw_bipush (v := 7) dX9_unit_112 (by decide) ?_
                refine mw_icmp_ne (tgt := 121) dX9_unit_114 rfl (fun c199 => ?_) (fun c199 => ?_)
                · rw [if_neg c199] at r241
                  obtain rfl := y0 r241
                  exact MW.sub (subL_s (subL_n (subL_s (subL_s (subL_s (subL_n subL_nil)))))) J358
                · rw [if_pos c199] at r241
                  refine mw_aload_n (x := (some a0)) dX9_unit_117 rfl ?_
                  obtain ⟨g202, e203, r241⟩ := ob r241
                  obtain ⟨h200, e201, r241⟩ := ob r241
                  refine ml_callV (ci := 8) (mc' := 0) (ms' := 0) [] dX9_unit_118 mk_X9_wrong lk_RX9_59 im_X9_wrong se_X9_wrong (by decide) e203 rfl (Nat.le_of_ble_eq_true rfl) (Nat.le_of_ble_eq_true rfl) (t_X9_wrong E _ e201 isR_rfl) ?_
                  obtain rfl := y0 r241
                  exact MW.sub (subL_s (subL_n (subL_s (subL_s (subL_s (subL_n subL_nil)))))) J358
              · rw [if_pos c196] at r241
                refine mw_iload_n (x := x45) dX9_unit_104 rfl ?_
                refine mw_if_eq (tgt := 121) dX9_unit_105 rfl (fun c204 => ?_) (fun c204 => ?_)
                · rw [if_pos c204] at r241
                  obtain rfl := y0 r241
                  exact MW.sub (subL_s (subL_n (subL_s (subL_s (subL_s (subL_n subL_nil)))))) J358
                · rw [if_neg c204] at r241
                  refine mw_aload_n (x := (some a0)) dX9_unit_108 rfl ?_
                  obtain ⟨x205, e206, r241⟩ := ob r241
                  refine ml_getI dX9_unit_109 fl_RX9_291 rfl e206 ?_
                  refine mw_bipush (v := 7) dX9_unit_112 (by decide) ?_
                  refine mw_icmp_ne (tgt := 121) dX9_unit_114 rfl (fun c207 => ?_) (fun c207 => ?_)
                  · rw [if_neg c207] at r241
                    obtain rfl := y0 r241
                    exact MW.sub (subL_s (subL_n (subL_s (subL_s (subL_s (subL_n subL_nil)))))) J358
                  · rw [if_pos c207] at r241
                    refine mw_aload_n (x := (some a0)) dX9_unit_117 rfl ?_
                    obtain ⟨g210, e211, r241⟩ := ob r241
                    obtain ⟨h208, e209, r241⟩ := ob r241
                    refine ml_callV (ci := 8) (mc' := 0) (ms' := 0) [] dX9_unit_118 mk_X9_wrong lk_RX9_59 im_X9_wrong se_X9_wrong (by decide) e211 rfl (Nat.le_of_ble_eq_true rfl) (Nat.le_of_ble_eq_true rfl) (t_X9_wrong E _ e209 isR_rfl) ?_
                    obtain rfl := y0 r241
                    exact MW.sub (subL_s (subL_n (subL_s (subL_s (subL_s (subL_n subL_nil)))))) J358
          · rw [if_neg c188] at r241
            refine mw_iload_n (x := x45) dX9_unit_87 rfl ?_
            refine mw_if_eq (tgt := 117) dX9_unit_88 rfl (fun c212 => ?_) (fun c212 => ?_)
            · rw [if_pos c212] at r241
              refine mw_aload_n (x := (some a0)) dX9_unit_117 rfl ?_
              obtain ⟨g215, e216, r241⟩ := ob r241
              obtain ⟨h213, e214, r241⟩ := ob r241
              refine ml_callV (ci := 8) (mc' := 0) (ms' := 0) [] dX9_unit_118 mk_X9_wrong lk_RX9_59 im_X9_wrong se_X9_wrong (by decide) e216 rfl (Nat.le_of_ble_eq_true rfl) (Nat.le_of_ble_eq_true rfl) (t_X9_wrong E _ e214 isR_rfl) ?_
              obtain rfl := y0 r241
              exact MW.sub (subL_s (subL_n (subL_s (subL_s (subL_s (subL_n subL_nil)))))) J358
            · rw [if_neg c212] at r241
              refine mw_aload_n (x := (some a0)) dX9_unit_91 rfl ?_
              obtain ⟨x217, e218, r241⟩ := ob r241
              refine ml_getI dX9_unit_92 fl_RX9_212 rfl e218 ?_
              refine mw_bipush (v := 80) dX9_unit_95 (by decide) ?_
              refine mw_icmp_eq (tgt := 117) dX9_unit_97 rfl (fun c219 => ?_) (fun c219 => ?_)
              · rw [if_pos c219] at r241
                refine mw_aload_n (x := (some a0)) dX9_unit_117 rfl ?_
                obtain ⟨g222, e223, r241⟩ := ob r241
                obtain ⟨h220, e221, r241⟩ := ob r241
                refine ml_callV (ci := 8) (mc' := 0) (ms' := 0) [] dX9_unit_118 mk_X9_wrong lk_RX9_59 im_X9_wrong se_X9_wrong (by decide) e223 rfl (Nat.le_of_ble_eq_true rfl) (Nat.le_of_ble_eq_true rfl) (t_X9_wrong E _ e221 isR_rfl) ?_
                obtain rfl := y0 r241
                exact MW.sub (subL_s (subL_n (subL_s (subL_s (subL_s (subL_n subL_nil)))))) J358
              · rw [if_neg c219] at r241
                refine mw_iload_n (x := w38) dX9_unit_100 rfl ?_
                refine mw_if_ne (tgt := 108) dX9_unit_101 rfl (fun c224 => ?_) (fun c224 => ?_)
                · rw [if_neg c224] at r241
                  refine mw_aload_n (x := (some a0)) dX9_unit_108 rfl ?_
                  obtain ⟨x225, e226, r241⟩ := ob r241
                  refine ml_getI dX9_unit_109 fl_RX9_291 rfl e226 ?_
                  refine mw_bipush (v := 7) dX9_unit_112 (by decide) ?_
                  refine mw_icmp_ne (tgt := 121) dX9_unit_114 rfl (fun c227 => ?_) (fun c227 => ?_)
                  · rw [if_neg c227] at r241
                    obtain rfl := y0 r241
                    exact MW.sub (subL_s (subL_n (subL_s (subL_s (subL_s (subL_n subL_nil)))))) J358
                  · rw [if_pos c227] at r241
                    refine mw_aload_n (x := (some a0)) dX9_unit_117 rfl ?_
                    obtain ⟨g230, e231, r241⟩ := ob r241
                    obtain ⟨h228, e229, r241⟩ := ob r241
                    refine ml_callV (ci := 8) (mc' := 0) (ms' := 0) [] dX9_unit_118 mk_X9_wrong lk_RX9_59 im_X9_wrong se_X9_wrong (by decide) e231 rfl (Nat.le_of_ble_eq_true rfl) (Nat.le_of_ble_eq_true rfl) (t_X9_wrong E _ e229 isR_rfl) ?_
                    obtain rfl := y0 r241
                    exact MW.sub (subL_s (subL_n (subL_s (subL_s (subL_s (subL_n subL_nil)))))) J358
                · rw [if_pos c224] at r241
                  refine mw_iload_n (x := x45) dX9_unit_104 rfl ?_
                  refine mw_if_eq (tgt := 121) dX9_unit_105 rfl (fun c232 => ?_) (fun c232 => ?_)
                  · rw [if_pos c232] at r241
                    obtain rfl := y0 r241
                    exact MW.sub (subL_s (subL_n (subL_s (subL_s (subL_s (subL_n subL_nil)))))) J358
                  · rw [if_neg c232] at r241
                    refine mw_aload_n (x := (some a0)) dX9_unit_108 rfl ?_
                    obtain ⟨x233, e234, r241⟩ := ob r241
                    refine ml_getI dX9_unit_109 fl_RX9_291 rfl e234 ?_
                    refine mw_bipush (v := 7) dX9_unit_112 (by decide) ?_
                    refine mw_icmp_ne (tgt := 121) dX9_unit_114 rfl (fun c235 => ?_) (fun c235 => ?_)
                    · rw [if_neg c235] at r241
                      obtain rfl := y0 r241
                      exact MW.sub (subL_s (subL_n (subL_s (subL_s (subL_s (subL_n subL_nil)))))) J358
                    · rw [if_pos c235] at r241
                      refine mw_aload_n (x := (some a0)) dX9_unit_117 rfl ?_
                      obtain ⟨g238, e239, r241⟩ := ob r241
                      obtain ⟨h236, e237, r241⟩ := ob r241
                      refine ml_callV (ci := 8) (mc' := 0) (ms' := 0) [] dX9_unit_118 mk_X9_wrong lk_RX9_59 im_X9_wrong se_X9_wrong (by decide) e239 rfl (Nat.le_of_ble_eq_true rfl) (Nat.le_of_ble_eq_true rfl) (t_X9_wrong E _ e237 isR_rfl) ?_
                      obtain rfl := y0 r241
                      exact MW.sub (subL_s (subL_n (subL_s (subL_s (subL_s (subL_n subL_nil)))))) J358
    refine mw_if_eq (tgt := 55) dX9_unit_38 rfl (fun c25 => ?_) (fun c25 => ?_)
    · rw [if_pos c25] at r40
      refine mw_iconst (v := 0) dX9_unit_55 (by decide) ?_
      obtain ⟨rfl, rfl⟩ := y1 r40
      exact MW.sub (subL_s (subL_n (subL_n (subL_n (subL_n (subL_n subL_nil)))))) J357
    · rw [if_neg c25] at r40
      refine mw_aload_n (x := (some a0)) dX9_unit_41 rfl ?_
      refine mw_ldc2 dX9_unit_42 kc_RX9_315 ?_
      obtain ⟨g34, e35, r40⟩ := ob r40
      obtain ⟨x36, h32, e33, r40⟩ := ob1 r40
      refine ml_callV (ci := 8) (mc' := 0) (ms' := 0) [vl 7237492] dX9_unit_45 mk_X9_isWord lk_RX9_223 im_X9_isWord se_X9_isWord (by decide) e35 rfl (Nat.le_of_ble_eq_true rfl) (Nat.le_of_ble_eq_true rfl) (t_X9_isWord E _ e33 isR_rfl) ?_
      refine mw_if_eq (tgt := 55) dX9_unit_48 rfl (fun c37 => ?_) (fun c37 => ?_)
      · rw [if_pos c37] at r40
        refine mw_iconst (v := 0) dX9_unit_55 (by decide) ?_
        obtain ⟨rfl, rfl⟩ := y1 r40
        exact MW.sub (subL_s (subL_n (subL_n (subL_n (subL_n (subL_n subL_nil)))))) J357
      · rw [if_neg c37] at r40
        refine mw_iconst (v := 1) dX9_unit_51 (by decide) ?_
        refine mw_goto (tgt := 56) dX9_unit_52 rfl ?_
        obtain ⟨rfl, rfl⟩ := y1 r40
        exact MW.sub (subL_s (subL_n (subL_n (subL_n (subL_n (subL_n subL_nil)))))) J357
  refine mw_icmp_le (tgt := 31) dX9_unit_12 rfl (fun c7 => ?_) (fun c7 => ?_)
  · rw [if_pos c7] at r24
    refine mw_iconst (v := 1) dX9_unit_31 (by decide) ?_
    refine mw_goto (tgt := 36) dX9_unit_32 rfl ?_
    obtain ⟨rfl, rfl⟩ := y1 r24
    exact MW.sub (subL_s (subL_n (subL_n (subL_n (subL_n (subL_n subL_nil)))))) J356
  · rw [if_neg c7] at r24
    refine mw_aload_n (x := (some a0)) dX9_unit_15 rfl ?_
    obtain ⟨x15, e16, r24⟩ := ob r24
    refine ml_getQ dX9_unit_16 fl_RX9_108 rfl e16 ?_
    refine mw_aload_n (x := (some a0)) dX9_unit_19 rfl ?_
    obtain ⟨x17, e18, r24⟩ := ob r24
    refine ml_getI dX9_unit_20 fl_RX9_288 rfl e18 ?_
    refine mw_iconst (v := 1) dX9_unit_23 (by decide) ?_
    refine mw_isub dX9_unit_24 ?_
    obtain ⟨x19, e20, r24⟩ := ob r24
    refine ml_iald dX9_unit_25 e20 ?_
    refine mw_bipush (v := 7) dX9_unit_26 (by decide) ?_
    refine mw_icmp_lt (tgt := 35) dX9_unit_28 rfl (fun c21 => ?_) (fun c21 => ?_)
    · rw [if_pos c21] at r24
      refine mw_iconst (v := 0) dX9_unit_35 (by decide) ?_
      obtain ⟨rfl, rfl⟩ := y1 r24
      exact MW.sub (subL_s (subL_n (subL_n (subL_n (subL_n (subL_n subL_nil)))))) J356
    · rw [if_neg c21] at r24
      refine mw_iconst (v := 1) dX9_unit_31 (by decide) ?_
      refine mw_goto (tgt := 36) dX9_unit_32 rfl ?_
      obtain ⟨rfl, rfl⟩ := y1 r24
      exact MW.sub (subL_s (subL_n (subL_n (subL_n (subL_n (subL_n subL_nil)))))) J356
def f_X9_rankHere (a0 : Nat) (h : Hp) : Option (Int32 × Hp) :=
  (rc h (some a0) 8).bind fun g3 =>
  b1 (f_X9_isWord g3 6385252 h) fun x5 h1 =>
  if x5 = (0 : Int32) then
    (rc h1 (some a0) 8).bind fun g9 =>
    b1 (f_X9_isWord g9 28530 h1) fun x11 h7 =>
    if x11 = (0 : Int32) then
      (rc h7 (some a0) 8).bind fun g15 =>
      b1 (f_X9_is g15 (60 : Int32) h7) fun x17 h13 =>
      if x17 = (0 : Int32) then
        (rc h13 (some a0) 8).bind fun g21 =>
        b1 (f_X9_is g21 (62 : Int32) h13) fun x23 h19 =>
        if x23 = (0 : Int32) then
          (rc h19 (some a0) 8).bind fun g27 =>
          b1 (f_X9_is g27 (61 : Int32) h19) fun x29 h25 =>
          if x29 = (0 : Int32) then
            (rc h25 (some a0) 8).bind fun g33 =>
            b1 (f_X9_is g33 (43 : Int32) h25) fun x35 h31 =>
            if x35 = (0 : Int32) then
              (rc h31 (some a0) 8).bind fun g39 =>
              b1 (f_X9_is g39 (45 : Int32) h31) fun x41 h37 =>
              if x41 = (0 : Int32) then
                (rc h37 (some a0) 8).bind fun g45 =>
                b1 (f_X9_is g45 (42 : Int32) h37) fun x47 h43 =>
                b1 ((if x47 = (0 : Int32) then
                    (rc h43 (some a0) 8).bind fun g57 =>
                    b1 (f_X9_is g57 (47 : Int32) h43) fun x59 h55 =>
                    if x59 = (0 : Int32) then
                      some (0, h55)
                    else
                      some (6, h55)
                  else
                    some (6, h43) : Option (Int32 × Hp))) fun w61 h62 =>
                some (w61, h62)
              else
                some (5, h37)
            else
              some (5, h31)
          else
            some (4, h25)
        else
          some (4, h19)
      else
        some (4, h13)
    else
      some (1, h7)
  else
    some (2, h1)
set_option maxHeartbeats 4000000 in
theorem t_X9_rankHere (E : En) (d : Nat) {mc ms : Nat} {a0 : Nat} {h h' : Hp} {r : Int32} {K : Option Vv → Hp → Prop} (hf : f_X9_rankHere a0 h = some (r, h')) (hk : K (some (vi r)) h') : MC E m_X9_rankHere (d + 2) mc ms [vq (some a0)] h K := by
  unfold f_X9_rankHere at hf
  show MW E m_X9_rankHere (d + 2) mc ms 0 [some (vq (some a0))] [] h K
  refine mw_aload_n (x := (some a0)) dX9_rankHere_0 rfl ?_
  refine mw_ldc2 dX9_rankHere_1 kc_RX9_323 ?_
  obtain ⟨g3, e4, hf⟩ := ob hf
  obtain ⟨x5, h1, e2, hf⟩ := ob1 hf
  refine ml_callV (ci := 8) (mc' := 0) (ms' := 0) [vl 6385252] dX9_rankHere_4 mk_X9_isWord lk_RX9_223 im_X9_isWord se_X9_isWord (by decide) e4 rfl (Nat.le_of_ble_eq_true rfl) (Nat.le_of_ble_eq_true rfl) (t_X9_isWord E _ e2 isR_rfl) ?_
  refine mw_if_eq (tgt := 12) dX9_rankHere_7 rfl (fun c6 => ?_) (fun c6 => ?_)
  · rw [if_pos c6] at hf
    refine mw_aload_n (x := (some a0)) dX9_rankHere_12 rfl ?_
    refine mw_ldc2 dX9_rankHere_13 kc_RX9_325 ?_
    obtain ⟨g9, e10, hf⟩ := ob hf
    obtain ⟨x11, h7, e8, hf⟩ := ob1 hf
    refine ml_callV (ci := 8) (mc' := 0) (ms' := 0) [vl 28530] dX9_rankHere_16 mk_X9_isWord lk_RX9_223 im_X9_isWord se_X9_isWord (by decide) e10 rfl (Nat.le_of_ble_eq_true rfl) (Nat.le_of_ble_eq_true rfl) (t_X9_isWord E _ e8 isR_rfl) ?_
    refine mw_if_eq (tgt := 24) dX9_rankHere_19 rfl (fun c12 => ?_) (fun c12 => ?_)
    · rw [if_pos c12] at hf
      refine mw_aload_n (x := (some a0)) dX9_rankHere_24 rfl ?_
      refine mw_bipush (v := 60) dX9_rankHere_25 (by decide) ?_
      obtain ⟨g15, e16, hf⟩ := ob hf
      obtain ⟨x17, h13, e14, hf⟩ := ob1 hf
      refine ml_callV (ci := 8) (mc' := 0) (ms' := 0) [vi (60 : Int32)] dX9_rankHere_27 mk_X9_is lk_RX9_266 im_X9_is se_X9_is (by decide) e16 rfl (Nat.le_of_ble_eq_true rfl) (Nat.le_of_ble_eq_true rfl) (t_X9_is E _ e14 isR_rfl) ?_
      refine mw_if_ne (tgt := 51) dX9_rankHere_30 rfl (fun c18 => ?_) (fun c18 => ?_)
      · rw [if_neg c18] at hf
        refine mw_iconst (v := 4) dX9_rankHere_51 (by decide) ?_
        obtain ⟨rfl, rfl⟩ := y1 hf
        exact mw_ireturn dX9_rankHere_52 rfl rfl hk
      · rw [if_pos c18] at hf
        refine mw_aload_n (x := (some a0)) dX9_rankHere_33 rfl ?_
        refine mw_bipush (v := 62) dX9_rankHere_34 (by decide) ?_
        obtain ⟨g21, e22, hf⟩ := ob hf
        obtain ⟨x23, h19, e20, hf⟩ := ob1 hf
        refine ml_callV (ci := 8) (mc' := 0) (ms' := 0) [vi (62 : Int32)] dX9_rankHere_36 mk_X9_is lk_RX9_266 im_X9_is se_X9_is (by decide) e22 rfl (Nat.le_of_ble_eq_true rfl) (Nat.le_of_ble_eq_true rfl) (t_X9_is E _ e20 isR_rfl) ?_
        refine mw_if_ne (tgt := 51) dX9_rankHere_39 rfl (fun c24 => ?_) (fun c24 => ?_)
        · rw [if_neg c24] at hf
          refine mw_iconst (v := 4) dX9_rankHere_51 (by decide) ?_
          obtain ⟨rfl, rfl⟩ := y1 hf
          exact mw_ireturn dX9_rankHere_52 rfl rfl hk
        · rw [if_pos c24] at hf
          refine mw_aload_n (x := (some a0)) dX9_rankHere_42 rfl ?_
          refine mw_bipush (v := 61) dX9_rankHere_43 (by decide) ?_
          obtain ⟨g27, e28, hf⟩ := ob hf
          obtain ⟨x29, h25, e26, hf⟩ := ob1 hf
          refine ml_callV (ci := 8) (mc' := 0) (ms' := 0) [vi (61 : Int32)] dX9_rankHere_45 mk_X9_is lk_RX9_266 im_X9_is se_X9_is (by decide) e28 rfl (Nat.le_of_ble_eq_true rfl) (Nat.le_of_ble_eq_true rfl) (t_X9_is E _ e26 isR_rfl) ?_
          refine mw_if_eq (tgt := 53) dX9_rankHere_48 rfl (fun c30 => ?_) (fun c30 => ?_)
          · rw [if_pos c30] at hf
            refine mw_aload_n (x := (some a0)) dX9_rankHere_53 rfl ?_
            refine mw_bipush (v := 43) dX9_rankHere_54 (by decide) ?_
            obtain ⟨g33, e34, hf⟩ := ob hf
            obtain ⟨x35, h31, e32, hf⟩ := ob1 hf
            refine ml_callV (ci := 8) (mc' := 0) (ms' := 0) [vi (43 : Int32)] dX9_rankHere_56 mk_X9_is lk_RX9_266 im_X9_is se_X9_is (by decide) e34 rfl (Nat.le_of_ble_eq_true rfl) (Nat.le_of_ble_eq_true rfl) (t_X9_is E _ e32 isR_rfl) ?_
            refine mw_if_ne (tgt := 71) dX9_rankHere_59 rfl (fun c36 => ?_) (fun c36 => ?_)
            · rw [if_neg c36] at hf
              refine mw_iconst (v := 5) dX9_rankHere_71 (by decide) ?_
              obtain ⟨rfl, rfl⟩ := y1 hf
              exact mw_ireturn dX9_rankHere_72 rfl rfl hk
            · rw [if_pos c36] at hf
              refine mw_aload_n (x := (some a0)) dX9_rankHere_62 rfl ?_
              refine mw_bipush (v := 45) dX9_rankHere_63 (by decide) ?_
              obtain ⟨g39, e40, hf⟩ := ob hf
              obtain ⟨x41, h37, e38, hf⟩ := ob1 hf
              refine ml_callV (ci := 8) (mc' := 0) (ms' := 0) [vi (45 : Int32)] dX9_rankHere_65 mk_X9_is lk_RX9_266 im_X9_is se_X9_is (by decide) e40 rfl (Nat.le_of_ble_eq_true rfl) (Nat.le_of_ble_eq_true rfl) (t_X9_is E _ e38 isR_rfl) ?_
              refine mw_if_eq (tgt := 73) dX9_rankHere_68 rfl (fun c42 => ?_) (fun c42 => ?_)
              · rw [if_pos c42] at hf
                refine mw_aload_n (x := (some a0)) dX9_rankHere_73 rfl ?_
                refine mw_bipush (v := 42) dX9_rankHere_74 (by decide) ?_
                obtain ⟨g45, e46, hf⟩ := ob hf
                obtain ⟨x47, h43, e44, hf⟩ := ob1 hf
                refine ml_callV (ci := 8) (mc' := 0) (ms' := 0) [vi (42 : Int32)] dX9_rankHere_76 mk_X9_is lk_RX9_266 im_X9_is se_X9_is (by decide) e46 rfl (Nat.le_of_ble_eq_true rfl) (Nat.le_of_ble_eq_true rfl) (t_X9_is E _ e44 isR_rfl) ?_
                obtain ⟨w61, h62, r63, hf⟩ := ob1 hf
                have J64 : MW E m_X9_rankHere (d + 2) mc ms 97 [none] [vi w61] h62 K := by
                  obtain ⟨rfl, rfl⟩ := y1 hf
                  exact mw_ireturn dX9_rankHere_97 rfl rfl hk
                refine mw_if_ne (tgt := 91) dX9_rankHere_79 rfl (fun c48 => ?_) (fun c48 => ?_)
                · rw [if_neg c48] at r63
                  refine mw_bipush (v := 6) dX9_rankHere_91 (by decide) ?_
                  refine mw_goto (tgt := 97) dX9_rankHere_93 rfl ?_
                  obtain ⟨rfl, rfl⟩ := y1 r63
                  exact MW.sub (subL_n subL_nil) J64
                · rw [if_pos c48] at r63
                  refine mw_aload_n (x := (some a0)) dX9_rankHere_82 rfl ?_
                  refine mw_bipush (v := 47) dX9_rankHere_83 (by decide) ?_
                  obtain ⟨g57, e58, r63⟩ := ob r63
                  obtain ⟨x59, h55, e56, r63⟩ := ob1 r63
                  refine ml_callV (ci := 8) (mc' := 0) (ms' := 0) [vi (47 : Int32)] dX9_rankHere_85 mk_X9_is lk_RX9_266 im_X9_is se_X9_is (by decide) e58 rfl (Nat.le_of_ble_eq_true rfl) (Nat.le_of_ble_eq_true rfl) (t_X9_is E _ e56 isR_rfl) ?_
                  refine mw_if_eq (tgt := 96) dX9_rankHere_88 rfl (fun c60 => ?_) (fun c60 => ?_)
                  · rw [if_pos c60] at r63
                    refine mw_iconst (v := 0) dX9_rankHere_96 (by decide) ?_
                    obtain ⟨rfl, rfl⟩ := y1 r63
                    exact MW.sub (subL_n subL_nil) J64
                  · rw [if_neg c60] at r63
                    refine mw_bipush (v := 6) dX9_rankHere_91 (by decide) ?_
                    refine mw_goto (tgt := 97) dX9_rankHere_93 rfl ?_
                    obtain ⟨rfl, rfl⟩ := y1 r63
                    exact MW.sub (subL_n subL_nil) J64
              · rw [if_neg c42] at hf
                refine mw_iconst (v := 5) dX9_rankHere_71 (by decide) ?_
                obtain ⟨rfl, rfl⟩ := y1 hf
                exact mw_ireturn dX9_rankHere_72 rfl rfl hk
          · rw [if_neg c30] at hf
            refine mw_iconst (v := 4) dX9_rankHere_51 (by decide) ?_
            obtain ⟨rfl, rfl⟩ := y1 hf
            exact mw_ireturn dX9_rankHere_52 rfl rfl hk
    · rw [if_neg c12] at hf
      refine mw_iconst (v := 1) dX9_rankHere_22 (by decide) ?_
      obtain ⟨rfl, rfl⟩ := y1 hf
      exact mw_ireturn dX9_rankHere_23 rfl rfl hk
  · rw [if_neg c6] at hf
    refine mw_iconst (v := 2) dX9_rankHere_10 (by decide) ?_
    obtain ⟨rfl, rfl⟩ := y1 hf
    exact mw_ireturn dX9_rankHere_11 rfl rfl hk
def f_X9_isCompared_L7 : Nat → Nat → Int32 → Hp → Option ((Int32 × Hp))
  | 0, _, _, _ => none
  | n + 1, a0, v1, h =>
    (getQ h (some a0) 8 20).bind fun x3 =>
    (rdI h x3 10 v1).bind fun x5 =>
    if x5 = (5 : Int32) then
      f_X9_isCompared_L7 n a0 (v1 + (-1)) h
    else
      (getQ h (some a0) 8 20).bind fun x8 =>
      (rdI h x8 10 v1).bind fun x10 =>
      if x10 = (6 : Int32) then
        f_X9_isCompared_L7 n a0 (v1 + (-1)) h
      else
        some (v1, h)
def f_X9_isCompared (a0 : Nat) (h : Hp) : Option (Int32 × Hp) :=
  (getI h (some a0) 8 29).bind fun x1 =>
  b1 (f_X9_isCompared_L7 fu a0 (x1 - (1 : Int32)) h) fun w13 h14 =>
  (getQ h14 (some a0) 8 20).bind fun x15 =>
  (rdI h14 x15 10 w13).bind fun x17 =>
  b1 ((if x17 = (4 : Int32) then
      some (1, h14)
    else
      some (0, h14) : Option (Int32 × Hp))) fun w20 h21 =>
  (zok w20).bind fun z23 =>
  some (w20, h21)
set_option maxHeartbeats 4000000 in
theorem tl_X9_isCompared_7 (E : En) (d : Nat) {mc ms : Nat} {K : Option Vv → Hp → Prop} : ∀ (n : Nat) (a0 : Nat) (v1 : Int32) (h : Hp) (u1 : Int32) (hz : Hp), f_X9_isCompared_L7 n a0 v1 h = some (u1, hz) → MW E m_X9_isCompared (d + 0) mc ms 34 [some (vq (some a0)), some (vi u1)] [] hz K → MW E m_X9_isCompared (d + 0) mc ms 7 [some (vq (some a0)), some (vi v1)] [] h K := by
  intro n
  induction n with
  | zero => intro a0 v1 h u1 hz hf; exact nomatch (show none = some _ from hf)
  | succ n ih =>
    intro a0 v1 h u1 hz hf hX34
    rw [f_X9_isCompared_L7] at hf
    refine mw_aload_n (x := (some a0)) dX9_isCompared_7 rfl ?_
    obtain ⟨x3, e4, hf⟩ := ob hf
    refine ml_getQ dX9_isCompared_8 fl_RX9_108 rfl e4 ?_
    refine mw_iload_n (x := v1) dX9_isCompared_11 rfl ?_
    obtain ⟨x5, e6, hf⟩ := ob hf
    refine ml_iald dX9_isCompared_12 e6 ?_
    refine mw_iconst (v := 5) dX9_isCompared_13 (by decide) ?_
    refine mw_icmp_eq (tgt := 28) dX9_isCompared_14 rfl (fun c7 => ?_) (fun c7 => ?_)
    · rw [if_pos c7] at hf
      refine mw_iinc (x := v1) (v := v1 + (-1)) dX9_isCompared_28 rfl rfl (by decide) rfl ?_
      refine mw_goto (tgt := 7) dX9_isCompared_31 rfl ?_
      exact MW.sub (subL_s (subL_s subL_nil)) (ih _ _ _ _ _ hf hX34)
    · rw [if_neg c7] at hf
      refine mw_aload_n (x := (some a0)) dX9_isCompared_17 rfl ?_
      obtain ⟨x8, e9, hf⟩ := ob hf
      refine ml_getQ dX9_isCompared_18 fl_RX9_108 rfl e9 ?_
      refine mw_iload_n (x := v1) dX9_isCompared_21 rfl ?_
      obtain ⟨x10, e11, hf⟩ := ob hf
      refine ml_iald dX9_isCompared_22 e11 ?_
      refine mw_bipush (v := 6) dX9_isCompared_23 (by decide) ?_
      refine mw_icmp_ne (tgt := 34) dX9_isCompared_25 rfl (fun c12 => ?_) (fun c12 => ?_)
      · rw [if_neg c12] at hf
        obtain ⟨rfl, rfl⟩ := y1 hf
        exact MW.sub (subL_s (subL_s subL_nil)) hX34
      · rw [if_pos c12] at hf
        refine mw_iinc (x := v1) (v := v1 + (-1)) dX9_isCompared_28 rfl rfl (by decide) rfl ?_
        refine mw_goto (tgt := 7) dX9_isCompared_31 rfl ?_
        exact MW.sub (subL_s (subL_s subL_nil)) (ih _ _ _ _ _ hf hX34)
set_option maxHeartbeats 4000000 in
theorem t_X9_isCompared (E : En) (d : Nat) {mc ms : Nat} {a0 : Nat} {h h' : Hp} {r : Int32} {K : Option Vv → Hp → Prop} (hf : f_X9_isCompared a0 h = some (r, h')) (hk : K (some (vi r)) h') : MC E m_X9_isCompared (d + 0) mc ms [vq (some a0)] h K := by
  unfold f_X9_isCompared at hf
  show MW E m_X9_isCompared (d + 0) mc ms 0 [some (vq (some a0)), none] [] h K
  refine mw_aload_n (x := (some a0)) dX9_isCompared_0 rfl ?_
  obtain ⟨x1, e2, hf⟩ := ob hf
  refine ml_getI dX9_isCompared_1 fl_RX9_288 rfl e2 ?_
  refine mw_iconst (v := 1) dX9_isCompared_4 (by decide) ?_
  refine mw_isub dX9_isCompared_5 ?_
  refine mw_istore_n dX9_isCompared_6 (by decide) rfl ?_
  obtain ⟨w13, h14, e25, hf⟩ := ob1 hf
  refine MW.sub (subL_s (subL_s subL_nil)) (tl_X9_isCompared_7 E d _ _ _ _ _ _ e25 ?_)
  refine mw_aload_n (x := (some a0)) dX9_isCompared_34 rfl ?_
  obtain ⟨x15, e16, hf⟩ := ob hf
  refine ml_getQ dX9_isCompared_35 fl_RX9_108 rfl e16 ?_
  refine mw_iload_n (x := w13) dX9_isCompared_38 rfl ?_
  obtain ⟨x17, e18, hf⟩ := ob hf
  refine ml_iald dX9_isCompared_39 e18 ?_
  refine mw_iconst (v := 4) dX9_isCompared_40 (by decide) ?_
  obtain ⟨w20, h21, r22, hf⟩ := ob1 hf
  have J27 : MW E m_X9_isCompared (d + 0) mc ms 49 [none, none] [vi w20] h21 K := by
    obtain ⟨z23, e24, hf⟩ := ob hf
    obtain ⟨rfl, rfl⟩ := y1 hf
    exact mw_ireturn dX9_isCompared_49 rfl (zok_of e24) hk
  refine mw_icmp_ne (tgt := 48) dX9_isCompared_41 rfl (fun c19 => ?_) (fun c19 => ?_)
  · rw [if_neg c19] at r22
    refine mw_iconst (v := 0) dX9_isCompared_48 (by decide) ?_
    obtain ⟨rfl, rfl⟩ := y1 r22
    exact MW.sub (subL_n (subL_n subL_nil)) J27
  · rw [if_pos c19] at r22
    refine mw_iconst (v := 1) dX9_isCompared_44 (by decide) ?_
    refine mw_goto (tgt := 49) dX9_isCompared_45 rfl ?_
    obtain ⟨rfl, rfl⟩ := y1 r22
    exact MW.sub (subL_n (subL_n subL_nil)) J27
def f_X9_behind_L23 : Nat → Nat → Int32 → Hp → Option ((Hp))
  | 0, _, _, _ => none
  | n + 1, a0, v1, h =>
    (getQ h (some a0) 8 20).bind fun x7 =>
    (getI h (some a0) 8 29).bind fun x9 =>
    (rdI h x7 10 (x9 - (1 : Int32))).bind fun x11 =>
    if (6 : Int32) < x11 then
      some h
    else
      (getQ h (some a0) 8 20).bind fun x14 =>
      (getI h (some a0) 8 29).bind fun x16 =>
      (rdI h x14 10 (x16 - (1 : Int32))).bind fun x18 =>
      if x18 < v1 then
        some h
      else
        (getI h (some a0) 8 29).bind fun x21 =>
        (putI h (some a0) 8 29 (x21 - (1 : Int32))).bind fun h23 =>
        (getQ h23 (some a0) 8 20).bind fun x25 =>
        (getI h23 (some a0) 8 29).bind fun x27 =>
        (rdI h23 x25 10 x27).bind fun x29 =>
        Option.bind ((if x29 = (3 : Int32) then
            (getI h23 (some a0) 8 28).bind fun x36 =>
            (putI h23 (some a0) 8 28 (x36 - (1 : Int32))).bind fun h38 =>
            some h38
          else
            some h23 : Option (Hp))) fun h40 =>
        (getQ h40 (some a0) 8 21).bind fun x42 =>
        (getI h40 (some a0) 8 29).bind fun x44 =>
        (rdI h40 x42 10 x44).bind fun x46 =>
        (rc h40 (some a0) 8).bind fun g50 =>
        (f_X9_step g50 x46 (0 : Int32) h40).bind fun h48 =>
        f_X9_behind_L23 n a0 v1 h48
def f_X9_behind (a0 : Nat) (h : Hp) : Option (Int32 × Hp) :=
  (rc h (some a0) 8).bind fun g3 =>
  b1 (f_X9_rankHere g3 h) fun x5 h1 =>
  if x5 = (4 : Int32) then
    (rc h1 (some a0) 8).bind fun g125 =>
    b1 (f_X9_isCompared g125 h1) fun x127 h123 =>
    if x127 = (0 : Int32) then
      (f_X9_behind_L23 fu a0 x5 h123).bind fun h129 =>
      if x5 ≤ (0 : Int32) then
        (getI h129 (some a0) 8 29).bind fun x131 =>
        (putI h129 (some a0) 8 29 (x131 - (1 : Int32))).bind fun h133 =>
        (getQ h133 (some a0) 8 20).bind fun x135 =>
        (getI h133 (some a0) 8 29).bind fun x137 =>
        (rdI h133 x135 10 x137).bind fun x139 =>
        Option.bind ((if x139 = (7 : Int32) then
            (getI h133 (some a0) 8 28).bind fun x155 =>
            (putI h133 (some a0) 8 28 (x155 - (1 : Int32))).bind fun h157 =>
            (rc h157 (some a0) 8).bind fun g161 =>
            b1 (f_X9_is g161 (41 : Int32) h157) fun x163 h159 =>
            (rc h159 (some a0) 8).bind fun g166 =>
            (f_X9_must g166 x163 h159).bind fun h164 =>
            some h164
          else
            some h133 : Option (Hp))) fun h168 =>
        some (0, h168)
      else
        b1 ((if x5 = (2 : Int32) then
            some (38, h129)
          else
            if x5 = (1 : Int32) then
              some (124, h129)
            else
              (getI h129 (some a0) 8 6).bind fun x180 =>
              (rc h129 (some a0) 8).bind fun g184 =>
              b1 (f_X9_sign g184 x180 h129) fun x186 h182 =>
              some (x186, h182) : Option (Int32 × Hp))) fun w187 h188 =>
        (rc h188 (some a0) 8).bind fun g192 =>
        (f_X9_put g192 x5 w187 h188).bind fun h190 =>
        (rc h190 (some a0) 8).bind fun g196 =>
        (f_X9_next g196 h190).bind fun h194 =>
        some (1, h194)
    else
      (rc h123 (some a0) 8).bind fun g202 =>
      (f_X9_wrong g202 h123).bind fun h200 =>
      some (1, h200)
  else
    (f_X9_behind_L23 fu a0 x5 h1).bind fun h52 =>
    if x5 ≤ (0 : Int32) then
      (getI h52 (some a0) 8 29).bind fun x54 =>
      (putI h52 (some a0) 8 29 (x54 - (1 : Int32))).bind fun h56 =>
      (getQ h56 (some a0) 8 20).bind fun x58 =>
      (getI h56 (some a0) 8 29).bind fun x60 =>
      (rdI h56 x58 10 x60).bind fun x62 =>
      Option.bind ((if x62 = (7 : Int32) then
          (getI h56 (some a0) 8 28).bind fun x78 =>
          (putI h56 (some a0) 8 28 (x78 - (1 : Int32))).bind fun h80 =>
          (rc h80 (some a0) 8).bind fun g84 =>
          b1 (f_X9_is g84 (41 : Int32) h80) fun x86 h82 =>
          (rc h82 (some a0) 8).bind fun g89 =>
          (f_X9_must g89 x86 h82).bind fun h87 =>
          some h87
        else
          some h56 : Option (Hp))) fun h91 =>
      some (0, h91)
    else
      b1 ((if x5 = (2 : Int32) then
          some (38, h52)
        else
          if x5 = (1 : Int32) then
            some (124, h52)
          else
            (getI h52 (some a0) 8 6).bind fun x103 =>
            (rc h52 (some a0) 8).bind fun g107 =>
            b1 (f_X9_sign g107 x103 h52) fun x109 h105 =>
            some (x109, h105) : Option (Int32 × Hp))) fun w110 h111 =>
      (rc h111 (some a0) 8).bind fun g115 =>
      (f_X9_put g115 x5 w110 h111).bind fun h113 =>
      (rc h113 (some a0) 8).bind fun g119 =>
      (f_X9_next g119 h113).bind fun h117 =>
      some (1, h117)
set_option maxHeartbeats 4000000 in
theorem tl_X9_behind_23 (E : En) (d : Nat) {mc ms : Nat} {K : Option Vv → Hp → Prop} : ∀ (n : Nat) (a0 : Nat) (v1 : Int32) (h : Hp) (hz : Hp), f_X9_behind_L23 n a0 v1 h = some hz → MW E m_X9_behind (d + 3) mc ms 104 [some (vq (some a0)), some (vi v1)] [] hz K → MW E m_X9_behind (d + 3) mc ms 23 [some (vq (some a0)), some (vi v1)] [] h K := by
  intro n
  induction n with
  | zero => intro a0 v1 h hz hf; exact nomatch (show none = some _ from hf)
  | succ n ih =>
    intro a0 v1 h hz hf hX104
    rw [f_X9_behind_L23] at hf
    refine mw_aload_n (x := (some a0)) dX9_behind_23 rfl ?_
    obtain ⟨x7, e8, hf⟩ := ob hf
    refine ml_getQ dX9_behind_24 fl_RX9_108 rfl e8 ?_
    refine mw_aload_n (x := (some a0)) dX9_behind_27 rfl ?_
    obtain ⟨x9, e10, hf⟩ := ob hf
    refine ml_getI dX9_behind_28 fl_RX9_288 rfl e10 ?_
    refine mw_iconst (v := 1) dX9_behind_31 (by decide) ?_
    refine mw_isub dX9_behind_32 ?_
    obtain ⟨x11, e12, hf⟩ := ob hf
    refine ml_iald dX9_behind_33 e12 ?_
    refine mw_bipush (v := 6) dX9_behind_34 (by decide) ?_
    refine mw_icmp_gt (tgt := 104) dX9_behind_36 rfl (fun c13 => ?_) (fun c13 => ?_)
    · rw [if_pos c13] at hf
      obtain rfl := y0 hf
      exact MW.sub (subL_s (subL_s subL_nil)) hX104
    · rw [if_neg c13] at hf
      refine mw_aload_n (x := (some a0)) dX9_behind_39 rfl ?_
      obtain ⟨x14, e15, hf⟩ := ob hf
      refine ml_getQ dX9_behind_40 fl_RX9_108 rfl e15 ?_
      refine mw_aload_n (x := (some a0)) dX9_behind_43 rfl ?_
      obtain ⟨x16, e17, hf⟩ := ob hf
      refine ml_getI dX9_behind_44 fl_RX9_288 rfl e17 ?_
      refine mw_iconst (v := 1) dX9_behind_47 (by decide) ?_
      refine mw_isub dX9_behind_48 ?_
      obtain ⟨x18, e19, hf⟩ := ob hf
      refine ml_iald dX9_behind_49 e19 ?_
      refine mw_iload_n (x := v1) dX9_behind_50 rfl ?_
      refine mw_icmp_lt (tgt := 104) dX9_behind_51 rfl (fun c20 => ?_) (fun c20 => ?_)
      · rw [if_pos c20] at hf
        obtain rfl := y0 hf
        exact MW.sub (subL_s (subL_s subL_nil)) hX104
      · rw [if_neg c20] at hf
        refine mw_aload_n (x := (some a0)) dX9_behind_54 rfl ?_
        refine mw_dupq dX9_behind_55 ?_
        obtain ⟨x21, e22, hf⟩ := ob hf
        refine ml_getI dX9_behind_56 fl_RX9_288 rfl e22 ?_
        refine mw_iconst (v := 1) dX9_behind_59 (by decide) ?_
        refine mw_isub dX9_behind_60 ?_
        obtain ⟨h23, e24, hf⟩ := ob hf
        refine ml_putI dX9_behind_61 fl_RX9_288 (Or.inl rfl) rfl rfl e24 ?_
        refine mw_aload_n (x := (some a0)) dX9_behind_64 rfl ?_
        obtain ⟨x25, e26, hf⟩ := ob hf
        refine ml_getQ dX9_behind_65 fl_RX9_108 rfl e26 ?_
        refine mw_aload_n (x := (some a0)) dX9_behind_68 rfl ?_
        obtain ⟨x27, e28, hf⟩ := ob hf
        refine ml_getI dX9_behind_69 fl_RX9_288 rfl e28 ?_
        obtain ⟨x29, e30, hf⟩ := ob hf
        refine ml_iald dX9_behind_72 e30 ?_
        refine mw_iconst (v := 3) dX9_behind_73 (by decide) ?_
        obtain ⟨h40, r41, hf⟩ := ob hf
        have J204 : MW E m_X9_behind (d + 3) mc ms 87 [some (vq (some a0)), some (vi v1)] [] h40 K := by
          refine mw_aload_n (x := (some a0)) dX9_behind_87 rfl ?_
          refine mw_aload_n (x := (some a0)) dX9_behind_88 rfl ?_
          obtain ⟨x42, e43, hf⟩ := ob hf
          refine ml_getQ dX9_behind_89 fl_RX9_111 rfl e43 ?_
          refine mw_aload_n (x := (some a0)) dX9_behind_92 rfl ?_
          obtain ⟨x44, e45, hf⟩ := ob hf
          refine ml_getI dX9_behind_93 fl_RX9_288 rfl e45 ?_
          obtain ⟨x46, e47, hf⟩ := ob hf
          refine ml_iald dX9_behind_96 e47 ?_
          refine mw_iconst (v := 0) dX9_behind_97 (by decide) ?_
          obtain ⟨g50, e51, hf⟩ := ob hf
          obtain ⟨h48, e49, hf⟩ := ob hf
          refine ml_callV (ci := 8) (mc' := 0) (ms' := 0) [vi x46, vi (0 : Int32)] dX9_behind_98 mk_X9_step lk_RX9_320 im_X9_step se_X9_step (by decide) e51 rfl (Nat.le_of_ble_eq_true rfl) (Nat.le_of_ble_eq_true rfl) (t_X9_step E _ e49 isR_rfl) ?_
          refine mw_goto (tgt := 23) dX9_behind_101 rfl ?_
          exact MW.sub (subL_s (subL_s subL_nil)) (ih _ _ _ _ hf hX104)
        refine mw_icmp_ne (tgt := 87) dX9_behind_74 rfl (fun c31 => ?_) (fun c31 => ?_)
        · rw [if_neg c31] at r41
          obtain rfl := y0 r41
          exact MW.sub (subL_s (subL_s subL_nil)) J204
        · rw [if_pos c31] at r41
          refine mw_aload_n (x := (some a0)) dX9_behind_77 rfl ?_
          refine mw_dupq dX9_behind_78 ?_
          obtain ⟨x36, e37, r41⟩ := ob r41
          refine ml_getI dX9_behind_79 fl_RX9_291 rfl e37 ?_
          refine mw_iconst (v := 1) dX9_behind_82 (by decide) ?_
          refine mw_isub dX9_behind_83 ?_
          obtain ⟨h38, e39, r41⟩ := ob r41
          refine ml_putI dX9_behind_84 fl_RX9_291 (Or.inl rfl) rfl rfl e39 ?_
          obtain rfl := y0 r41
          exact MW.sub (subL_s (subL_s subL_nil)) J204
set_option maxHeartbeats 4000000 in
theorem t_X9_behind (E : En) (d : Nat) {mc ms : Nat} {a0 : Nat} {h h' : Hp} {r : Int32} {K : Option Vv → Hp → Prop} (hf : f_X9_behind a0 h = some (r, h')) (hk : K (some (vi r)) h') : MC E m_X9_behind (d + 3) mc ms [vq (some a0)] h K := by
  unfold f_X9_behind at hf
  show MW E m_X9_behind (d + 3) mc ms 0 [some (vq (some a0)), none] [] h K
  refine mw_aload_n (x := (some a0)) dX9_behind_0 rfl ?_
  obtain ⟨g3, e4, hf⟩ := ob hf
  obtain ⟨x5, h1, e2, hf⟩ := ob1 hf
  refine ml_callV (ci := 8) (mc' := 0) (ms' := 0) [] dX9_behind_1 mk_X9_rankHere lk_RX9_327 im_X9_rankHere se_X9_rankHere (by decide) e4 rfl (Nat.le_of_ble_eq_true rfl) (Nat.le_of_ble_eq_true rfl) (t_X9_rankHere E _ e2 isR_rfl) ?_
  refine mw_istore_n dX9_behind_4 (by decide) rfl ?_
  refine mw_iload_n (x := x5) dX9_behind_5 rfl ?_
  refine mw_iconst (v := 4) dX9_behind_6 (by decide) ?_
  refine mw_icmp_ne (tgt := 23) dX9_behind_7 rfl (fun c6 => ?_) (fun c6 => ?_)
  · rw [if_neg c6] at hf
    obtain ⟨h52, e121, hf⟩ := ob hf
    refine MW.sub (subL_s (subL_s subL_nil)) (tl_X9_behind_23 E d _ _ _ _ _ e121 ?_)
    refine mw_iload_n (x := x5) dX9_behind_104 rfl ?_
    refine mw_if_le (tgt := 147) dX9_behind_105 rfl (fun c53 => ?_) (fun c53 => ?_)
    · rw [if_pos c53] at hf
      refine mw_aload_n (x := (some a0)) dX9_behind_147 rfl ?_
      refine mw_dupq dX9_behind_148 ?_
      obtain ⟨x54, e55, hf⟩ := ob hf
      refine ml_getI dX9_behind_149 fl_RX9_288 rfl e55 ?_
      refine mw_iconst (v := 1) dX9_behind_152 (by decide) ?_
      refine mw_isub dX9_behind_153 ?_
      obtain ⟨h56, e57, hf⟩ := ob hf
      refine ml_putI dX9_behind_154 fl_RX9_288 (Or.inl rfl) rfl rfl e57 ?_
      refine mw_aload_n (x := (some a0)) dX9_behind_157 rfl ?_
      obtain ⟨x58, e59, hf⟩ := ob hf
      refine ml_getQ dX9_behind_158 fl_RX9_108 rfl e59 ?_
      refine mw_aload_n (x := (some a0)) dX9_behind_161 rfl ?_
      obtain ⟨x60, e61, hf⟩ := ob hf
      refine ml_getI dX9_behind_162 fl_RX9_288 rfl e61 ?_
      obtain ⟨x62, e63, hf⟩ := ob hf
      refine ml_iald dX9_behind_165 e63 ?_
      refine mw_bipush (v := 7) dX9_behind_166 (by decide) ?_
      obtain ⟨h91, r92, hf⟩ := ob hf
      have J205 : MW E m_X9_behind (d + 3) mc ms 191 [none, none] [] h91 K := by
        refine mw_iconst (v := 0) dX9_behind_191 (by decide) ?_
        obtain ⟨rfl, rfl⟩ := y1 hf
        exact mw_ireturn dX9_behind_192 rfl rfl hk
      refine mw_icmp_ne (tgt := 191) dX9_behind_168 rfl (fun c64 => ?_) (fun c64 => ?_)
      · rw [if_neg c64] at r92
        obtain rfl := y0 r92
        exact MW.sub (subL_n (subL_n subL_nil)) J205
      · rw [if_pos c64] at r92
        refine mw_aload_n (x := (some a0)) dX9_behind_171 rfl ?_
        refine mw_dupq dX9_behind_172 ?_
        obtain ⟨x78, e79, r92⟩ := ob r92
        refine ml_getI dX9_behind_173 fl_RX9_291 rfl e79 ?_
        refine mw_iconst (v := 1) dX9_behind_176 (by decide) ?_
        refine mw_isub dX9_behind_177 ?_
        obtain ⟨h80, e81, r92⟩ := ob r92
        refine ml_putI dX9_behind_178 fl_RX9_291 (Or.inl rfl) rfl rfl e81 ?_
        refine mw_aload_n (x := (some a0)) dX9_behind_181 rfl ?_
        refine mw_aload_n (x := (some a0)) dX9_behind_182 rfl ?_
        refine mw_bipush (v := 41) dX9_behind_183 (by decide) ?_
        obtain ⟨g84, e85, r92⟩ := ob r92
        obtain ⟨x86, h82, e83, r92⟩ := ob1 r92
        refine ml_callV (ci := 8) (mc' := 0) (ms' := 0) [vi (41 : Int32)] dX9_behind_185 mk_X9_is lk_RX9_266 im_X9_is se_X9_is (by decide) e85 rfl (Nat.le_of_ble_eq_true rfl) (Nat.le_of_ble_eq_true rfl) (t_X9_is E _ e83 isR_rfl) ?_
        obtain ⟨g89, e90, r92⟩ := ob r92
        obtain ⟨h87, e88, r92⟩ := ob r92
        refine ml_callV (ci := 8) (mc' := 0) (ms' := 0) [vi x86] dX9_behind_188 mk_X9_must lk_RX9_269 im_X9_must se_X9_must (by decide) e90 rfl (Nat.le_of_ble_eq_true rfl) (Nat.le_of_ble_eq_true rfl) (t_X9_must E _ e88 isR_rfl) ?_
        obtain rfl := y0 r92
        exact MW.sub (subL_n (subL_n subL_nil)) J205
    · rw [if_neg c53] at hf
      refine mw_aload_n (x := (some a0)) dX9_behind_108 rfl ?_
      refine mw_iload_n (x := x5) dX9_behind_109 rfl ?_
      refine mw_iload_n (x := x5) dX9_behind_110 rfl ?_
      refine mw_iconst (v := 2) dX9_behind_111 (by decide) ?_
      obtain ⟨w110, h111, r112, hf⟩ := ob1 hf
      have J206 : MW E m_X9_behind (d + 3) mc ms 138 [some (vq (some a0)), none] [vi w110, vi x5, vq (some a0)] h111 K := by
        obtain ⟨g115, e116, hf⟩ := ob hf
        obtain ⟨h113, e114, hf⟩ := ob hf
        refine ml_callV (ci := 8) (mc' := 0) (ms' := 0) [vi x5, vi w110] dX9_behind_138 mk_X9_put lk_RX9_294 im_X9_put se_X9_put (by decide) e116 rfl (Nat.le_of_ble_eq_true rfl) (Nat.le_of_ble_eq_true rfl) (t_X9_put E _ e114 isR_rfl) ?_
        refine mw_aload_n (x := (some a0)) dX9_behind_141 rfl ?_
        obtain ⟨g119, e120, hf⟩ := ob hf
        obtain ⟨h117, e118, hf⟩ := ob hf
        refine ml_callV (ci := 8) (mc' := 0) (ms' := 0) [] dX9_behind_142 mk_X9_next lk_RX9_55 im_X9_next se_X9_next (by decide) e120 rfl (Nat.le_of_ble_eq_true rfl) (Nat.le_of_ble_eq_true rfl) (t_X9_next E _ e118 isR_rfl) ?_
        refine mw_iconst (v := 1) dX9_behind_145 (by decide) ?_
        obtain ⟨rfl, rfl⟩ := y1 hf
        exact mw_ireturn dX9_behind_146 rfl rfl hk
      refine mw_icmp_ne (tgt := 120) dX9_behind_112 rfl (fun c93 => ?_) (fun c93 => ?_)
      · rw [if_neg c93] at r112
        refine mw_iload_n (x := x5) dX9_behind_120 rfl ?_
        refine mw_iconst (v := 1) dX9_behind_121 (by decide) ?_
        refine mw_icmp_ne (tgt := 130) dX9_behind_122 rfl (fun c102 => ?_) (fun c102 => ?_)
        · rw [if_neg c102] at r112
          refine mw_aload_n (x := (some a0)) dX9_behind_130 rfl ?_
          refine mw_aload_n (x := (some a0)) dX9_behind_131 rfl ?_
          obtain ⟨x103, e104, r112⟩ := ob r112
          refine ml_getI dX9_behind_132 fl_RX9_20 rfl e104 ?_
          obtain ⟨g107, e108, r112⟩ := ob r112
          obtain ⟨x109, h105, e106, r112⟩ := ob1 r112
          refine ml_callV (ci := 8) (mc' := 0) (ms' := 0) [vi x103] dX9_behind_135 mk_X9_sign lk_RX9_23 im_X9_sign se_X9_sign (by decide) e108 rfl (Nat.le_of_ble_eq_true rfl) (Nat.le_of_ble_eq_true rfl) (t_X9_sign E _ e106 isR_rfl) ?_
          obtain ⟨rfl, rfl⟩ := y1 r112
          exact MW.sub (subL_s (subL_n subL_nil)) J206
        · rw [if_pos c102] at r112
          refine mw_bipush (v := 124) dX9_behind_125 (by decide) ?_
          refine mw_goto (tgt := 138) dX9_behind_127 rfl ?_
          obtain ⟨rfl, rfl⟩ := y1 r112
          exact MW.sub (subL_s (subL_n subL_nil)) J206
      · rw [if_pos c93] at r112
        refine mw_bipush (v := 38) dX9_behind_115 (by decide) ?_
        refine mw_goto (tgt := 138) dX9_behind_117 rfl ?_
        obtain ⟨rfl, rfl⟩ := y1 r112
        exact MW.sub (subL_s (subL_n subL_nil)) J206
  · rw [if_pos c6] at hf
    refine mw_aload_n (x := (some a0)) dX9_behind_10 rfl ?_
    obtain ⟨g125, e126, hf⟩ := ob hf
    obtain ⟨x127, h123, e124, hf⟩ := ob1 hf
    refine ml_callV (ci := 8) (mc' := 0) (ms' := 0) [] dX9_behind_11 mk_X9_isCompared lk_RX9_330 im_X9_isCompared se_X9_isCompared (by decide) e126 rfl (Nat.le_of_ble_eq_true rfl) (Nat.le_of_ble_eq_true rfl) (t_X9_isCompared E _ e124 isR_rfl) ?_
    refine mw_if_eq (tgt := 23) dX9_behind_14 rfl (fun c128 => ?_) (fun c128 => ?_)
    · rw [if_pos c128] at hf
      obtain ⟨h129, e198, hf⟩ := ob hf
      refine MW.sub (subL_s (subL_s subL_nil)) (tl_X9_behind_23 E d _ _ _ _ _ e198 ?_)
      refine mw_iload_n (x := x5) dX9_behind_104 rfl ?_
      refine mw_if_le (tgt := 147) dX9_behind_105 rfl (fun c130 => ?_) (fun c130 => ?_)
      · rw [if_pos c130] at hf
        refine mw_aload_n (x := (some a0)) dX9_behind_147 rfl ?_
        refine mw_dupq dX9_behind_148 ?_
        obtain ⟨x131, e132, hf⟩ := ob hf
        refine ml_getI dX9_behind_149 fl_RX9_288 rfl e132 ?_
        refine mw_iconst (v := 1) dX9_behind_152 (by decide) ?_
        refine mw_isub dX9_behind_153 ?_
        obtain ⟨h133, e134, hf⟩ := ob hf
        refine ml_putI dX9_behind_154 fl_RX9_288 (Or.inl rfl) rfl rfl e134 ?_
        refine mw_aload_n (x := (some a0)) dX9_behind_157 rfl ?_
        obtain ⟨x135, e136, hf⟩ := ob hf
        refine ml_getQ dX9_behind_158 fl_RX9_108 rfl e136 ?_
        refine mw_aload_n (x := (some a0)) dX9_behind_161 rfl ?_
        obtain ⟨x137, e138, hf⟩ := ob hf
        refine ml_getI dX9_behind_162 fl_RX9_288 rfl e138 ?_
        obtain ⟨x139, e140, hf⟩ := ob hf
        refine ml_iald dX9_behind_165 e140 ?_
        refine mw_bipush (v := 7) dX9_behind_166 (by decide) ?_
        obtain ⟨h168, r169, hf⟩ := ob hf
        have J207 : MW E m_X9_behind (d + 3) mc ms 191 [none, none] [] h168 K := by
          refine mw_iconst (v := 0) dX9_behind_191 (by decide) ?_
          obtain ⟨rfl, rfl⟩ := y1 hf
          exact mw_ireturn dX9_behind_192 rfl rfl hk
        refine mw_icmp_ne (tgt := 191) dX9_behind_168 rfl (fun c141 => ?_) (fun c141 => ?_)
        · rw [if_neg c141] at r169
          obtain rfl := y0 r169
          exact MW.sub (subL_n (subL_n subL_nil)) J207
        · rw [if_pos c141] at r169
          refine mw_aload_n (x := (some a0)) dX9_behind_171 rfl ?_
          refine mw_dupq dX9_behind_172 ?_
          obtain ⟨x155, e156, r169⟩ := ob r169
          refine ml_getI dX9_behind_173 fl_RX9_291 rfl e156 ?_
          refine mw_iconst (v := 1) dX9_behind_176 (by decide) ?_
          refine mw_isub dX9_behind_177 ?_
          obtain ⟨h157, e158, r169⟩ := ob r169
          refine ml_putI dX9_behind_178 fl_RX9_291 (Or.inl rfl) rfl rfl e158 ?_
          refine mw_aload_n (x := (some a0)) dX9_behind_181 rfl ?_
          refine mw_aload_n (x := (some a0)) dX9_behind_182 rfl ?_
          refine mw_bipush (v := 41) dX9_behind_183 (by decide) ?_
          obtain ⟨g161, e162, r169⟩ := ob r169
          obtain ⟨x163, h159, e160, r169⟩ := ob1 r169
          refine ml_callV (ci := 8) (mc' := 0) (ms' := 0) [vi (41 : Int32)] dX9_behind_185 mk_X9_is lk_RX9_266 im_X9_is se_X9_is (by decide) e162 rfl (Nat.le_of_ble_eq_true rfl) (Nat.le_of_ble_eq_true rfl) (t_X9_is E _ e160 isR_rfl) ?_
          obtain ⟨g166, e167, r169⟩ := ob r169
          obtain ⟨h164, e165, r169⟩ := ob r169
          refine ml_callV (ci := 8) (mc' := 0) (ms' := 0) [vi x163] dX9_behind_188 mk_X9_must lk_RX9_269 im_X9_must se_X9_must (by decide) e167 rfl (Nat.le_of_ble_eq_true rfl) (Nat.le_of_ble_eq_true rfl) (t_X9_must E _ e165 isR_rfl) ?_
          obtain rfl := y0 r169
          exact MW.sub (subL_n (subL_n subL_nil)) J207
      · rw [if_neg c130] at hf
        refine mw_aload_n (x := (some a0)) dX9_behind_108 rfl ?_
        refine mw_iload_n (x := x5) dX9_behind_109 rfl ?_
        refine mw_iload_n (x := x5) dX9_behind_110 rfl ?_
        refine mw_iconst (v := 2) dX9_behind_111 (by decide) ?_
        obtain ⟨w187, h188, r189, hf⟩ := ob1 hf
        have J208 : MW E m_X9_behind (d + 3) mc ms 138 [some (vq (some a0)), none] [vi w187, vi x5, vq (some a0)] h188 K := by
          obtain ⟨g192, e193, hf⟩ := ob hf
          obtain ⟨h190, e191, hf⟩ := ob hf
          refine ml_callV (ci := 8) (mc' := 0) (ms' := 0) [vi x5, vi w187] dX9_behind_138 mk_X9_put lk_RX9_294 im_X9_put se_X9_put (by decide) e193 rfl (Nat.le_of_ble_eq_true rfl) (Nat.le_of_ble_eq_true rfl) (t_X9_put E _ e191 isR_rfl) ?_
          refine mw_aload_n (x := (some a0)) dX9_behind_141 rfl ?_
          obtain ⟨g196, e197, hf⟩ := ob hf
          obtain ⟨h194, e195, hf⟩ := ob hf
          refine ml_callV (ci := 8) (mc' := 0) (ms' := 0) [] dX9_behind_142 mk_X9_next lk_RX9_55 im_X9_next se_X9_next (by decide) e197 rfl (Nat.le_of_ble_eq_true rfl) (Nat.le_of_ble_eq_true rfl) (t_X9_next E _ e195 isR_rfl) ?_
          refine mw_iconst (v := 1) dX9_behind_145 (by decide) ?_
          obtain ⟨rfl, rfl⟩ := y1 hf
          exact mw_ireturn dX9_behind_146 rfl rfl hk
        refine mw_icmp_ne (tgt := 120) dX9_behind_112 rfl (fun c170 => ?_) (fun c170 => ?_)
        · rw [if_neg c170] at r189
          refine mw_iload_n (x := x5) dX9_behind_120 rfl ?_
          refine mw_iconst (v := 1) dX9_behind_121 (by decide) ?_
          refine mw_icmp_ne (tgt := 130) dX9_behind_122 rfl (fun c179 => ?_) (fun c179 => ?_)
          · rw [if_neg c179] at r189
            refine mw_aload_n (x := (some a0)) dX9_behind_130 rfl ?_
            refine mw_aload_n (x := (some a0)) dX9_behind_131 rfl ?_
            obtain ⟨x180, e181, r189⟩ := ob r189
            refine ml_getI dX9_behind_132 fl_RX9_20 rfl e181 ?_
            obtain ⟨g184, e185, r189⟩ := ob r189
            obtain ⟨x186, h182, e183, r189⟩ := ob1 r189
            refine ml_callV (ci := 8) (mc' := 0) (ms' := 0) [vi x180] dX9_behind_135 mk_X9_sign lk_RX9_23 im_X9_sign se_X9_sign (by decide) e185 rfl (Nat.le_of_ble_eq_true rfl) (Nat.le_of_ble_eq_true rfl) (t_X9_sign E _ e183 isR_rfl) ?_
            obtain ⟨rfl, rfl⟩ := y1 r189
            exact MW.sub (subL_s (subL_n subL_nil)) J208
          · rw [if_pos c179] at r189
            refine mw_bipush (v := 124) dX9_behind_125 (by decide) ?_
            refine mw_goto (tgt := 138) dX9_behind_127 rfl ?_
            obtain ⟨rfl, rfl⟩ := y1 r189
            exact MW.sub (subL_s (subL_n subL_nil)) J208
        · rw [if_pos c170] at r189
          refine mw_bipush (v := 38) dX9_behind_115 (by decide) ?_
          refine mw_goto (tgt := 138) dX9_behind_117 rfl ?_
          obtain ⟨rfl, rfl⟩ := y1 r189
          exact MW.sub (subL_s (subL_n subL_nil)) J208
    · rw [if_neg c128] at hf
      refine mw_aload_n (x := (some a0)) dX9_behind_17 rfl ?_
      obtain ⟨g202, e203, hf⟩ := ob hf
      obtain ⟨h200, e201, hf⟩ := ob hf
      refine ml_callV (ci := 8) (mc' := 0) (ms' := 0) [] dX9_behind_18 mk_X9_wrong lk_RX9_59 im_X9_wrong se_X9_wrong (by decide) e203 rfl (Nat.le_of_ble_eq_true rfl) (Nat.le_of_ble_eq_true rfl) (t_X9_wrong E _ e201 isR_rfl) ?_
      refine mw_iconst (v := 1) dX9_behind_21 (by decide) ?_
      obtain ⟨rfl, rfl⟩ := y1 hf
      exact mw_ireturn dX9_behind_22 rfl rfl hk
def f_X9_e_L19 : Nat → Nat → Int32 → Hp → Option ((Hp))
  | 0, _, _, _ => none
  | n + 1, a0, v1, h =>
    (rc h (some a0) 8).bind fun g11 =>
    b1 (f_X9_isGood g11 h) fun x13 h9 =>
    if x13 = (0 : Int32) then
      some h9
    else
      (getI h9 (some a0) 8 29).bind fun x15 =>
      if x15 ≤ (0 : Int32) then
        some h9
      else
        b1 ((if v1 = (0 : Int32) then
            (rc h9 (some a0) 8).bind fun g31 =>
            b1 (f_X9_behind g31 h9) fun x33 h29 =>
            some (x33, h29)
          else
            (rc h9 (some a0) 8).bind fun g36 =>
            b1 (f_X9_unit g36 h9) fun x38 h34 =>
            some (x38, h34) : Option (Int32 × Hp))) fun w39 h40 =>
        f_X9_e_L19 n a0 w39 h40
def f_X9_e (a0 : Nat) (h : Hp) : Option (Hp) :=
  (putI h (some a0) 8 29 0).bind fun h1 =>
  (putI h1 (some a0) 8 28 0).bind fun h3 =>
  (rc h3 (some a0) 8).bind fun g7 =>
  (f_X9_put g7 (8 : Int32) (0 : Int32) h3).bind fun h5 =>
  (f_X9_e_L19 fu a0 1 h5).bind fun h42 =>
  some h42
set_option maxHeartbeats 4000000 in
theorem tl_X9_e_19 (E : En) (d : Nat) {mc ms : Nat} {K : Option Vv → Hp → Prop} : ∀ (n : Nat) (a0 : Nat) (v1 : Int32) (h : Hp) (hz : Hp), f_X9_e_L19 n a0 v1 h = some hz → MW E m_X9_e (d + 4) mc ms 52 [none, none] [] hz K → MW E m_X9_e (d + 4) mc ms 19 [some (vq (some a0)), some (vi v1)] [] h K := by
  intro n
  induction n with
  | zero => intro a0 v1 h hz hf; exact nomatch (show none = some _ from hf)
  | succ n ih =>
    intro a0 v1 h hz hf hX52
    rw [f_X9_e_L19] at hf
    refine mw_aload_n (x := (some a0)) dX9_e_19 rfl ?_
    obtain ⟨g11, e12, hf⟩ := ob hf
    obtain ⟨x13, h9, e10, hf⟩ := ob1 hf
    refine ml_callV (ci := 8) (mc' := 0) (ms' := 0) [] dX9_e_20 mk_X9_isGood lk_RX9_51 im_X9_isGood se_X9_isGood (by decide) e12 rfl (Nat.le_of_ble_eq_true rfl) (Nat.le_of_ble_eq_true rfl) (t_X9_isGood E _ e10 isR_rfl) ?_
    refine mw_if_eq (tgt := 52) dX9_e_23 rfl (fun c14 => ?_) (fun c14 => ?_)
    · rw [if_pos c14] at hf
      obtain rfl := y0 hf
      exact MW.sub (subL_n (subL_n subL_nil)) hX52
    · rw [if_neg c14] at hf
      refine mw_aload_n (x := (some a0)) dX9_e_26 rfl ?_
      obtain ⟨x15, e16, hf⟩ := ob hf
      refine ml_getI dX9_e_27 fl_RX9_288 rfl e16 ?_
      refine mw_if_le (tgt := 52) dX9_e_30 rfl (fun c17 => ?_) (fun c17 => ?_)
      · rw [if_pos c17] at hf
        obtain rfl := y0 hf
        exact MW.sub (subL_n (subL_n subL_nil)) hX52
      · rw [if_neg c17] at hf
        refine mw_iload_n (x := v1) dX9_e_33 rfl ?_
        obtain ⟨w39, h40, r41, hf⟩ := ob1 hf
        have J45 : MW E m_X9_e (d + 4) mc ms 48 [some (vq (some a0)), none] [vi w39] h40 K := by
          refine mw_istore_n dX9_e_48 (by decide) rfl ?_
          refine mw_goto (tgt := 19) dX9_e_49 rfl ?_
          exact MW.sub (subL_s (subL_s subL_nil)) (ih _ _ _ _ hf hX52)
        refine mw_if_eq (tgt := 44) dX9_e_34 rfl (fun c18 => ?_) (fun c18 => ?_)
        · rw [if_pos c18] at r41
          refine mw_aload_n (x := (some a0)) dX9_e_44 rfl ?_
          obtain ⟨g31, e32, r41⟩ := ob r41
          obtain ⟨x33, h29, e30, r41⟩ := ob1 r41
          refine ml_callV (ci := 8) (mc' := 0) (ms' := 0) [] dX9_e_45 mk_X9_behind lk_RX9_300 im_X9_behind se_X9_behind (by decide) e32 rfl (Nat.le_of_ble_eq_true rfl) (Nat.le_of_ble_eq_true rfl) (t_X9_behind E _ e30 isR_rfl) ?_
          obtain ⟨rfl, rfl⟩ := y1 r41
          exact MW.sub (subL_s (subL_n subL_nil)) J45
        · rw [if_neg c18] at r41
          refine mw_aload_n (x := (some a0)) dX9_e_37 rfl ?_
          obtain ⟨g36, e37, r41⟩ := ob r41
          obtain ⟨x38, h34, e35, r41⟩ := ob1 r41
          refine ml_callV (ci := 8) (mc' := 0) (ms' := 0) [] dX9_e_38 mk_X9_unit lk_RX9_297 im_X9_unit se_X9_unit (by decide) e37 rfl (Nat.le_of_ble_eq_true rfl) (Nat.le_of_ble_eq_true rfl) (t_X9_unit E _ e35 isR_rfl) ?_
          refine mw_goto (tgt := 48) dX9_e_41 rfl ?_
          obtain ⟨rfl, rfl⟩ := y1 r41
          exact MW.sub (subL_s (subL_n subL_nil)) J45
set_option maxHeartbeats 4000000 in
theorem t_X9_e (E : En) (d : Nat) {mc ms : Nat} {a0 : Nat} {h h' : Hp} {K : Option Vv → Hp → Prop} (hf : f_X9_e a0 h = some h') (hk : K none h') : MC E m_X9_e (d + 4) mc ms [vq (some a0)] h K := by
  unfold f_X9_e at hf
  show MW E m_X9_e (d + 4) mc ms 0 [some (vq (some a0)), none] [] h K
  refine mw_aload_n (x := (some a0)) dX9_e_0 rfl ?_
  refine mw_iconst (v := 0) dX9_e_1 (by decide) ?_
  obtain ⟨h1, e2, hf⟩ := ob hf
  refine ml_putI dX9_e_2 fl_RX9_288 (Or.inl rfl) rfl rfl e2 ?_
  refine mw_aload_n (x := (some a0)) dX9_e_5 rfl ?_
  refine mw_iconst (v := 0) dX9_e_6 (by decide) ?_
  obtain ⟨h3, e4, hf⟩ := ob hf
  refine ml_putI dX9_e_7 fl_RX9_291 (Or.inl rfl) rfl rfl e4 ?_
  refine mw_aload_n (x := (some a0)) dX9_e_10 rfl ?_
  refine mw_bipush (v := 8) dX9_e_11 (by decide) ?_
  refine mw_iconst (v := 0) dX9_e_13 (by decide) ?_
  obtain ⟨g7, e8, hf⟩ := ob hf
  obtain ⟨h5, e6, hf⟩ := ob hf
  refine ml_callV (ci := 8) (mc' := 0) (ms' := 0) [vi (8 : Int32), vi (0 : Int32)] dX9_e_14 mk_X9_put lk_RX9_294 im_X9_put se_X9_put (by decide) e8 rfl (Nat.le_of_ble_eq_true rfl) (Nat.le_of_ble_eq_true rfl) (t_X9_put E _ e6 isR_rfl) ?_
  refine mw_iconst (v := 1) dX9_e_17 (by decide) ?_
  refine mw_istore_n dX9_e_18 (by decide) rfl ?_
  obtain ⟨h42, e43, hf⟩ := ob hf
  refine MW.sub (subL_s (subL_s subL_nil)) (tl_X9_e_19 E d _ _ _ _ _ e43 ?_)
  obtain rfl := y0 hf
  exact mw_return dX9_e_52 rfl hk
def f_X9_readWhen (a0 : Nat) (v1 : Int32) (h : Hp) : Option (Hp) :=
  (rc h (some a0) 8).bind fun g3 =>
  b1 (f_X9_isWord g3 2003330414 h) fun x5 h1 =>
  (rc h1 (some a0) 8).bind fun g8 =>
  (f_X9_must g8 x5 h1).bind fun h6 =>
  (getQ h6 (some a0) 8 16).bind fun x10 =>
  (getI h6 (some a0) 8 26).bind fun x12 =>
  (wrI h6 x10 ((44 : Int32) + v1) x12).bind fun h14 =>
  (rc h14 (some a0) 8).bind fun g18 =>
  b1 (f_X9_isGood g18 h14) fun x20 h16 =>
  Option.bind ((if x20 = (0 : Int32) then
      some h16
    else
      (rc h16 (some a0) 8).bind fun g28 =>
      (f_X9_e g28 h16).bind fun h26 =>
      some h26 : Option (Hp))) fun h30 =>
  (getQ h30 (some a0) 8 17).bind fun x32 =>
  (getI h30 (some a0) 8 26).bind fun x34 =>
  (wrI h30 x32 ((44 : Int32) + v1) x34).bind fun h36 =>
  some h36
set_option maxHeartbeats 4000000 in
theorem t_X9_readWhen (E : En) (d : Nat) {mc ms : Nat} {a0 : Nat} {v1 : Int32} {h h' : Hp} {K : Option Vv → Hp → Prop} (hf : f_X9_readWhen a0 v1 h = some h') (hk : K none h') : MC E m_X9_readWhen (d + 5) mc ms [vq (some a0), vi v1] h K := by
  unfold f_X9_readWhen at hf
  show MW E m_X9_readWhen (d + 5) mc ms 0 [some (vq (some a0)), some (vi v1)] [] h K
  refine mw_aload_n (x := (some a0)) dX9_readWhen_0 rfl ?_
  refine mw_aload_n (x := (some a0)) dX9_readWhen_1 rfl ?_
  refine mw_ldc2 dX9_readWhen_2 kc_RX9_277 ?_
  obtain ⟨g3, e4, hf⟩ := ob hf
  obtain ⟨x5, h1, e2, hf⟩ := ob1 hf
  refine ml_callV (ci := 8) (mc' := 0) (ms' := 0) [vl 2003330414] dX9_readWhen_5 mk_X9_isWord lk_RX9_223 im_X9_isWord se_X9_isWord (by decide) e4 rfl (Nat.le_of_ble_eq_true rfl) (Nat.le_of_ble_eq_true rfl) (t_X9_isWord E _ e2 isR_rfl) ?_
  obtain ⟨g8, e9, hf⟩ := ob hf
  obtain ⟨h6, e7, hf⟩ := ob hf
  refine ml_callV (ci := 8) (mc' := 0) (ms' := 0) [vi x5] dX9_readWhen_8 mk_X9_must lk_RX9_269 im_X9_must se_X9_must (by decide) e9 rfl (Nat.le_of_ble_eq_true rfl) (Nat.le_of_ble_eq_true rfl) (t_X9_must E _ e7 isR_rfl) ?_
  refine mw_aload_n (x := (some a0)) dX9_readWhen_11 rfl ?_
  obtain ⟨x10, e11, hf⟩ := ob hf
  refine ml_getQ dX9_readWhen_12 fl_RX9_96 rfl e11 ?_
  refine mw_bipush (v := 44) dX9_readWhen_15 (by decide) ?_
  refine mw_iload_n (x := v1) dX9_readWhen_17 rfl ?_
  refine mw_iadd dX9_readWhen_18 ?_
  refine mw_aload_n (x := (some a0)) dX9_readWhen_19 rfl ?_
  obtain ⟨x12, e13, hf⟩ := ob hf
  refine ml_getI dX9_readWhen_20 fl_RX9_209 rfl e13 ?_
  obtain ⟨h14, e15, hf⟩ := ob hf
  refine ml_iast dX9_readWhen_23 e15 ?_
  refine mw_aload_n (x := (some a0)) dX9_readWhen_24 rfl ?_
  obtain ⟨g18, e19, hf⟩ := ob hf
  obtain ⟨x20, h16, e17, hf⟩ := ob1 hf
  refine ml_callV (ci := 8) (mc' := 0) (ms' := 0) [] dX9_readWhen_25 mk_X9_isGood lk_RX9_51 im_X9_isGood se_X9_isGood (by decide) e19 rfl (Nat.le_of_ble_eq_true rfl) (Nat.le_of_ble_eq_true rfl) (t_X9_isGood E _ e17 isR_rfl) ?_
  obtain ⟨h30, r31, hf⟩ := ob hf
  have J38 : MW E m_X9_readWhen (d + 5) mc ms 35 [some (vq (some a0)), some (vi v1)] [] h30 K := by
    refine mw_aload_n (x := (some a0)) dX9_readWhen_35 rfl ?_
    obtain ⟨x32, e33, hf⟩ := ob hf
    refine ml_getQ dX9_readWhen_36 fl_RX9_99 rfl e33 ?_
    refine mw_bipush (v := 44) dX9_readWhen_39 (by decide) ?_
    refine mw_iload_n (x := v1) dX9_readWhen_41 rfl ?_
    refine mw_iadd dX9_readWhen_42 ?_
    refine mw_aload_n (x := (some a0)) dX9_readWhen_43 rfl ?_
    obtain ⟨x34, e35, hf⟩ := ob hf
    refine ml_getI dX9_readWhen_44 fl_RX9_209 rfl e35 ?_
    obtain ⟨h36, e37, hf⟩ := ob hf
    refine ml_iast dX9_readWhen_47 e37 ?_
    obtain rfl := y0 hf
    exact mw_return dX9_readWhen_48 rfl hk
  refine mw_if_eq (tgt := 35) dX9_readWhen_28 rfl (fun c21 => ?_) (fun c21 => ?_)
  · rw [if_pos c21] at r31
    obtain rfl := y0 r31
    exact MW.sub (subL_s (subL_s subL_nil)) J38
  · rw [if_neg c21] at r31
    refine mw_aload_n (x := (some a0)) dX9_readWhen_31 rfl ?_
    obtain ⟨g28, e29, r31⟩ := ob r31
    obtain ⟨h26, e27, r31⟩ := ob r31
    refine ml_callV (ci := 8) (mc' := 0) (ms' := 0) [] dX9_readWhen_32 mk_X9_e lk_RX9_279 im_X9_e se_X9_e (by decide) e29 rfl (Nat.le_of_ble_eq_true rfl) (Nat.le_of_ble_eq_true rfl) (t_X9_e E _ e27 isR_rfl) ?_
    obtain rfl := y0 r31
    exact MW.sub (subL_s (subL_s subL_nil)) J38
def f_X9_readCounts (a0 : Nat) (h : Hp) : Option (Hp) :=
  (getQ h (some a0) 8 13).bind fun x1 =>
  (rdI h x1 10 4).bind fun x3 =>
  (rc h (some a0) 8).bind fun g7 =>
  b1 (f_X9_kindHere g7 h) fun x9 h5 =>
  b1 ((if x9 < (0 : Int32) then
      some (0, h5)
    else
      some (1, h5) : Option (Int32 × Hp))) fun w11 h12 =>
  (rc h12 (some a0) 8).bind fun g16 =>
  (f_X9_must g16 w11 h12).bind fun h14 =>
  (getQ h14 (some a0) 8 14).bind fun x18 =>
  (wrI h14 x18 ((44 : Int32) + x3) x9).bind fun h20 =>
  (getQ h20 (some a0) 8 15).bind fun x22 =>
  (rc h20 (some a0) 8).bind fun g26 =>
  b1 (f_X9_numeral g26 (0 : Int32) (100 : Int32) h20) fun x28 h24 =>
  (wrI h24 x22 ((44 : Int32) + x3) x28).bind fun h29 =>
  (rc h29 (some a0) 8).bind fun g33 =>
  (f_X9_readWhen g33 x3 h29).bind fun h31 =>
  (rc h31 (some a0) 8).bind fun g37 =>
  b1 (f_X9_isGood g37 h31) fun x39 h35 =>
  Option.bind ((if x39 = (0 : Int32) then
      some h35
    else
      (getQ h35 (some a0) 8 13).bind fun x47 =>
      (rdI h35 x47 10 4).bind fun x49 =>
      (wrI h35 x47 4 (x49 + (1 : Int32))).bind fun h51 =>
      some h51 : Option (Hp))) fun h53 =>
  some h53
set_option maxHeartbeats 4000000 in
theorem t_X9_readCounts (E : En) (d : Nat) {mc ms : Nat} {a0 : Nat} {h h' : Hp} {K : Option Vv → Hp → Prop} (hf : f_X9_readCounts a0 h = some h') (hk : K none h') : MC E m_X9_readCounts (d + 6) mc ms [vq (some a0)] h K := by
  unfold f_X9_readCounts at hf
  show MW E m_X9_readCounts (d + 6) mc ms 0 [some (vq (some a0)), none, none] [] h K
  refine mw_aload_n (x := (some a0)) dX9_readCounts_0 rfl ?_
  obtain ⟨x1, e2, hf⟩ := ob hf
  refine ml_getQ dX9_readCounts_1 fl_RX9_76 rfl e2 ?_
  refine mw_iconst (v := 4) dX9_readCounts_4 (by decide) ?_
  obtain ⟨x3, e4, hf⟩ := ob hf
  refine ml_iald dX9_readCounts_5 e4 ?_
  refine mw_istore_n dX9_readCounts_6 (by decide) rfl ?_
  refine mw_aload_n (x := (some a0)) dX9_readCounts_7 rfl ?_
  obtain ⟨g7, e8, hf⟩ := ob hf
  obtain ⟨x9, h5, e6, hf⟩ := ob1 hf
  refine ml_callV (ci := 8) (mc' := 0) (ms' := 0) [] dX9_readCounts_8 mk_X9_kindHere lk_RX9_282 im_X9_kindHere se_X9_kindHere (by decide) e8 rfl (Nat.le_of_ble_eq_true rfl) (Nat.le_of_ble_eq_true rfl) (t_X9_kindHere E _ e6 isR_rfl) ?_
  refine mw_istore_n dX9_readCounts_11 (by decide) rfl ?_
  refine mw_aload_n (x := (some a0)) dX9_readCounts_12 rfl ?_
  refine mw_iload_n (x := x9) dX9_readCounts_13 rfl ?_
  obtain ⟨w11, h12, r13, hf⟩ := ob1 hf
  have J55 : MW E m_X9_readCounts (d + 6) mc ms 22 [some (vq (some a0)), some (vi x3), some (vi x9)] [vi w11, vq (some a0)] h12 K := by
    obtain ⟨g16, e17, hf⟩ := ob hf
    obtain ⟨h14, e15, hf⟩ := ob hf
    refine ml_callV (ci := 8) (mc' := 0) (ms' := 0) [vi w11] dX9_readCounts_22 mk_X9_must lk_RX9_269 im_X9_must se_X9_must (by decide) e17 rfl (Nat.le_of_ble_eq_true rfl) (Nat.le_of_ble_eq_true rfl) (t_X9_must E _ e15 isR_rfl) ?_
    refine mw_aload_n (x := (some a0)) dX9_readCounts_25 rfl ?_
    obtain ⟨x18, e19, hf⟩ := ob hf
    refine ml_getQ dX9_readCounts_26 fl_RX9_90 rfl e19 ?_
    refine mw_bipush (v := 44) dX9_readCounts_29 (by decide) ?_
    refine mw_iload_n (x := x3) dX9_readCounts_31 rfl ?_
    refine mw_iadd dX9_readCounts_32 ?_
    refine mw_iload_n (x := x9) dX9_readCounts_33 rfl ?_
    obtain ⟨h20, e21, hf⟩ := ob hf
    refine ml_iast dX9_readCounts_34 e21 ?_
    refine mw_aload_n (x := (some a0)) dX9_readCounts_35 rfl ?_
    obtain ⟨x22, e23, hf⟩ := ob hf
    refine ml_getQ dX9_readCounts_36 fl_RX9_93 rfl e23 ?_
    refine mw_bipush (v := 44) dX9_readCounts_39 (by decide) ?_
    refine mw_iload_n (x := x3) dX9_readCounts_41 rfl ?_
    refine mw_iadd dX9_readCounts_42 ?_
    refine mw_aload_n (x := (some a0)) dX9_readCounts_43 rfl ?_
    refine mw_iconst (v := 0) dX9_readCounts_44 (by decide) ?_
    refine mw_bipush (v := 100) dX9_readCounts_45 (by decide) ?_
    obtain ⟨g26, e27, hf⟩ := ob hf
    obtain ⟨x28, h24, e25, hf⟩ := ob1 hf
    refine ml_callV (ci := 8) (mc' := 0) (ms' := 0) [vi (0 : Int32), vi (100 : Int32)] dX9_readCounts_47 mk_X9_numeral lk_RX9_273 im_X9_numeral se_X9_numeral (by decide) e27 rfl (Nat.le_of_ble_eq_true rfl) (Nat.le_of_ble_eq_true rfl) (t_X9_numeral E _ e25 isR_rfl) ?_
    obtain ⟨h29, e30, hf⟩ := ob hf
    refine ml_iast dX9_readCounts_50 e30 ?_
    refine mw_aload_n (x := (some a0)) dX9_readCounts_51 rfl ?_
    refine mw_iload_n (x := x3) dX9_readCounts_52 rfl ?_
    obtain ⟨g33, e34, hf⟩ := ob hf
    obtain ⟨h31, e32, hf⟩ := ob hf
    refine ml_callV (ci := 8) (mc' := 0) (ms' := 0) [vi x3] dX9_readCounts_53 mk_X9_readWhen lk_RX9_285 im_X9_readWhen se_X9_readWhen (by decide) e34 rfl (Nat.le_of_ble_eq_true rfl) (Nat.le_of_ble_eq_true rfl) (t_X9_readWhen E _ e32 isR_rfl) ?_
    refine mw_aload_n (x := (some a0)) dX9_readCounts_56 rfl ?_
    obtain ⟨g37, e38, hf⟩ := ob hf
    obtain ⟨x39, h35, e36, hf⟩ := ob1 hf
    refine ml_callV (ci := 8) (mc' := 0) (ms' := 0) [] dX9_readCounts_57 mk_X9_isGood lk_RX9_51 im_X9_isGood se_X9_isGood (by decide) e38 rfl (Nat.le_of_ble_eq_true rfl) (Nat.le_of_ble_eq_true rfl) (t_X9_isGood E _ e36 isR_rfl) ?_
    obtain ⟨h53, r54, hf⟩ := ob hf
    have J56 : MW E m_X9_readCounts (d + 6) mc ms 73 [none, none, none] [] h53 K := by
      obtain rfl := y0 hf
      exact mw_return dX9_readCounts_73 rfl hk
    refine mw_if_eq (tgt := 73) dX9_readCounts_60 rfl (fun c40 => ?_) (fun c40 => ?_)
    · rw [if_pos c40] at r54
      obtain rfl := y0 r54
      exact MW.sub (subL_n (subL_n (subL_n subL_nil))) J56
    · rw [if_neg c40] at r54
      refine mw_aload_n (x := (some a0)) dX9_readCounts_63 rfl ?_
      obtain ⟨x47, e48, r54⟩ := ob r54
      refine ml_getQ dX9_readCounts_64 fl_RX9_76 rfl e48 ?_
      refine mw_iconst (v := 4) dX9_readCounts_67 (by decide) ?_
      refine mw_dup2iq dX9_readCounts_68 ?_
      obtain ⟨x49, e50, r54⟩ := ob r54
      refine ml_iald dX9_readCounts_69 e50 ?_
      refine mw_iconst (v := 1) dX9_readCounts_70 (by decide) ?_
      refine mw_iadd dX9_readCounts_71 ?_
      obtain ⟨h51, e52, r54⟩ := ob r54
      refine ml_iast dX9_readCounts_72 e52 ?_
      obtain rfl := y0 r54
      exact MW.sub (subL_n (subL_n (subL_n subL_nil))) J56
  refine mw_if_lt (tgt := 21) dX9_readCounts_14 rfl (fun c10 => ?_) (fun c10 => ?_)
  · rw [if_pos c10] at r13
    refine mw_iconst (v := 0) dX9_readCounts_21 (by decide) ?_
    obtain ⟨rfl, rfl⟩ := y1 r13
    exact MW.sub (subL_s (subL_s (subL_s subL_nil))) J55
  · rw [if_neg c10] at r13
    refine mw_iconst (v := 1) dX9_readCounts_17 (by decide) ?_
    refine mw_goto (tgt := 22) dX9_readCounts_18 rfl ?_
    obtain ⟨rfl, rfl⟩ := y1 r13
    exact MW.sub (subL_s (subL_s (subL_s subL_nil))) J55
def f_X9_readEmpty (a0 : Nat) (h : Hp) : Option (Hp) :=
  (rc h (some a0) 8).bind fun g3 =>
  (f_X9_readWhen g3 (10 : Int32) h).bind fun h1 =>
  (getQ h1 (some a0) 8 24).bind fun x5 =>
  (wrZ h1 x5 4 1).bind fun h7 =>
  some h7
set_option maxHeartbeats 4000000 in
theorem t_X9_readEmpty (E : En) (d : Nat) {mc ms : Nat} {a0 : Nat} {h h' : Hp} {K : Option Vv → Hp → Prop} (hf : f_X9_readEmpty a0 h = some h') (hk : K none h') : MC E m_X9_readEmpty (d + 6) mc ms [vq (some a0)] h K := by
  unfold f_X9_readEmpty at hf
  show MW E m_X9_readEmpty (d + 6) mc ms 0 [some (vq (some a0))] [] h K
  refine mw_aload_n (x := (some a0)) dX9_readEmpty_0 rfl ?_
  refine mw_bipush (v := 10) dX9_readEmpty_1 (by decide) ?_
  obtain ⟨g3, e4, hf⟩ := ob hf
  obtain ⟨h1, e2, hf⟩ := ob hf
  refine ml_callV (ci := 8) (mc' := 0) (ms' := 0) [vi (10 : Int32)] dX9_readEmpty_3 mk_X9_readWhen lk_RX9_285 im_X9_readWhen se_X9_readWhen (by decide) e4 rfl (Nat.le_of_ble_eq_true rfl) (Nat.le_of_ble_eq_true rfl) (t_X9_readWhen E _ e2 isR_rfl) ?_
  refine mw_aload_n (x := (some a0)) dX9_readEmpty_6 rfl ?_
  obtain ⟨x5, e6, hf⟩ := ob hf
  refine ml_getQ dX9_readEmpty_7 fl_RX9_79 rfl e6 ?_
  refine mw_iconst (v := 4) dX9_readEmpty_10 (by decide) ?_
  refine mw_iconst (v := 1) dX9_readEmpty_11 (by decide) ?_
  obtain ⟨h7, e8, hf⟩ := ob hf
  refine ml_zast dX9_readEmpty_12 e8 ?_
  obtain rfl := y0 hf
  exact mw_return dX9_readEmpty_13 rfl hk
def f_X9_readNumber (a0 : Nat) (v1 : Int32) (h : Hp) : Option (Hp) :=
  b1 ((if (4 : Int32) ≤ v1 then
      some (0, h)
    else
      some (1, h) : Option (Int32 × Hp))) fun w2 h3 =>
  b1 ((if v1 = (0 : Int32) then
      some (52, h3)
    else
      if v1 = (1 : Int32) then
        some (104, h3)
      else
        if v1 = (2 : Int32) then
          some (7, h3)
        else
          if v1 = (5 : Int32) then
            some (9999, h3)
          else
            some (999, h3) : Option (Int32 × Hp))) fun w12 h13 =>
  (getQ h13 (some a0) 8 11).bind fun x15 =>
  (rc h13 (some a0) 8).bind fun g19 =>
  b1 (f_X9_numeral g19 w2 w12 h13) fun x21 h17 =>
  (wrI h17 x15 ((28 : Int32) + v1) x21).bind fun h22 =>
  (getQ h22 (some a0) 8 23).bind fun x24 =>
  (wrZ h22 x24 ((28 : Int32) + v1) 1).bind fun h26 =>
  some h26
set_option maxHeartbeats 4000000 in
theorem t_X9_readNumber (E : En) (d : Nat) {mc ms : Nat} {a0 : Nat} {v1 : Int32} {h h' : Hp} {K : Option Vv → Hp → Prop} (hf : f_X9_readNumber a0 v1 h = some h') (hk : K none h') : MC E m_X9_readNumber (d + 3) mc ms [vq (some a0), vi v1] h K := by
  unfold f_X9_readNumber at hf
  show MW E m_X9_readNumber (d + 3) mc ms 0 [some (vq (some a0)), some (vi v1), none, none] [] h K
  refine mw_iload_n (x := v1) dX9_readNumber_0 rfl ?_
  refine mw_iconst (v := 4) dX9_readNumber_1 (by decide) ?_
  obtain ⟨w2, h3, r4, hf⟩ := ob1 hf
  have J28 : MW E m_X9_readNumber (d + 3) mc ms 10 [some (vq (some a0)), some (vi v1), none, none] [vi w2] h3 K := by
    refine mw_istore_n dX9_readNumber_10 (by decide) rfl ?_
    refine mw_iload_n (x := v1) dX9_readNumber_11 rfl ?_
    obtain ⟨w12, h13, r14, hf⟩ := ob1 hf
    have J29 : MW E m_X9_readNumber (d + 3) mc ms 54 [some (vq (some a0)), some (vi v1), some (vi w2), none] [vi w12] h13 K := by
      refine mw_istore_n dX9_readNumber_54 (by decide) rfl ?_
      refine mw_aload_n (x := (some a0)) dX9_readNumber_55 rfl ?_
      obtain ⟨x15, e16, hf⟩ := ob hf
      refine ml_getQ dX9_readNumber_56 fl_RX9_62 rfl e16 ?_
      refine mw_bipush (v := 28) dX9_readNumber_59 (by decide) ?_
      refine mw_iload_n (x := v1) dX9_readNumber_61 rfl ?_
      refine mw_iadd dX9_readNumber_62 ?_
      refine mw_aload_n (x := (some a0)) dX9_readNumber_63 rfl ?_
      refine mw_iload_n (x := w2) dX9_readNumber_64 rfl ?_
      refine mw_iload_n (x := w12) dX9_readNumber_65 rfl ?_
      obtain ⟨g19, e20, hf⟩ := ob hf
      obtain ⟨x21, h17, e18, hf⟩ := ob1 hf
      refine ml_callV (ci := 8) (mc' := 0) (ms' := 0) [vi w2, vi w12] dX9_readNumber_66 mk_X9_numeral lk_RX9_273 im_X9_numeral se_X9_numeral (by decide) e20 rfl (Nat.le_of_ble_eq_true rfl) (Nat.le_of_ble_eq_true rfl) (t_X9_numeral E _ e18 isR_rfl) ?_
      obtain ⟨h22, e23, hf⟩ := ob hf
      refine ml_iast dX9_readNumber_69 e23 ?_
      refine mw_aload_n (x := (some a0)) dX9_readNumber_70 rfl ?_
      obtain ⟨x24, e25, hf⟩ := ob hf
      refine ml_getQ dX9_readNumber_71 fl_RX9_69 rfl e25 ?_
      refine mw_bipush (v := 28) dX9_readNumber_74 (by decide) ?_
      refine mw_iload_n (x := v1) dX9_readNumber_76 rfl ?_
      refine mw_iadd dX9_readNumber_77 ?_
      refine mw_iconst (v := 1) dX9_readNumber_78 (by decide) ?_
      obtain ⟨h26, e27, hf⟩ := ob hf
      refine ml_zast dX9_readNumber_79 e27 ?_
      obtain rfl := y0 hf
      exact mw_return dX9_readNumber_80 rfl hk
    refine mw_if_ne (tgt := 20) dX9_readNumber_12 rfl (fun c5 => ?_) (fun c5 => ?_)
    · rw [if_neg c5] at r14
      refine mw_iload_n (x := v1) dX9_readNumber_20 rfl ?_
      refine mw_iconst (v := 1) dX9_readNumber_21 (by decide) ?_
      refine mw_icmp_ne (tgt := 30) dX9_readNumber_22 rfl (fun c9 => ?_) (fun c9 => ?_)
      · rw [if_neg c9] at r14
        refine mw_iload_n (x := v1) dX9_readNumber_30 rfl ?_
        refine mw_iconst (v := 2) dX9_readNumber_31 (by decide) ?_
        refine mw_icmp_ne (tgt := 40) dX9_readNumber_32 rfl (fun c10 => ?_) (fun c10 => ?_)
        · rw [if_neg c10] at r14
          refine mw_iload_n (x := v1) dX9_readNumber_40 rfl ?_
          refine mw_iconst (v := 5) dX9_readNumber_41 (by decide) ?_
          refine mw_icmp_ne (tgt := 51) dX9_readNumber_42 rfl (fun c11 => ?_) (fun c11 => ?_)
          · rw [if_neg c11] at r14
            refine mw_sipush (v := 999) dX9_readNumber_51 (by decide) ?_
            obtain ⟨rfl, rfl⟩ := y1 r14
            exact MW.sub (subL_s (subL_s (subL_s (subL_n subL_nil)))) J29
          · rw [if_pos c11] at r14
            refine mw_sipush (v := 9999) dX9_readNumber_45 (by decide) ?_
            refine mw_goto (tgt := 54) dX9_readNumber_48 rfl ?_
            obtain ⟨rfl, rfl⟩ := y1 r14
            exact MW.sub (subL_s (subL_s (subL_s (subL_n subL_nil)))) J29
        · rw [if_pos c10] at r14
          refine mw_bipush (v := 7) dX9_readNumber_35 (by decide) ?_
          refine mw_goto (tgt := 54) dX9_readNumber_37 rfl ?_
          obtain ⟨rfl, rfl⟩ := y1 r14
          exact MW.sub (subL_s (subL_s (subL_s (subL_n subL_nil)))) J29
      · rw [if_pos c9] at r14
        refine mw_bipush (v := 104) dX9_readNumber_25 (by decide) ?_
        refine mw_goto (tgt := 54) dX9_readNumber_27 rfl ?_
        obtain ⟨rfl, rfl⟩ := y1 r14
        exact MW.sub (subL_s (subL_s (subL_s (subL_n subL_nil)))) J29
    · rw [if_pos c5] at r14
      refine mw_bipush (v := 52) dX9_readNumber_15 (by decide) ?_
      refine mw_goto (tgt := 54) dX9_readNumber_17 rfl ?_
      obtain ⟨rfl, rfl⟩ := y1 r14
      exact MW.sub (subL_s (subL_s (subL_s (subL_n subL_nil)))) J29
  refine mw_icmp_ge (tgt := 9) dX9_readNumber_2 rfl (fun c1 => ?_) (fun c1 => ?_)
  · rw [if_pos c1] at r4
    refine mw_iconst (v := 0) dX9_readNumber_9 (by decide) ?_
    obtain ⟨rfl, rfl⟩ := y1 r4
    exact MW.sub (subL_s (subL_s (subL_n (subL_n subL_nil)))) J28
  · rw [if_neg c1] at r4
    refine mw_iconst (v := 1) dX9_readNumber_5 (by decide) ?_
    refine mw_goto (tgt := 10) dX9_readNumber_6 rfl ?_
    obtain ⟨rfl, rfl⟩ := y1 r4
    exact MW.sub (subL_s (subL_s (subL_n (subL_n subL_nil)))) J28
def f_X9_readLine (a0 : Nat) (h : Hp) : Option (Hp) :=
  (rc h (some a0) 8).bind fun g3 =>
  b1 (f_X9_isWord g3 109330362692723 h) fun x5 h1 =>
  (rc h1 (some a0) 8).bind fun g8 =>
  b1 (f_X9_isWord g8 435627783289 h1) fun x10 h6 =>
  (rc h6 (some a0) 8).bind fun g13 =>
  b1 (f_X9_numberHere g13 h6) fun x15 h11 =>
  b1 ((if x5 = (0 : Int32) then
      if x10 = (0 : Int32) then
        if x15 < (0 : Int32) then
          some (1, h11)
        else
          (getQ h11 (some a0) 8 23).bind fun x35 =>
          (rdI h11 x35 12 ((28 : Int32) + x15)).bind fun x37 =>
          if x37 = (0 : Int32) then
            some (0, h11)
          else
            some (1, h11)
      else
        (getQ h11 (some a0) 8 24).bind fun x40 =>
        (rdI h11 x40 12 4).bind fun x42 =>
        some (x42, h11)
    else
      (getQ h11 (some a0) 8 13).bind fun x44 =>
      (rdI h11 x44 10 4).bind fun x46 =>
      if x46 = (10 : Int32) then
        some (1, h11)
      else
        some (0, h11) : Option (Int32 × Hp))) fun w49 h50 =>
  Option.bind ((if w49 = (0 : Int32) then
      some h50
    else
      (rc h50 (some a0) 8).bind fun g59 =>
      (f_X9_wrong g59 h50).bind fun h57 =>
      some h57 : Option (Hp))) fun h61 =>
  (rc h61 (some a0) 8).bind fun g65 =>
  b1 (f_X9_isGood g65 h61) fun x67 h63 =>
  if x67 = (0 : Int32) then
    some h63
  else
    (rc h63 (some a0) 8).bind fun g71 =>
    (f_X9_next g71 h63).bind fun h69 =>
    Option.bind ((if x5 = (0 : Int32) then
        if x10 = (0 : Int32) then
          (rc h69 (some a0) 8).bind fun g90 =>
          (f_X9_readNumber g90 x15 h69).bind fun h88 =>
          some h88
        else
          (rc h69 (some a0) 8).bind fun g94 =>
          (f_X9_readEmpty g94 h69).bind fun h92 =>
          some h92
      else
        (rc h69 (some a0) 8).bind fun g98 =>
        (f_X9_readCounts g98 h69).bind fun h96 =>
        some h96 : Option (Hp))) fun h100 =>
    (rc h100 (some a0) 8).bind fun g104 =>
    b1 (f_X9_is g104 (59 : Int32) h100) fun x106 h102 =>
    (rc h102 (some a0) 8).bind fun g109 =>
    (f_X9_must g109 x106 h102).bind fun h107 =>
    (getQ h107 (some a0) 8 12).bind fun x111 =>
    (rdI h107 x111 10 4).bind fun x113 =>
    (wrI h107 x111 4 (x113 + (1 : Int32))).bind fun h115 =>
    some h115
set_option maxHeartbeats 4000000 in
theorem t_X9_readLine (E : En) (d : Nat) {mc ms : Nat} {a0 : Nat} {h h' : Hp} {K : Option Vv → Hp → Prop} (hf : f_X9_readLine a0 h = some h') (hk : K none h') : MC E m_X9_readLine (d + 7) mc ms [vq (some a0)] h K := by
  unfold f_X9_readLine at hf
  show MW E m_X9_readLine (d + 7) mc ms 0 [some (vq (some a0)), none, none, none, none] [] h K
  refine mw_aload_n (x := (some a0)) dX9_readLine_0 rfl ?_
  refine mw_ldc2 dX9_readLine_1 kc_RX9_249 ?_
  obtain ⟨g3, e4, hf⟩ := ob hf
  obtain ⟨x5, h1, e2, hf⟩ := ob1 hf
  refine ml_callV (ci := 8) (mc' := 0) (ms' := 0) [vl 109330362692723] dX9_readLine_4 mk_X9_isWord lk_RX9_223 im_X9_isWord se_X9_isWord (by decide) e4 rfl (Nat.le_of_ble_eq_true rfl) (Nat.le_of_ble_eq_true rfl) (t_X9_isWord E _ e2 isR_rfl) ?_
  refine mw_istore_n dX9_readLine_7 (by decide) rfl ?_
  refine mw_aload_n (x := (some a0)) dX9_readLine_8 rfl ?_
  refine mw_ldc2 dX9_readLine_9 kc_RX9_251 ?_
  obtain ⟨g8, e9, hf⟩ := ob hf
  obtain ⟨x10, h6, e7, hf⟩ := ob1 hf
  refine ml_callV (ci := 8) (mc' := 0) (ms' := 0) [vl 435627783289] dX9_readLine_12 mk_X9_isWord lk_RX9_223 im_X9_isWord se_X9_isWord (by decide) e9 rfl (Nat.le_of_ble_eq_true rfl) (Nat.le_of_ble_eq_true rfl) (t_X9_isWord E _ e7 isR_rfl) ?_
  refine mw_istore_n dX9_readLine_15 (by decide) rfl ?_
  refine mw_aload_n (x := (some a0)) dX9_readLine_16 rfl ?_
  obtain ⟨g13, e14, hf⟩ := ob hf
  obtain ⟨x15, h11, e12, hf⟩ := ob1 hf
  refine ml_callV (ci := 8) (mc' := 0) (ms' := 0) [] dX9_readLine_17 mk_X9_numberHere lk_RX9_253 im_X9_numberHere se_X9_numberHere (by decide) e14 rfl (Nat.le_of_ble_eq_true rfl) (Nat.le_of_ble_eq_true rfl) (t_X9_numberHere E _ e12 isR_rfl) ?_
  refine mw_istore_n dX9_readLine_20 (by decide) rfl ?_
  refine mw_iload_n (x := x5) dX9_readLine_21 rfl ?_
  obtain ⟨w49, h50, r51, hf⟩ := ob1 hf
  have J117 : MW E m_X9_readLine (d + 7) mc ms 78 [some (vq (some a0)), some (vi x5), some (vi x10), some (vi x15), none] [vi w49] h50 K := by
    refine mw_istore dX9_readLine_78 (by decide) rfl ?_
    refine mw_iload (x := w49) dX9_readLine_80 rfl ?_
    obtain ⟨h61, r62, hf⟩ := ob hf
    have J118 : MW E m_X9_readLine (d + 7) mc ms 89 [some (vq (some a0)), some (vi x5), some (vi x10), some (vi x15), none] [] h61 K := by
      refine mw_aload_n (x := (some a0)) dX9_readLine_89 rfl ?_
      obtain ⟨g65, e66, hf⟩ := ob hf
      obtain ⟨x67, h63, e64, hf⟩ := ob1 hf
      refine ml_callV (ci := 8) (mc' := 0) (ms' := 0) [] dX9_readLine_90 mk_X9_isGood lk_RX9_51 im_X9_isGood se_X9_isGood (by decide) e66 rfl (Nat.le_of_ble_eq_true rfl) (Nat.le_of_ble_eq_true rfl) (t_X9_isGood E _ e64 isR_rfl) ?_
      refine mw_if_ne (tgt := 97) dX9_readLine_93 rfl (fun c68 => ?_) (fun c68 => ?_)
      · rw [if_neg c68] at hf
        refine mw_aload_n (x := (some a0)) dX9_readLine_97 rfl ?_
        obtain ⟨g71, e72, hf⟩ := ob hf
        obtain ⟨h69, e70, hf⟩ := ob hf
        refine ml_callV (ci := 8) (mc' := 0) (ms' := 0) [] dX9_readLine_98 mk_X9_next lk_RX9_55 im_X9_next se_X9_next (by decide) e72 rfl (Nat.le_of_ble_eq_true rfl) (Nat.le_of_ble_eq_true rfl) (t_X9_next E _ e70 isR_rfl) ?_
        refine mw_iload_n (x := x5) dX9_readLine_101 rfl ?_
        obtain ⟨h100, r101, hf⟩ := ob hf
        have J119 : MW E m_X9_readLine (d + 7) mc ms 128 [some (vq (some a0)), none, none, none, none] [] h100 K := by
          refine mw_aload_n (x := (some a0)) dX9_readLine_128 rfl ?_
          refine mw_aload_n (x := (some a0)) dX9_readLine_129 rfl ?_
          refine mw_bipush (v := 59) dX9_readLine_130 (by decide) ?_
          obtain ⟨g104, e105, hf⟩ := ob hf
          obtain ⟨x106, h102, e103, hf⟩ := ob1 hf
          refine ml_callV (ci := 8) (mc' := 0) (ms' := 0) [vi (59 : Int32)] dX9_readLine_132 mk_X9_is lk_RX9_266 im_X9_is se_X9_is (by decide) e105 rfl (Nat.le_of_ble_eq_true rfl) (Nat.le_of_ble_eq_true rfl) (t_X9_is E _ e103 isR_rfl) ?_
          obtain ⟨g109, e110, hf⟩ := ob hf
          obtain ⟨h107, e108, hf⟩ := ob hf
          refine ml_callV (ci := 8) (mc' := 0) (ms' := 0) [vi x106] dX9_readLine_135 mk_X9_must lk_RX9_269 im_X9_must se_X9_must (by decide) e110 rfl (Nat.le_of_ble_eq_true rfl) (Nat.le_of_ble_eq_true rfl) (t_X9_must E _ e108 isR_rfl) ?_
          refine mw_aload_n (x := (some a0)) dX9_readLine_138 rfl ?_
          obtain ⟨x111, e112, hf⟩ := ob hf
          refine ml_getQ dX9_readLine_139 fl_RX9_73 rfl e112 ?_
          refine mw_iconst (v := 4) dX9_readLine_142 (by decide) ?_
          refine mw_dup2iq dX9_readLine_143 ?_
          obtain ⟨x113, e114, hf⟩ := ob hf
          refine ml_iald dX9_readLine_144 e114 ?_
          refine mw_iconst (v := 1) dX9_readLine_145 (by decide) ?_
          refine mw_iadd dX9_readLine_146 ?_
          obtain ⟨h115, e116, hf⟩ := ob hf
          refine ml_iast dX9_readLine_147 e116 ?_
          obtain rfl := y0 hf
          exact mw_return dX9_readLine_148 rfl hk
        refine mw_if_eq (tgt := 112) dX9_readLine_102 rfl (fun c73 => ?_) (fun c73 => ?_)
        · rw [if_pos c73] at r101
          refine mw_iload_n (x := x10) dX9_readLine_112 rfl ?_
          refine mw_if_eq (tgt := 123) dX9_readLine_113 rfl (fun c87 => ?_) (fun c87 => ?_)
          · rw [if_pos c87] at r101
            refine mw_aload_n (x := (some a0)) dX9_readLine_123 rfl ?_
            refine mw_iload_n (x := x15) dX9_readLine_124 rfl ?_
            obtain ⟨g90, e91, r101⟩ := ob r101
            obtain ⟨h88, e89, r101⟩ := ob r101
            refine ml_callV (ci := 8) (mc' := 0) (ms' := 0) [vi x15] dX9_readLine_125 mk_X9_readNumber lk_RX9_263 im_X9_readNumber se_X9_readNumber (by decide) e91 rfl (Nat.le_of_ble_eq_true rfl) (Nat.le_of_ble_eq_true rfl) (t_X9_readNumber E _ e89 isR_rfl) ?_
            obtain rfl := y0 r101
            exact MW.sub (subL_s (subL_n (subL_n (subL_n (subL_n subL_nil))))) J119
          · rw [if_neg c87] at r101
            refine mw_aload_n (x := (some a0)) dX9_readLine_116 rfl ?_
            obtain ⟨g94, e95, r101⟩ := ob r101
            obtain ⟨h92, e93, r101⟩ := ob r101
            refine ml_callV (ci := 8) (mc' := 0) (ms' := 0) [] dX9_readLine_117 mk_X9_readEmpty lk_RX9_260 im_X9_readEmpty se_X9_readEmpty (by decide) e95 rfl (Nat.le_of_ble_eq_true rfl) (Nat.le_of_ble_eq_true rfl) (t_X9_readEmpty E _ e93 isR_rfl) ?_
            refine mw_goto (tgt := 128) dX9_readLine_120 rfl ?_
            obtain rfl := y0 r101
            exact MW.sub (subL_s (subL_n (subL_n (subL_n (subL_n subL_nil))))) J119
        · rw [if_neg c73] at r101
          refine mw_aload_n (x := (some a0)) dX9_readLine_105 rfl ?_
          obtain ⟨g98, e99, r101⟩ := ob r101
          obtain ⟨h96, e97, r101⟩ := ob r101
          refine ml_callV (ci := 8) (mc' := 0) (ms' := 0) [] dX9_readLine_106 mk_X9_readCounts lk_RX9_257 im_X9_readCounts se_X9_readCounts (by decide) e99 rfl (Nat.le_of_ble_eq_true rfl) (Nat.le_of_ble_eq_true rfl) (t_X9_readCounts E _ e97 isR_rfl) ?_
          refine mw_goto (tgt := 128) dX9_readLine_109 rfl ?_
          obtain rfl := y0 r101
          exact MW.sub (subL_s (subL_n (subL_n (subL_n (subL_n subL_nil))))) J119
      · rw [if_pos c68] at hf
        obtain rfl := y0 hf
        exact mw_return dX9_readLine_96 rfl hk
    refine mw_if_eq (tgt := 89) dX9_readLine_82 rfl (fun c52 => ?_) (fun c52 => ?_)
    · rw [if_pos c52] at r62
      obtain rfl := y0 r62
      exact MW.sub (subL_s (subL_s (subL_s (subL_s (subL_n subL_nil))))) J118
    · rw [if_neg c52] at r62
      refine mw_aload_n (x := (some a0)) dX9_readLine_85 rfl ?_
      obtain ⟨g59, e60, r62⟩ := ob r62
      obtain ⟨h57, e58, r62⟩ := ob r62
      refine ml_callV (ci := 8) (mc' := 0) (ms' := 0) [] dX9_readLine_86 mk_X9_wrong lk_RX9_59 im_X9_wrong se_X9_wrong (by decide) e60 rfl (Nat.le_of_ble_eq_true rfl) (Nat.le_of_ble_eq_true rfl) (t_X9_wrong E _ e58 isR_rfl) ?_
      obtain rfl := y0 r62
      exact MW.sub (subL_s (subL_s (subL_s (subL_s (subL_n subL_nil))))) J118
  refine mw_if_eq (tgt := 44) dX9_readLine_22 rfl (fun c16 => ?_) (fun c16 => ?_)
  · rw [if_pos c16] at r51
    refine mw_iload_n (x := x10) dX9_readLine_44 rfl ?_
    refine mw_if_eq (tgt := 57) dX9_readLine_45 rfl (fun c33 => ?_) (fun c33 => ?_)
    · rw [if_pos c33] at r51
      refine mw_iload_n (x := x15) dX9_readLine_57 rfl ?_
      refine mw_if_lt (tgt := 73) dX9_readLine_58 rfl (fun c34 => ?_) (fun c34 => ?_)
      · rw [if_pos c34] at r51
        refine mw_iconst (v := 1) dX9_readLine_73 (by decide) ?_
        refine mw_goto (tgt := 78) dX9_readLine_74 rfl ?_
        obtain ⟨rfl, rfl⟩ := y1 r51
        exact MW.sub (subL_s (subL_s (subL_s (subL_s (subL_n subL_nil))))) J117
      · rw [if_neg c34] at r51
        refine mw_aload_n (x := (some a0)) dX9_readLine_61 rfl ?_
        obtain ⟨x35, e36, r51⟩ := ob r51
        refine ml_getQ dX9_readLine_62 fl_RX9_69 rfl e36 ?_
        refine mw_bipush (v := 28) dX9_readLine_65 (by decide) ?_
        refine mw_iload_n (x := x15) dX9_readLine_67 rfl ?_
        refine mw_iadd dX9_readLine_68 ?_
        obtain ⟨x37, e38, r51⟩ := ob r51
        refine ml_zald dX9_readLine_69 e38 ?_
        refine mw_if_eq (tgt := 77) dX9_readLine_70 rfl (fun c39 => ?_) (fun c39 => ?_)
        · rw [if_pos c39] at r51
          refine mw_iconst (v := 0) dX9_readLine_77 (by decide) ?_
          obtain ⟨rfl, rfl⟩ := y1 r51
          exact MW.sub (subL_s (subL_s (subL_s (subL_s (subL_n subL_nil))))) J117
        · rw [if_neg c39] at r51
          refine mw_iconst (v := 1) dX9_readLine_73 (by decide) ?_
          refine mw_goto (tgt := 78) dX9_readLine_74 rfl ?_
          obtain ⟨rfl, rfl⟩ := y1 r51
          exact MW.sub (subL_s (subL_s (subL_s (subL_s (subL_n subL_nil))))) J117
    · rw [if_neg c33] at r51
      refine mw_aload_n (x := (some a0)) dX9_readLine_48 rfl ?_
      obtain ⟨x40, e41, r51⟩ := ob r51
      refine ml_getQ dX9_readLine_49 fl_RX9_79 rfl e41 ?_
      refine mw_iconst (v := 4) dX9_readLine_52 (by decide) ?_
      obtain ⟨x42, e43, r51⟩ := ob r51
      refine ml_zald dX9_readLine_53 e43 ?_
      refine mw_goto (tgt := 78) dX9_readLine_54 rfl ?_
      obtain ⟨rfl, rfl⟩ := y1 r51
      exact MW.sub (subL_s (subL_s (subL_s (subL_s (subL_n subL_nil))))) J117
  · rw [if_neg c16] at r51
    refine mw_aload_n (x := (some a0)) dX9_readLine_25 rfl ?_
    obtain ⟨x44, e45, r51⟩ := ob r51
    refine ml_getQ dX9_readLine_26 fl_RX9_76 rfl e45 ?_
    refine mw_iconst (v := 4) dX9_readLine_29 (by decide) ?_
    obtain ⟨x46, e47, r51⟩ := ob r51
    refine ml_iald dX9_readLine_30 e47 ?_
    refine mw_bipush (v := 10) dX9_readLine_31 (by decide) ?_
    refine mw_icmp_ne (tgt := 40) dX9_readLine_33 rfl (fun c48 => ?_) (fun c48 => ?_)
    · rw [if_neg c48] at r51
      refine mw_iconst (v := 0) dX9_readLine_40 (by decide) ?_
      refine mw_goto (tgt := 78) dX9_readLine_41 rfl ?_
      obtain ⟨rfl, rfl⟩ := y1 r51
      exact MW.sub (subL_s (subL_s (subL_s (subL_s (subL_n subL_nil))))) J117
    · rw [if_pos c48] at r51
      refine mw_iconst (v := 1) dX9_readLine_36 (by decide) ?_
      refine mw_goto (tgt := 78) dX9_readLine_37 rfl ?_
      obtain ⟨rfl, rfl⟩ := y1 r51
      exact MW.sub (subL_s (subL_s (subL_s (subL_s (subL_n subL_nil))))) J117
def f_X9_lay_L2 : Nat → Nat → Int32 → Int32 → Hp → Option ((Hp))
  | 0, _, _, _, _ => none
  | n + 1, a0, v1, v2, h =>
    if (7 : Int32) ≤ v2 then
      some h
    else
      (getQ h (some a0) 8 11).bind fun x2 =>
      (getQ h (some a0) 8 11).bind fun x4 =>
      (rdI h x4 10 ((28 : Int32) + v2)).bind fun x6 =>
      (wrI h x2 (((7 : Int32) * v1) + v2) x6).bind fun h8 =>
      f_X9_lay_L2 n a0 v1 (v2 + 1) h8
def f_X9_lay_L72 : Nat → Nat → Int32 → Int32 → Hp → Option ((Hp))
  | 0, _, _, _, _ => none
  | n + 1, a0, v1, v2, h =>
    if (11 : Int32) ≤ v2 then
      some h
    else
      (getQ h (some a0) 8 14).bind fun x36 =>
      (getQ h (some a0) 8 14).bind fun x38 =>
      (rdI h x38 10 ((44 : Int32) + v2)).bind fun x40 =>
      (wrI h x36 (((11 : Int32) * v1) + v2) x40).bind fun h42 =>
      (getQ h42 (some a0) 8 15).bind fun x44 =>
      (getQ h42 (some a0) 8 15).bind fun x46 =>
      (rdI h42 x46 10 ((44 : Int32) + v2)).bind fun x48 =>
      (wrI h42 x44 (((11 : Int32) * v1) + v2) x48).bind fun h50 =>
      (getQ h50 (some a0) 8 16).bind fun x52 =>
      (getQ h50 (some a0) 8 16).bind fun x54 =>
      (rdI h50 x54 10 ((44 : Int32) + v2)).bind fun x56 =>
      (wrI h50 x52 (((11 : Int32) * v1) + v2) x56).bind fun h58 =>
      (getQ h58 (some a0) 8 17).bind fun x60 =>
      (getQ h58 (some a0) 8 17).bind fun x62 =>
      (rdI h58 x62 10 ((44 : Int32) + v2)).bind fun x64 =>
      (wrI h58 x60 (((11 : Int32) * v1) + v2) x64).bind fun h66 =>
      f_X9_lay_L72 n a0 v1 (v2 + 1) h66
def f_X9_lay_L166 : Nat → Nat → Int32 → Int32 → Hp → Option ((Hp))
  | 0, _, _, _, _ => none
  | n + 1, a0, v1, v2, h =>
    (getI h (some a0) 8 26).bind fun x69 =>
    if x69 ≤ v2 then
      some h
    else
      (getQ h (some a0) 8 18).bind fun x72 =>
      (getQ h (some a0) 8 18).bind fun x74 =>
      (rdI h x74 10 ((3600 : Int32) + v2)).bind fun x76 =>
      (wrI h x72 (((900 : Int32) * v1) + v2) x76).bind fun h78 =>
      (getQ h78 (some a0) 8 19).bind fun x80 =>
      (getQ h78 (some a0) 8 19).bind fun x82 =>
      (rdI h78 x82 10 ((3600 : Int32) + v2)).bind fun x84 =>
      (wrI h78 x80 (((900 : Int32) * v1) + v2) x84).bind fun h86 =>
      f_X9_lay_L166 n a0 v1 (v2 + 1) h86
def f_X9_lay (a0 : Nat) (v1 : Int32) (h : Hp) : Option (Hp) :=
  (f_X9_lay_L2 fu a0 v1 0 h).bind fun h10 =>
  (getQ h10 (some a0) 8 12).bind fun x11 =>
  (getQ h10 (some a0) 8 12).bind fun x13 =>
  (rdI h10 x13 10 4).bind fun x15 =>
  (wrI h10 x11 v1 x15).bind fun h17 =>
  (getQ h17 (some a0) 8 13).bind fun x19 =>
  (getQ h17 (some a0) 8 13).bind fun x21 =>
  (rdI h17 x21 10 4).bind fun x23 =>
  (wrI h17 x19 v1 x23).bind fun h25 =>
  (getQ h25 (some a0) 8 24).bind fun x27 =>
  (getQ h25 (some a0) 8 24).bind fun x29 =>
  (rdI h25 x29 12 4).bind fun x31 =>
  (wrZ h25 x27 v1 x31).bind fun h33 =>
  (f_X9_lay_L72 fu a0 v1 0 h33).bind fun h68 =>
  (f_X9_lay_L166 fu a0 v1 0 h68).bind fun h88 =>
  some h88
set_option maxHeartbeats 4000000 in
theorem tl_X9_lay_2 (E : En) (d : Nat) {mc ms : Nat} {K : Option Vv → Hp → Prop} : ∀ (n : Nat) (a0 : Nat) (v1 : Int32) (v2 : Int32) (h : Hp) (hz : Hp), f_X9_lay_L2 n a0 v1 v2 h = some hz → MW E m_X9_lay (d + 0) mc ms 34 [some (vq (some a0)), some (vi v1), none] [] hz K → MW E m_X9_lay (d + 0) mc ms 2 [some (vq (some a0)), some (vi v1), some (vi v2)] [] h K := by
  intro n
  induction n with
  | zero => intro a0 v1 v2 h hz hf; exact nomatch (show none = some _ from hf)
  | succ n ih =>
    intro a0 v1 v2 h hz hf hX34
    rw [f_X9_lay_L2] at hf
    refine mw_iload_n (x := v2) dX9_lay_2 rfl ?_
    refine mw_bipush (v := 7) dX9_lay_3 (by decide) ?_
    refine mw_icmp_ge (tgt := 34) dX9_lay_5 rfl (fun c1 => ?_) (fun c1 => ?_)
    · rw [if_pos c1] at hf
      obtain rfl := y0 hf
      exact MW.sub (subL_s (subL_s (subL_n subL_nil))) hX34
    · rw [if_neg c1] at hf
      refine mw_aload_n (x := (some a0)) dX9_lay_8 rfl ?_
      obtain ⟨x2, e3, hf⟩ := ob hf
      refine ml_getQ dX9_lay_9 fl_RX9_62 rfl e3 ?_
      refine mw_bipush (v := 7) dX9_lay_12 (by decide) ?_
      refine mw_iload_n (x := v1) dX9_lay_14 rfl ?_
      refine mw_imul dX9_lay_15 ?_
      refine mw_iload_n (x := v2) dX9_lay_16 rfl ?_
      refine mw_iadd dX9_lay_17 ?_
      refine mw_aload_n (x := (some a0)) dX9_lay_18 rfl ?_
      obtain ⟨x4, e5, hf⟩ := ob hf
      refine ml_getQ dX9_lay_19 fl_RX9_62 rfl e5 ?_
      refine mw_bipush (v := 28) dX9_lay_22 (by decide) ?_
      refine mw_iload_n (x := v2) dX9_lay_24 rfl ?_
      refine mw_iadd dX9_lay_25 ?_
      obtain ⟨x6, e7, hf⟩ := ob hf
      refine ml_iald dX9_lay_26 e7 ?_
      obtain ⟨h8, e9, hf⟩ := ob hf
      refine ml_iast dX9_lay_27 e9 ?_
      refine mw_iinc (x := v2) (v := v2 + 1) dX9_lay_28 rfl rfl (by decide) rfl ?_
      refine mw_goto (tgt := 2) dX9_lay_31 rfl ?_
      exact MW.sub (subL_s (subL_s (subL_s subL_nil))) (ih _ _ _ _ _ hf hX34)
set_option maxHeartbeats 4000000 in
theorem tl_X9_lay_72 (E : En) (d : Nat) {mc ms : Nat} {K : Option Vv → Hp → Prop} : ∀ (n : Nat) (a0 : Nat) (v1 : Int32) (v2 : Int32) (h : Hp) (hz : Hp), f_X9_lay_L72 n a0 v1 v2 h = some hz → MW E m_X9_lay (d + 0) mc ms 164 [some (vq (some a0)), some (vi v1), none] [] hz K → MW E m_X9_lay (d + 0) mc ms 72 [some (vq (some a0)), some (vi v1), some (vi v2)] [] h K := by
  intro n
  induction n with
  | zero => intro a0 v1 v2 h hz hf; exact nomatch (show none = some _ from hf)
  | succ n ih =>
    intro a0 v1 v2 h hz hf hX164
    rw [f_X9_lay_L72] at hf
    refine mw_iload_n (x := v2) dX9_lay_72 rfl ?_
    refine mw_bipush (v := 11) dX9_lay_73 (by decide) ?_
    refine mw_icmp_ge (tgt := 164) dX9_lay_75 rfl (fun c35 => ?_) (fun c35 => ?_)
    · rw [if_pos c35] at hf
      obtain rfl := y0 hf
      exact MW.sub (subL_s (subL_s (subL_n subL_nil))) hX164
    · rw [if_neg c35] at hf
      refine mw_aload_n (x := (some a0)) dX9_lay_78 rfl ?_
      obtain ⟨x36, e37, hf⟩ := ob hf
      refine ml_getQ dX9_lay_79 fl_RX9_90 rfl e37 ?_
      refine mw_bipush (v := 11) dX9_lay_82 (by decide) ?_
      refine mw_iload_n (x := v1) dX9_lay_84 rfl ?_
      refine mw_imul dX9_lay_85 ?_
      refine mw_iload_n (x := v2) dX9_lay_86 rfl ?_
      refine mw_iadd dX9_lay_87 ?_
      refine mw_aload_n (x := (some a0)) dX9_lay_88 rfl ?_
      obtain ⟨x38, e39, hf⟩ := ob hf
      refine ml_getQ dX9_lay_89 fl_RX9_90 rfl e39 ?_
      refine mw_bipush (v := 44) dX9_lay_92 (by decide) ?_
      refine mw_iload_n (x := v2) dX9_lay_94 rfl ?_
      refine mw_iadd dX9_lay_95 ?_
      obtain ⟨x40, e41, hf⟩ := ob hf
      refine ml_iald dX9_lay_96 e41 ?_
      obtain ⟨h42, e43, hf⟩ := ob hf
      refine ml_iast dX9_lay_97 e43 ?_
      refine mw_aload_n (x := (some a0)) dX9_lay_98 rfl ?_
      obtain ⟨x44, e45, hf⟩ := ob hf
      refine ml_getQ dX9_lay_99 fl_RX9_93 rfl e45 ?_
      refine mw_bipush (v := 11) dX9_lay_102 (by decide) ?_
      refine mw_iload_n (x := v1) dX9_lay_104 rfl ?_
      refine mw_imul dX9_lay_105 ?_
      refine mw_iload_n (x := v2) dX9_lay_106 rfl ?_
      refine mw_iadd dX9_lay_107 ?_
      refine mw_aload_n (x := (some a0)) dX9_lay_108 rfl ?_
      obtain ⟨x46, e47, hf⟩ := ob hf
      refine ml_getQ dX9_lay_109 fl_RX9_93 rfl e47 ?_
      refine mw_bipush (v := 44) dX9_lay_112 (by decide) ?_
      refine mw_iload_n (x := v2) dX9_lay_114 rfl ?_
      refine mw_iadd dX9_lay_115 ?_
      obtain ⟨x48, e49, hf⟩ := ob hf
      refine ml_iald dX9_lay_116 e49 ?_
      obtain ⟨h50, e51, hf⟩ := ob hf
      refine ml_iast dX9_lay_117 e51 ?_
      refine mw_aload_n (x := (some a0)) dX9_lay_118 rfl ?_
      obtain ⟨x52, e53, hf⟩ := ob hf
      refine ml_getQ dX9_lay_119 fl_RX9_96 rfl e53 ?_
      refine mw_bipush (v := 11) dX9_lay_122 (by decide) ?_
      refine mw_iload_n (x := v1) dX9_lay_124 rfl ?_
      refine mw_imul dX9_lay_125 ?_
      refine mw_iload_n (x := v2) dX9_lay_126 rfl ?_
      refine mw_iadd dX9_lay_127 ?_
      refine mw_aload_n (x := (some a0)) dX9_lay_128 rfl ?_
      obtain ⟨x54, e55, hf⟩ := ob hf
      refine ml_getQ dX9_lay_129 fl_RX9_96 rfl e55 ?_
      refine mw_bipush (v := 44) dX9_lay_132 (by decide) ?_
      refine mw_iload_n (x := v2) dX9_lay_134 rfl ?_
      refine mw_iadd dX9_lay_135 ?_
      obtain ⟨x56, e57, hf⟩ := ob hf
      refine ml_iald dX9_lay_136 e57 ?_
      obtain ⟨h58, e59, hf⟩ := ob hf
      refine ml_iast dX9_lay_137 e59 ?_
      refine mw_aload_n (x := (some a0)) dX9_lay_138 rfl ?_
      obtain ⟨x60, e61, hf⟩ := ob hf
      refine ml_getQ dX9_lay_139 fl_RX9_99 rfl e61 ?_
      refine mw_bipush (v := 11) dX9_lay_142 (by decide) ?_
      refine mw_iload_n (x := v1) dX9_lay_144 rfl ?_
      refine mw_imul dX9_lay_145 ?_
      refine mw_iload_n (x := v2) dX9_lay_146 rfl ?_
      refine mw_iadd dX9_lay_147 ?_
      refine mw_aload_n (x := (some a0)) dX9_lay_148 rfl ?_
      obtain ⟨x62, e63, hf⟩ := ob hf
      refine ml_getQ dX9_lay_149 fl_RX9_99 rfl e63 ?_
      refine mw_bipush (v := 44) dX9_lay_152 (by decide) ?_
      refine mw_iload_n (x := v2) dX9_lay_154 rfl ?_
      refine mw_iadd dX9_lay_155 ?_
      obtain ⟨x64, e65, hf⟩ := ob hf
      refine ml_iald dX9_lay_156 e65 ?_
      obtain ⟨h66, e67, hf⟩ := ob hf
      refine ml_iast dX9_lay_157 e67 ?_
      refine mw_iinc (x := v2) (v := v2 + 1) dX9_lay_158 rfl rfl (by decide) rfl ?_
      refine mw_goto (tgt := 72) dX9_lay_161 rfl ?_
      exact MW.sub (subL_s (subL_s (subL_s subL_nil))) (ih _ _ _ _ _ hf hX164)
set_option maxHeartbeats 4000000 in
theorem tl_X9_lay_166 (E : En) (d : Nat) {mc ms : Nat} {K : Option Vv → Hp → Prop} : ∀ (n : Nat) (a0 : Nat) (v1 : Int32) (v2 : Int32) (h : Hp) (hz : Hp), f_X9_lay_L166 n a0 v1 v2 h = some hz → MW E m_X9_lay (d + 0) mc ms 224 [none, none, none] [] hz K → MW E m_X9_lay (d + 0) mc ms 166 [some (vq (some a0)), some (vi v1), some (vi v2)] [] h K := by
  intro n
  induction n with
  | zero => intro a0 v1 v2 h hz hf; exact nomatch (show none = some _ from hf)
  | succ n ih =>
    intro a0 v1 v2 h hz hf hX224
    rw [f_X9_lay_L166] at hf
    refine mw_iload_n (x := v2) dX9_lay_166 rfl ?_
    refine mw_aload_n (x := (some a0)) dX9_lay_167 rfl ?_
    obtain ⟨x69, e70, hf⟩ := ob hf
    refine ml_getI dX9_lay_168 fl_RX9_209 rfl e70 ?_
    refine mw_icmp_ge (tgt := 224) dX9_lay_171 rfl (fun c71 => ?_) (fun c71 => ?_)
    · rw [if_pos c71] at hf
      obtain rfl := y0 hf
      exact MW.sub (subL_n (subL_n (subL_n subL_nil))) hX224
    · rw [if_neg c71] at hf
      refine mw_aload_n (x := (some a0)) dX9_lay_174 rfl ?_
      obtain ⟨x72, e73, hf⟩ := ob hf
      refine ml_getQ dX9_lay_175 fl_RX9_102 rfl e73 ?_
      refine mw_sipush (v := 900) dX9_lay_178 (by decide) ?_
      refine mw_iload_n (x := v1) dX9_lay_181 rfl ?_
      refine mw_imul dX9_lay_182 ?_
      refine mw_iload_n (x := v2) dX9_lay_183 rfl ?_
      refine mw_iadd dX9_lay_184 ?_
      refine mw_aload_n (x := (some a0)) dX9_lay_185 rfl ?_
      obtain ⟨x74, e75, hf⟩ := ob hf
      refine ml_getQ dX9_lay_186 fl_RX9_102 rfl e75 ?_
      refine mw_sipush (v := 3600) dX9_lay_189 (by decide) ?_
      refine mw_iload_n (x := v2) dX9_lay_192 rfl ?_
      refine mw_iadd dX9_lay_193 ?_
      obtain ⟨x76, e77, hf⟩ := ob hf
      refine ml_iald dX9_lay_194 e77 ?_
      obtain ⟨h78, e79, hf⟩ := ob hf
      refine ml_iast dX9_lay_195 e79 ?_
      refine mw_aload_n (x := (some a0)) dX9_lay_196 rfl ?_
      obtain ⟨x80, e81, hf⟩ := ob hf
      refine ml_getQ dX9_lay_197 fl_RX9_105 rfl e81 ?_
      refine mw_sipush (v := 900) dX9_lay_200 (by decide) ?_
      refine mw_iload_n (x := v1) dX9_lay_203 rfl ?_
      refine mw_imul dX9_lay_204 ?_
      refine mw_iload_n (x := v2) dX9_lay_205 rfl ?_
      refine mw_iadd dX9_lay_206 ?_
      refine mw_aload_n (x := (some a0)) dX9_lay_207 rfl ?_
      obtain ⟨x82, e83, hf⟩ := ob hf
      refine ml_getQ dX9_lay_208 fl_RX9_105 rfl e83 ?_
      refine mw_sipush (v := 3600) dX9_lay_211 (by decide) ?_
      refine mw_iload_n (x := v2) dX9_lay_214 rfl ?_
      refine mw_iadd dX9_lay_215 ?_
      obtain ⟨x84, e85, hf⟩ := ob hf
      refine ml_iald dX9_lay_216 e85 ?_
      obtain ⟨h86, e87, hf⟩ := ob hf
      refine ml_iast dX9_lay_217 e87 ?_
      refine mw_iinc (x := v2) (v := v2 + 1) dX9_lay_218 rfl rfl (by decide) rfl ?_
      refine mw_goto (tgt := 166) dX9_lay_221 rfl ?_
      exact MW.sub (subL_s (subL_s (subL_s subL_nil))) (ih _ _ _ _ _ hf hX224)
set_option maxHeartbeats 4000000 in
theorem t_X9_lay (E : En) (d : Nat) {mc ms : Nat} {a0 : Nat} {v1 : Int32} {h h' : Hp} {K : Option Vv → Hp → Prop} (hf : f_X9_lay a0 v1 h = some h') (hk : K none h') : MC E m_X9_lay (d + 0) mc ms [vq (some a0), vi v1] h K := by
  unfold f_X9_lay at hf
  show MW E m_X9_lay (d + 0) mc ms 0 [some (vq (some a0)), some (vi v1), none] [] h K
  refine mw_iconst (v := 0) dX9_lay_0 (by decide) ?_
  refine mw_istore_n dX9_lay_1 (by decide) rfl ?_
  obtain ⟨h10, e93, hf⟩ := ob hf
  refine MW.sub (subL_s (subL_s (subL_s subL_nil))) (tl_X9_lay_2 E d _ _ _ _ _ _ e93 ?_)
  refine mw_aload_n (x := (some a0)) dX9_lay_34 rfl ?_
  obtain ⟨x11, e12, hf⟩ := ob hf
  refine ml_getQ dX9_lay_35 fl_RX9_73 rfl e12 ?_
  refine mw_iload_n (x := v1) dX9_lay_38 rfl ?_
  refine mw_aload_n (x := (some a0)) dX9_lay_39 rfl ?_
  obtain ⟨x13, e14, hf⟩ := ob hf
  refine ml_getQ dX9_lay_40 fl_RX9_73 rfl e14 ?_
  refine mw_iconst (v := 4) dX9_lay_43 (by decide) ?_
  obtain ⟨x15, e16, hf⟩ := ob hf
  refine ml_iald dX9_lay_44 e16 ?_
  obtain ⟨h17, e18, hf⟩ := ob hf
  refine ml_iast dX9_lay_45 e18 ?_
  refine mw_aload_n (x := (some a0)) dX9_lay_46 rfl ?_
  obtain ⟨x19, e20, hf⟩ := ob hf
  refine ml_getQ dX9_lay_47 fl_RX9_76 rfl e20 ?_
  refine mw_iload_n (x := v1) dX9_lay_50 rfl ?_
  refine mw_aload_n (x := (some a0)) dX9_lay_51 rfl ?_
  obtain ⟨x21, e22, hf⟩ := ob hf
  refine ml_getQ dX9_lay_52 fl_RX9_76 rfl e22 ?_
  refine mw_iconst (v := 4) dX9_lay_55 (by decide) ?_
  obtain ⟨x23, e24, hf⟩ := ob hf
  refine ml_iald dX9_lay_56 e24 ?_
  obtain ⟨h25, e26, hf⟩ := ob hf
  refine ml_iast dX9_lay_57 e26 ?_
  refine mw_aload_n (x := (some a0)) dX9_lay_58 rfl ?_
  obtain ⟨x27, e28, hf⟩ := ob hf
  refine ml_getQ dX9_lay_59 fl_RX9_79 rfl e28 ?_
  refine mw_iload_n (x := v1) dX9_lay_62 rfl ?_
  refine mw_aload_n (x := (some a0)) dX9_lay_63 rfl ?_
  obtain ⟨x29, e30, hf⟩ := ob hf
  refine ml_getQ dX9_lay_64 fl_RX9_79 rfl e30 ?_
  refine mw_iconst (v := 4) dX9_lay_67 (by decide) ?_
  obtain ⟨x31, e32, hf⟩ := ob hf
  refine ml_zald dX9_lay_68 e32 ?_
  obtain ⟨h33, e34, hf⟩ := ob hf
  refine ml_zast dX9_lay_69 e34 ?_
  refine mw_iconst (v := 0) dX9_lay_70 (by decide) ?_
  refine mw_istore_n dX9_lay_71 (by decide) rfl ?_
  obtain ⟨h68, e91, hf⟩ := ob hf
  refine MW.sub (subL_s (subL_s (subL_s subL_nil))) (tl_X9_lay_72 E d _ _ _ _ _ _ e91 ?_)
  refine mw_iconst (v := 0) dX9_lay_164 (by decide) ?_
  refine mw_istore_n dX9_lay_165 (by decide) rfl ?_
  obtain ⟨h88, e89, hf⟩ := ob hf
  refine MW.sub (subL_s (subL_s (subL_s subL_nil))) (tl_X9_lay_166 E d _ _ _ _ _ _ e89 ?_)
  obtain rfl := y0 hf
  exact mw_return dX9_lay_224 rfl hk
def f_X9_act_L30 : Nat → Nat → Int32 → Int32 → Hp → Option ((Hp))
  | 0, _, _, _, _ => none
  | n + 1, a0, v1, v2, h =>
    (getI h (some a0) 8 3).bind fun x13 =>
    if x13 ≤ v2 then
      some h
    else
      (getQ h (some a0) 8 1).bind fun x16 =>
      (getQ h (some a0) 8 0).bind fun x18 =>
      (rdI h x18 9 v2).bind fun x20 =>
      (wrB h x16 v2 x20).bind fun h22 =>
      f_X9_act_L30 n a0 v1 (v2 + 1) h22
def f_X9_act_L93 : Nat → Nat → Int32 → Hp → Option ((Hp))
  | 0, _, _, _ => none
  | n + 1, a0, v1, h =>
    (rc h (some a0) 8).bind fun g47 =>
    b1 (f_X9_isGood g47 h) fun x49 h45 =>
    if x49 = (0 : Int32) then
      some h45
    else
      (getI h45 (some a0) 8 8).bind fun x51 =>
      if x51 = (0 : Int32) then
        some h45
      else
        (rc h45 (some a0) 8).bind fun g56 =>
        (f_X9_readLine g56 h45).bind fun h54 =>
        f_X9_act_L93 n a0 v1 h54
def f_X9_act (a0 : Nat) (v1 : Int32) (h : Hp) : Option (Int32 × Hp) :=
  b1 (f_X9_isShelf v1 h) fun x3 h1 =>
  if x3 = (0 : Int32) then
    some ((-2), h1)
  else
    (putI h1 (some a0) 8 4 0).bind fun h5 =>
    (putI h5 (some a0) 8 5 (-1)).bind fun h7 =>
    (getI h7 (some a0) 8 2).bind fun x9 =>
    (putI h7 (some a0) 8 3 x9).bind fun h11 =>
    (f_X9_act_L30 fu a0 v1 0 h11).bind fun h24 =>
    (putI h24 (some a0) 8 2 0).bind fun h25 =>
    (putI h25 (some a0) 8 7 0).bind fun h27 =>
    (putI h27 (some a0) 8 25 4).bind fun h29 =>
    (getI h29 (some a0) 8 25).bind fun x31 =>
    (rc h29 (some a0) 8).bind fun g35 =>
    (f_X9_clear g35 x31 h29).bind fun h33 =>
    (putI h33 (some a0) 8 26 0).bind fun h37 =>
    (putI h37 (some a0) 8 27 0).bind fun h39 =>
    (rc h39 (some a0) 8).bind fun g43 =>
    (f_X9_next g43 h39).bind fun h41 =>
    (f_X9_act_L93 fu a0 v1 h41).bind fun h58 =>
    (rc h58 (some a0) 8).bind fun g61 =>
    b1 (f_X9_isGood g61 h58) fun x63 h59 =>
    if x63 = (0 : Int32) then
      some ((-1), h59)
    else
      (rc h59 (some a0) 8).bind fun g67 =>
      (f_X9_lay g67 v1 h59).bind fun h65 =>
      (getQ h65 (some a0) 8 12).bind fun x69 =>
      (rdI h65 x69 10 v1).bind fun x71 =>
      some (x71, h65)
set_option maxHeartbeats 4000000 in
theorem tl_X9_act_30 (E : En) (d : Nat) {mc ms : Nat} {K : Option Vv → Hp → Prop} : ∀ (n : Nat) (a0 : Nat) (v1 : Int32) (v2 : Int32) (h : Hp) (hz : Hp), f_X9_act_L30 n a0 v1 v2 h = some hz → MW E m_X9_act (d + 8) mc ms 56 [some (vq (some a0)), some (vi v1), none] [] hz K → MW E m_X9_act (d + 8) mc ms 30 [some (vq (some a0)), some (vi v1), some (vi v2)] [] h K := by
  intro n
  induction n with
  | zero => intro a0 v1 v2 h hz hf; exact nomatch (show none = some _ from hf)
  | succ n ih =>
    intro a0 v1 v2 h hz hf hX56
    rw [f_X9_act_L30] at hf
    refine mw_iload_n (x := v2) dX9_act_30 rfl ?_
    refine mw_aload_n (x := (some a0)) dX9_act_31 rfl ?_
    obtain ⟨x13, e14, hf⟩ := ob hf
    refine ml_getI dX9_act_32 fl_RX9_1 rfl e14 ?_
    refine mw_icmp_ge (tgt := 56) dX9_act_35 rfl (fun c15 => ?_) (fun c15 => ?_)
    · rw [if_pos c15] at hf
      obtain rfl := y0 hf
      exact MW.sub (subL_s (subL_s (subL_n subL_nil))) hX56
    · rw [if_neg c15] at hf
      refine mw_aload_n (x := (some a0)) dX9_act_38 rfl ?_
      obtain ⟨x16, e17, hf⟩ := ob hf
      refine ml_getQ dX9_act_39 fl_RX9_7 rfl e17 ?_
      refine mw_iload_n (x := v2) dX9_act_42 rfl ?_
      refine mw_aload_n (x := (some a0)) dX9_act_43 rfl ?_
      obtain ⟨x18, e19, hf⟩ := ob hf
      refine ml_getQ dX9_act_44 fl_RX9_87 rfl e19 ?_
      refine mw_iload_n (x := v2) dX9_act_47 rfl ?_
      obtain ⟨x20, e21, hf⟩ := ob hf
      refine ml_bald dX9_act_48 e21 ?_
      obtain ⟨h22, e23, hf⟩ := ob hf
      refine ml_bast dX9_act_49 e23 ?_
      refine mw_iinc (x := v2) (v := v2 + 1) dX9_act_50 rfl rfl (by decide) rfl ?_
      refine mw_goto (tgt := 30) dX9_act_53 rfl ?_
      exact MW.sub (subL_s (subL_s (subL_s subL_nil))) (ih _ _ _ _ _ hf hX56)
set_option maxHeartbeats 4000000 in
theorem tl_X9_act_93 (E : En) (d : Nat) {mc ms : Nat} {K : Option Vv → Hp → Prop} : ∀ (n : Nat) (a0 : Nat) (v1 : Int32) (h : Hp) (hz : Hp), f_X9_act_L93 n a0 v1 h = some hz → MW E m_X9_act (d + 8) mc ms 114 [some (vq (some a0)), some (vi v1), none] [] hz K → MW E m_X9_act (d + 8) mc ms 93 [some (vq (some a0)), some (vi v1), none] [] h K := by
  intro n
  induction n with
  | zero => intro a0 v1 h hz hf; exact nomatch (show none = some _ from hf)
  | succ n ih =>
    intro a0 v1 h hz hf hX114
    rw [f_X9_act_L93] at hf
    refine mw_aload_n (x := (some a0)) dX9_act_93 rfl ?_
    obtain ⟨g47, e48, hf⟩ := ob hf
    obtain ⟨x49, h45, e46, hf⟩ := ob1 hf
    refine ml_callV (ci := 8) (mc' := 0) (ms' := 0) [] dX9_act_94 mk_X9_isGood lk_RX9_51 im_X9_isGood se_X9_isGood (by decide) e48 rfl (Nat.le_of_ble_eq_true rfl) (Nat.le_of_ble_eq_true rfl) (t_X9_isGood E _ e46 isR_rfl) ?_
    refine mw_if_eq (tgt := 114) dX9_act_97 rfl (fun c50 => ?_) (fun c50 => ?_)
    · rw [if_pos c50] at hf
      obtain rfl := y0 hf
      exact MW.sub (subL_s (subL_s (subL_n subL_nil))) hX114
    · rw [if_neg c50] at hf
      refine mw_aload_n (x := (some a0)) dX9_act_100 rfl ?_
      obtain ⟨x51, e52, hf⟩ := ob hf
      refine ml_getI dX9_act_101 fl_RX9_27 rfl e52 ?_
      refine mw_if_eq (tgt := 114) dX9_act_104 rfl (fun c53 => ?_) (fun c53 => ?_)
      · rw [if_pos c53] at hf
        obtain rfl := y0 hf
        exact MW.sub (subL_s (subL_s (subL_n subL_nil))) hX114
      · rw [if_neg c53] at hf
        refine mw_aload_n (x := (some a0)) dX9_act_107 rfl ?_
        obtain ⟨g56, e57, hf⟩ := ob hf
        obtain ⟨h54, e55, hf⟩ := ob hf
        refine ml_callV (ci := 8) (mc' := 0) (ms' := 0) [] dX9_act_108 mk_X9_readLine lk_RX9_215 im_X9_readLine se_X9_readLine (by decide) e57 rfl (Nat.le_of_ble_eq_true rfl) (Nat.le_of_ble_eq_true rfl) (t_X9_readLine E _ e55 isR_rfl) ?_
        refine mw_goto (tgt := 93) dX9_act_111 rfl ?_
        exact MW.sub (subL_s (subL_s (subL_n subL_nil))) (ih _ _ _ _ hf hX114)
set_option maxHeartbeats 4000000 in
theorem t_X9_act (E : En) (d : Nat) {mc ms : Nat} {a0 : Nat} {v1 : Int32} {h h' : Hp} {r : Int32} {K : Option Vv → Hp → Prop} (hf : f_X9_act a0 v1 h = some (r, h')) (hk : K (some (vi r)) h') : MC E m_X9_act (d + 8) mc ms [vq (some a0), vi v1] h K := by
  unfold f_X9_act at hf
  show MW E m_X9_act (d + 8) mc ms 0 [some (vq (some a0)), some (vi v1), none] [] h K
  refine mw_iload_n (x := v1) dX9_act_0 rfl ?_
  obtain ⟨x3, h1, e2, hf⟩ := ob1 hf
  refine ml_callS (mc' := 0) (ms' := 0) [vi v1] dX9_act_1 mk_X9_isShelf lk_RX9_200 st_X9_isShelf rfl (Nat.le_of_ble_eq_true rfl) (Nat.le_of_ble_eq_true rfl) (t_X9_isShelf E _ e2 isR_rfl) ?_
  refine mw_if_ne (tgt := 10) dX9_act_4 rfl (fun c4 => ?_) (fun c4 => ?_)
  · rw [if_neg c4] at hf
    refine mw_aload_n (x := (some a0)) dX9_act_10 rfl ?_
    refine mw_iconst (v := 0) dX9_act_11 (by decide) ?_
    obtain ⟨h5, e6, hf⟩ := ob hf
    refine ml_putI dX9_act_12 fl_RX9_11 (Or.inl rfl) rfl rfl e6 ?_
    refine mw_aload_n (x := (some a0)) dX9_act_15 rfl ?_
    refine mw_iconst (v := (-1)) dX9_act_16 (by decide) ?_
    obtain ⟨h7, e8, hf⟩ := ob hf
    refine ml_putI dX9_act_17 fl_RX9_14 (Or.inl rfl) rfl rfl e8 ?_
    refine mw_aload_n (x := (some a0)) dX9_act_20 rfl ?_
    refine mw_aload_n (x := (some a0)) dX9_act_21 rfl ?_
    obtain ⟨x9, e10, hf⟩ := ob hf
    refine ml_getI dX9_act_22 fl_RX9_203 rfl e10 ?_
    obtain ⟨h11, e12, hf⟩ := ob hf
    refine ml_putI dX9_act_25 fl_RX9_1 (Or.inl rfl) rfl rfl e12 ?_
    refine mw_iconst (v := 0) dX9_act_28 (by decide) ?_
    refine mw_istore_n dX9_act_29 (by decide) rfl ?_
    obtain ⟨h24, e75, hf⟩ := ob hf
    refine MW.sub (subL_s (subL_s (subL_s subL_nil))) (tl_X9_act_30 E d _ _ _ _ _ _ e75 ?_)
    refine mw_aload_n (x := (some a0)) dX9_act_56 rfl ?_
    refine mw_iconst (v := 0) dX9_act_57 (by decide) ?_
    obtain ⟨h25, e26, hf⟩ := ob hf
    refine ml_putI dX9_act_58 fl_RX9_203 (Or.inl rfl) rfl rfl e26 ?_
    refine mw_aload_n (x := (some a0)) dX9_act_61 rfl ?_
    refine mw_iconst (v := 0) dX9_act_62 (by decide) ?_
    obtain ⟨h27, e28, hf⟩ := ob hf
    refine ml_putI dX9_act_63 fl_RX9_17 (Or.inl rfl) rfl rfl e28 ?_
    refine mw_aload_n (x := (some a0)) dX9_act_66 rfl ?_
    refine mw_iconst (v := 4) dX9_act_67 (by decide) ?_
    obtain ⟨h29, e30, hf⟩ := ob hf
    refine ml_putI dX9_act_68 fl_RX9_206 (Or.inl rfl) rfl rfl e30 ?_
    refine mw_aload_n (x := (some a0)) dX9_act_71 rfl ?_
    refine mw_aload_n (x := (some a0)) dX9_act_72 rfl ?_
    obtain ⟨x31, e32, hf⟩ := ob hf
    refine ml_getI dX9_act_73 fl_RX9_206 rfl e32 ?_
    obtain ⟨g35, e36, hf⟩ := ob hf
    obtain ⟨h33, e34, hf⟩ := ob hf
    refine ml_callV (ci := 8) (mc' := 0) (ms' := 0) [vi x31] dX9_act_76 mk_X9_clear lk_RX9_196 im_X9_clear se_X9_clear (by decide) e36 rfl (Nat.le_of_ble_eq_true rfl) (Nat.le_of_ble_eq_true rfl) (t_X9_clear E _ e34 isR_rfl) ?_
    refine mw_aload_n (x := (some a0)) dX9_act_79 rfl ?_
    refine mw_iconst (v := 0) dX9_act_80 (by decide) ?_
    obtain ⟨h37, e38, hf⟩ := ob hf
    refine ml_putI dX9_act_81 fl_RX9_209 (Or.inl rfl) rfl rfl e38 ?_
    refine mw_aload_n (x := (some a0)) dX9_act_84 rfl ?_
    refine mw_iconst (v := 0) dX9_act_85 (by decide) ?_
    obtain ⟨h39, e40, hf⟩ := ob hf
    refine ml_putI dX9_act_86 fl_RX9_212 (Or.inl rfl) rfl rfl e40 ?_
    refine mw_aload_n (x := (some a0)) dX9_act_89 rfl ?_
    obtain ⟨g43, e44, hf⟩ := ob hf
    obtain ⟨h41, e42, hf⟩ := ob hf
    refine ml_callV (ci := 8) (mc' := 0) (ms' := 0) [] dX9_act_90 mk_X9_next lk_RX9_55 im_X9_next se_X9_next (by decide) e44 rfl (Nat.le_of_ble_eq_true rfl) (Nat.le_of_ble_eq_true rfl) (t_X9_next E _ e42 isR_rfl) ?_
    obtain ⟨h58, e73, hf⟩ := ob hf
    refine MW.sub (subL_s (subL_s (subL_n subL_nil))) (tl_X9_act_93 E d _ _ _ _ _ e73 ?_)
    refine mw_aload_n (x := (some a0)) dX9_act_114 rfl ?_
    obtain ⟨g61, e62, hf⟩ := ob hf
    obtain ⟨x63, h59, e60, hf⟩ := ob1 hf
    refine ml_callV (ci := 8) (mc' := 0) (ms' := 0) [] dX9_act_115 mk_X9_isGood lk_RX9_51 im_X9_isGood se_X9_isGood (by decide) e62 rfl (Nat.le_of_ble_eq_true rfl) (Nat.le_of_ble_eq_true rfl) (t_X9_isGood E _ e60 isR_rfl) ?_
    refine mw_if_ne (tgt := 123) dX9_act_118 rfl (fun c64 => ?_) (fun c64 => ?_)
    · rw [if_neg c64] at hf
      refine mw_aload_n (x := (some a0)) dX9_act_123 rfl ?_
      refine mw_iload_n (x := v1) dX9_act_124 rfl ?_
      obtain ⟨g67, e68, hf⟩ := ob hf
      obtain ⟨h65, e66, hf⟩ := ob hf
      refine ml_callV (ci := 8) (mc' := 0) (ms' := 0) [vi v1] dX9_act_125 mk_X9_lay lk_RX9_218 im_X9_lay se_X9_lay (by decide) e68 rfl (Nat.le_of_ble_eq_true rfl) (Nat.le_of_ble_eq_true rfl) (t_X9_lay E _ e66 isR_rfl) ?_
      refine mw_aload_n (x := (some a0)) dX9_act_128 rfl ?_
      obtain ⟨x69, e70, hf⟩ := ob hf
      refine ml_getQ dX9_act_129 fl_RX9_73 rfl e70 ?_
      refine mw_iload_n (x := v1) dX9_act_132 rfl ?_
      obtain ⟨x71, e72, hf⟩ := ob hf
      refine ml_iald dX9_act_133 e72 ?_
      obtain ⟨rfl, rfl⟩ := y1 hf
      exact mw_ireturn dX9_act_134 rfl rfl hk
    · rw [if_pos c64] at hf
      refine mw_iconst (v := (-1)) dX9_act_121 (by decide) ?_
      obtain ⟨rfl, rfl⟩ := y1 hf
      exact mw_ireturn dX9_act_122 rfl rfl hk
  · rw [if_pos c4] at hf
    refine mw_bipush (v := (-2)) dX9_act_7 (by decide) ?_
    obtain ⟨rfl, rfl⟩ := y1 hf
    exact mw_ireturn dX9_act_9 rfl rfl hk
def f_X9_counts (a0 : Nat) (v1 : Int32) (v2 : Int32) (v3 : Int32) (v4 : Int32) (h : Hp) : Option (Int32 × Hp) :=
  (getQ h (some a0) 8 32).bind fun x1 =>
  (rdI h x1 10 v1).bind fun x3 =>
  b1 ((if x3 = v2 then
      (getQ h (some a0) 8 33).bind fun x26 =>
      (rdI h x26 10 v1).bind fun x28 =>
      if x28 = v3 then
        (getQ h (some a0) 8 37).bind fun x31 =>
        (rdI h x31 10 v1).bind fun x33 =>
        if v4 < x33 then
          some (0, h)
        else
          (getQ h (some a0) 8 38).bind fun x36 =>
          (rdI h x36 10 v1).bind fun x38 =>
          if x38 < (0 : Int32) then
            some (1, h)
          else
            (getQ h (some a0) 8 38).bind fun x41 =>
            (rdI h x41 10 v1).bind fun x43 =>
            if x43 ≤ v4 then
              some (0, h)
            else
              some (1, h)
      else
        some (0, h)
    else
      some (0, h) : Option (Int32 × Hp))) fun w46 h47 =>
  (zok w46).bind fun z49 =>
  some (w46, h47)
set_option maxHeartbeats 4000000 in
theorem t_X9_counts (E : En) (d : Nat) {mc ms : Nat} {a0 : Nat} {v1 : Int32} {v2 : Int32} {v3 : Int32} {v4 : Int32} {h h' : Hp} {r : Int32} {K : Option Vv → Hp → Prop} (hf : f_X9_counts a0 v1 v2 v3 v4 h = some (r, h')) (hk : K (some (vi r)) h') : MC E m_X9_counts (d + 0) mc ms [vq (some a0), vi v1, vi v2, vi v3, vi v4] h K := by
  unfold f_X9_counts at hf
  show MW E m_X9_counts (d + 0) mc ms 0 [some (vq (some a0)), some (vi v1), some (vi v2), some (vi v3), some (vi v4)] [] h K
  refine mw_aload_n (x := (some a0)) dX9_counts_0 rfl ?_
  obtain ⟨x1, e2, hf⟩ := ob hf
  refine ml_getQ dX9_counts_1 fl_RX9_123 rfl e2 ?_
  refine mw_iload_n (x := v1) dX9_counts_4 rfl ?_
  obtain ⟨x3, e4, hf⟩ := ob hf
  refine ml_iald dX9_counts_5 e4 ?_
  refine mw_iload_n (x := v2) dX9_counts_6 rfl ?_
  obtain ⟨w46, h47, r48, hf⟩ := ob1 hf
  have J51 : MW E m_X9_counts (d + 0) mc ms 56 [none, none, none, none, none] [vi w46] h47 K := by
    obtain ⟨z49, e50, hf⟩ := ob hf
    obtain ⟨rfl, rfl⟩ := y1 hf
    exact mw_ireturn dX9_counts_56 rfl (zok_of e50) hk
  refine mw_icmp_ne (tgt := 55) dX9_counts_7 rfl (fun c5 => ?_) (fun c5 => ?_)
  · rw [if_neg c5] at r48
    refine mw_iconst (v := 0) dX9_counts_55 (by decide) ?_
    obtain ⟨rfl, rfl⟩ := y1 r48
    exact MW.sub (subL_n (subL_n (subL_n (subL_n (subL_n subL_nil))))) J51
  · rw [if_pos c5] at r48
    refine mw_aload_n (x := (some a0)) dX9_counts_10 rfl ?_
    obtain ⟨x26, e27, r48⟩ := ob r48
    refine ml_getQ dX9_counts_11 fl_RX9_126 rfl e27 ?_
    refine mw_iload_n (x := v1) dX9_counts_14 rfl ?_
    obtain ⟨x28, e29, r48⟩ := ob r48
    refine ml_iald dX9_counts_15 e29 ?_
    refine mw_iload_n (x := v3) dX9_counts_16 rfl ?_
    refine mw_icmp_ne (tgt := 55) dX9_counts_17 rfl (fun c30 => ?_) (fun c30 => ?_)
    · rw [if_neg c30] at r48
      refine mw_iconst (v := 0) dX9_counts_55 (by decide) ?_
      obtain ⟨rfl, rfl⟩ := y1 r48
      exact MW.sub (subL_n (subL_n (subL_n (subL_n (subL_n subL_nil))))) J51
    · rw [if_pos c30] at r48
      refine mw_aload_n (x := (some a0)) dX9_counts_20 rfl ?_
      obtain ⟨x31, e32, r48⟩ := ob r48
      refine ml_getQ dX9_counts_21 fl_RX9_138 rfl e32 ?_
      refine mw_iload_n (x := v1) dX9_counts_24 rfl ?_
      obtain ⟨x33, e34, r48⟩ := ob r48
      refine ml_iald dX9_counts_25 e34 ?_
      refine mw_iload (x := v4) dX9_counts_26 rfl ?_
      refine mw_icmp_gt (tgt := 55) dX9_counts_28 rfl (fun c35 => ?_) (fun c35 => ?_)
      · rw [if_pos c35] at r48
        refine mw_iconst (v := 0) dX9_counts_55 (by decide) ?_
        obtain ⟨rfl, rfl⟩ := y1 r48
        exact MW.sub (subL_n (subL_n (subL_n (subL_n (subL_n subL_nil))))) J51
      · rw [if_neg c35] at r48
        refine mw_aload_n (x := (some a0)) dX9_counts_31 rfl ?_
        obtain ⟨x36, e37, r48⟩ := ob r48
        refine ml_getQ dX9_counts_32 fl_RX9_141 rfl e37 ?_
        refine mw_iload_n (x := v1) dX9_counts_35 rfl ?_
        obtain ⟨x38, e39, r48⟩ := ob r48
        refine ml_iald dX9_counts_36 e39 ?_
        refine mw_if_lt (tgt := 51) dX9_counts_37 rfl (fun c40 => ?_) (fun c40 => ?_)
        · rw [if_pos c40] at r48
          refine mw_iconst (v := 1) dX9_counts_51 (by decide) ?_
          refine mw_goto (tgt := 56) dX9_counts_52 rfl ?_
          obtain ⟨rfl, rfl⟩ := y1 r48
          exact MW.sub (subL_n (subL_n (subL_n (subL_n (subL_n subL_nil))))) J51
        · rw [if_neg c40] at r48
          refine mw_aload_n (x := (some a0)) dX9_counts_40 rfl ?_
          obtain ⟨x41, e42, r48⟩ := ob r48
          refine ml_getQ dX9_counts_41 fl_RX9_141 rfl e42 ?_
          refine mw_iload_n (x := v1) dX9_counts_44 rfl ?_
          obtain ⟨x43, e44, r48⟩ := ob r48
          refine ml_iald dX9_counts_45 e44 ?_
          refine mw_iload (x := v4) dX9_counts_46 rfl ?_
          refine mw_icmp_le (tgt := 55) dX9_counts_48 rfl (fun c45 => ?_) (fun c45 => ?_)
          · rw [if_pos c45] at r48
            refine mw_iconst (v := 0) dX9_counts_55 (by decide) ?_
            obtain ⟨rfl, rfl⟩ := y1 r48
            exact MW.sub (subL_n (subL_n (subL_n (subL_n (subL_n subL_nil))))) J51
          · rw [if_neg c45] at r48
            refine mw_iconst (v := 1) dX9_counts_51 (by decide) ?_
            refine mw_goto (tgt := 56) dX9_counts_52 rfl ?_
            obtain ⟨rfl, rfl⟩ := y1 r48
            exact MW.sub (subL_n (subL_n (subL_n (subL_n (subL_n subL_nil))))) J51
def f_X9_bitsOf_L4 : Nat → Int32 → Int32 → Int32 → Hp → Option ((Int32 × Hp))
  | 0, _, _, _, _ => none
  | n + 1, v0, v1, v2, h =>
    if (10 : Int32) ≤ v2 then
      some (v1, h)
    else
      f_X9_bitsOf_L4 n v0 (v1 + ((v0 >>> (v2 &&& 31)) &&& (1 : Int32))) (v2 + 1) h
def f_X9_bitsOf (v0 : Int32) (h : Hp) : Option (Int32 × Hp) :=
  b1 (f_X9_bitsOf_L4 fu v0 0 0 h) fun w2 h3 =>
  some (w2, h3)
set_option maxHeartbeats 4000000 in
theorem tl_X9_bitsOf_4 (E : En) (d : Nat) {mc ms : Nat} {K : Option Vv → Hp → Prop} : ∀ (n : Nat) (v0 : Int32) (v1 : Int32) (v2 : Int32) (h : Hp) (u1 : Int32) (hz : Hp), f_X9_bitsOf_L4 n v0 v1 v2 h = some (u1, hz) → MW E m_X9_bitsOf (d + 0) mc ms 24 [none, some (vi u1), none] [] hz K → MW E m_X9_bitsOf (d + 0) mc ms 4 [some (vi v0), some (vi v1), some (vi v2)] [] h K := by
  intro n
  induction n with
  | zero => intro v0 v1 v2 h u1 hz hf; exact nomatch (show none = some _ from hf)
  | succ n ih =>
    intro v0 v1 v2 h u1 hz hf hX24
    rw [f_X9_bitsOf_L4] at hf
    refine mw_iload_n (x := v2) dX9_bitsOf_4 rfl ?_
    refine mw_bipush (v := 10) dX9_bitsOf_5 (by decide) ?_
    refine mw_icmp_ge (tgt := 24) dX9_bitsOf_7 rfl (fun c1 => ?_) (fun c1 => ?_)
    · rw [if_pos c1] at hf
      obtain ⟨rfl, rfl⟩ := y1 hf
      exact MW.sub (subL_n (subL_s (subL_n subL_nil))) hX24
    · rw [if_neg c1] at hf
      refine mw_iload_n (x := v1) dX9_bitsOf_10 rfl ?_
      refine mw_iload_n (x := v0) dX9_bitsOf_11 rfl ?_
      refine mw_iload_n (x := v2) dX9_bitsOf_12 rfl ?_
      refine mw_ishr dX9_bitsOf_13 ?_
      refine mw_iconst (v := 1) dX9_bitsOf_14 (by decide) ?_
      refine mw_iand dX9_bitsOf_15 ?_
      refine mw_iadd dX9_bitsOf_16 ?_
      refine mw_istore_n dX9_bitsOf_17 (by decide) rfl ?_
      refine mw_iinc (x := v2) (v := v2 + 1) dX9_bitsOf_18 rfl rfl (by decide) rfl ?_
      refine mw_goto (tgt := 4) dX9_bitsOf_21 rfl ?_
      exact MW.sub (subL_s (subL_s (subL_s subL_nil))) (ih _ _ _ _ _ _ hf hX24)
set_option maxHeartbeats 4000000 in
theorem t_X9_bitsOf (E : En) (d : Nat) {mc ms : Nat} {v0 : Int32} {h h' : Hp} {r : Int32} {K : Option Vv → Hp → Prop} (hf : f_X9_bitsOf v0 h = some (r, h')) (hk : K (some (vi r)) h') : MC E m_X9_bitsOf (d + 0) mc ms [vi v0] h K := by
  unfold f_X9_bitsOf at hf
  show MW E m_X9_bitsOf (d + 0) mc ms 0 [some (vi v0), none, none] [] h K
  refine mw_iconst (v := 0) dX9_bitsOf_0 (by decide) ?_
  refine mw_istore_n dX9_bitsOf_1 (by decide) rfl ?_
  refine mw_iconst (v := 0) dX9_bitsOf_2 (by decide) ?_
  refine mw_istore_n dX9_bitsOf_3 (by decide) rfl ?_
  obtain ⟨w2, h3, e4, hf⟩ := ob1 hf
  refine MW.sub (subL_s (subL_s (subL_s subL_nil))) (tl_X9_bitsOf_4 E d _ _ _ _ _ _ _ e4 ?_)
  refine mw_iload_n (x := w2) dX9_bitsOf_24 rfl ?_
  obtain ⟨rfl, rfl⟩ := y1 hf
  exact mw_ireturn dX9_bitsOf_25 rfl rfl hk
